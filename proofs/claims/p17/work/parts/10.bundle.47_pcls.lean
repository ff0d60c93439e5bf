section
-- 47.pcls
/-! ===== The class's grids: what their methods answer, plainly ===== -/
theorem vu_self {α : Type} {f : Nat → α} {i : Nat} {x : α} : va_up f i x i = x := if_pos rfl
theorem vu_ne {α : Type} {f : Nat → α} {i j : Nat} {x : α} (h : j ≠ i) : va_up f i x j = f j := if_neg h
theorem vu2 {α : Type} {f : Nat → α} {i : Nat} {x y : α} : va_up (va_up f i x) i y = va_up f i y := by
  funext j; unfold va_up; split <;> rfl
theorem vu_id {α : Type} {f : Nat → α} {i : Nat} : va_up f i (f i) = f := by
  funext j; unfold va_up; split
  · next h => rw [h]
  · rfl
theorem gapN {a b : Nat} (ha : a < 2 ^ 31) (hb : b < 2 ^ 31) : gap (nI a) (nI b) = a - b := by
  unfold gap
  rw [nI_toInt ha, nI_toInt hb]
  omega
theorem s1 {y : Nat} : nI y + 1 = nI (y + 1) := nI_add y 1
theorem ile {a b : Nat} (h : a ≤ b) (hb : b < 2 ^ 31) : nI a ≤ nI b := by rw [nleP (by omega) hb]; exact h
theorem nile {a b : Nat} (h : ¬ a ≤ b) (ha : a < 2 ^ 31) : ¬ nI a ≤ nI b := by rw [nleP ha (by omega)]; exact h
theorem nile4 {a : Nat} (h : a < 4) : ¬ (4 : Int32) ≤ nI a := nile (a := 4) (by omega) (by omega)
theorem nile5 {a : Nat} (h : a < 5) : ¬ (5 : Int32) ≤ nI a := nile (a := 5) (by omega) (by omega)
theorem ile20 {a : Nat} (h : 20 ≤ a) (h2 : a < 2 ^ 31) : (20 : Int32) ≤ nI a := ile (a := 20) h h2
theorem nile20 {a : Nat} (h : ¬ 20 ≤ a) : ¬ (20 : Int32) ≤ nI a := nile (a := 20) h (by omega)
theorem ilt0 {a : Nat} (ha : a < 2 ^ 31) : ¬ nI a < 0 := nI_pos ha
section PCG
variable {r q : Nat → Int32} {f : Nat → Nat → Int64} {i j R C a b : Nat} {x t : Int64} {p0 : Int32}
theorem cidx (ha : a < 4) (hb : b < 5) : ((nI a * 5) + nI b).toNatClampNeg = a * 5 + b := by
  rw [show (5 : Int32) = nI 5 from rfl, nI_mul, nI_add, nI_clamp (by omega)]
theorem cget (ha : a < 4) (hb : b < 5) : D_X3_get r q f i (nI a) (nI b) = f i (a * 5 + b) := by
  unfold D_X3_get nm
  rw [if_neg (ilt0 (by omega)), if_neg (nile4 ha), if_neg (ilt0 (by omega)), if_pos (by rw [show (5 : Int32) = nI 5 from rfl, nltP (by omega) (by omega)]; exact hb), cidx ha hb]
theorem cset (ha : a < 4) (hb : b < 5) : D_X3_set r q f i (nI a) (nI b) x = va_up f i (vp_updL (f i) (a * 5 + b) x) := by
  unfold D_X3_set
  rw [if_neg (ilt0 (by omega)), if_neg (nile4 ha), if_neg (ilt0 (by omega)), if_neg (nile5 hb), cidx ha hb]
/-- rows or columns of that number -/
theorem chas {L : Nat} {k : Int32} (hL : (if p0 = 0 then r (2 * i) else r (2 * i + 1)) = nI L) (hL5 : L ≤ 5) : (∃ n, k = nI n ∧ n < L ∧ D_X3_hasLine r q f i p0 k = 1) ∨ ((k < 0 ∨ nI L ≤ k) ∧ D_X3_hasLine r q f i p0 k = 0) := by
  unfold D_X3_hasLine
  by_cases h0 : k < 0
  · exact Or.inr ⟨Or.inl h0, if_pos h0⟩
  · rw [if_neg h0]
    obtain ⟨n, hn, rfl⟩ := nI_of h0
    by_cases e : p0 = 0
    · rw [if_pos e] at hL
      rw [if_pos e, hL]
      by_cases h : L ≤ n
      · exact Or.inr ⟨Or.inr (ile h hn), if_pos (ile h hn)⟩
      · exact Or.inl ⟨n, rfl, by omega, if_neg (nile h (by omega))⟩
    · rw [if_neg e] at hL
      rw [if_neg e, hL]
      by_cases h : L ≤ n
      · exact Or.inr ⟨Or.inr (ile h hn), if_pos (ile h hn)⟩
      · exact Or.inl ⟨n, rfl, by omega, if_neg (nile h (by omega))⟩
/-- a column's signs are turned -/
def tc (R i : Nat) (f : Nat → Int64) : Nat → Int64 := fun k => if k / 5 < R ∧ k % 5 = i then -f k else f k
theorem tc0 {g : Nat → Int64} : tc 0 a g = g := by funext k; unfold tc; rw [if_neg (by omega)]
theorem tc_step {g : Nat → Int64} {y : Nat} (ha : a < 5) : vp_updL (tc y a g) (y * 5 + a) (-(tc y a g (y * 5 + a))) = tc (y + 1) a g := by
  have e1 : tc y a g (y * 5 + a) = g (y * 5 + a) := by unfold tc; rw [if_neg (by omega)]
  rw [e1]
  funext k
  unfold vp_updL
  by_cases a1 : k = y * 5 + a
  · subst a1
    rw [if_pos rfl]
    unfold tc
    rw [if_pos (by omega)]
  · rw [if_neg a1]
    unfold tc
    by_cases b1 : k / 5 < y ∧ k % 5 = a
    · rw [if_pos b1, if_pos (by omega)]
    · rw [if_neg b1, if_neg (by omega)]
theorem caddR_l (hC : r (2 * i + 1) = nI C) (h5 : C ≤ 5) (ha : a < 4) (hb : b < 4) (hab : a ≠ b) : ∀ n y : Nat, y ≤ C → C - y < n → D_X3_addLine_20 r q i 0 (nI a) (nI b) t n (nI y) (va_up f i (ar y a b t (f i))) = va_up f i (ar C a b t (f i)) := by
  intro n
  induction n with
  | zero => intro y _ h; omega
  | succ n ih =>
    intro y hy hn
    rw [D_X3_addLine_20_s]
    by_cases e : C ≤ y
    · rw [if_pos (by rw [hC]; exact ile e (by omega)), show y = C by omega]
    · rw [if_neg (by rw [hC]; exact nile e (by omega)), if_pos rfl]
      simp only [bnd1]
      rw [cget ha (by omega), cget hb (by omega), cset ha (by omega), vu_self, vu2, ar_step (by omega) hab (by omega), s1]
      exact ih (y + 1) (by omega) (by omega)
theorem caddC_l (hp : ¬ p0 = 0) (hR : r (2 * i) = nI R) (h4 : R ≤ 4) (ha : a < 5) (hb : b < 5) (hab : a ≠ b) : ∀ n y : Nat, y ≤ R → R - y < n → D_X3_addLine_20_1 r q i p0 (nI a) (nI b) t n (nI y) (va_up f i (ac y a b t (f i))) = va_up f i (ac R a b t (f i)) := by
  intro n
  induction n with
  | zero => intro y _ h; omega
  | succ n ih =>
    intro y hy hn
    rw [D_X3_addLine_20_1_s]
    by_cases e : R ≤ y
    · rw [if_pos (by rw [hR]; exact ile e (by omega)), show y = R by omega]
    · rw [if_neg (by rw [hR]; exact nile e (by omega)), if_neg hp]
      simp only [bnd1]
      rw [cget (by omega) ha, cget (by omega) hb, cset (by omega) ha, vu_self, vu2, ac_step ha hb hab, s1]
      exact ih (y + 1) (by omega) (by omega)
theorem caddR (hC : r (2 * i + 1) = nI C) (h5 : C ≤ 5) (ha : a < 4) (hb : b < 4) (hab : a ≠ b) : D_X3_addLine r q f i 0 (nI a) (nI b) t = va_up f i (ar C a b t (f i)) := by
  unfold D_X3_addLine
  rw [if_pos rfl, hC, show (0 : Int32) = nI 0 from rfl, gapN (by omega) (by omega)]
  have h := caddR_l (q := q) (f := f) (t := t) hC h5 ha hb hab (C - 0 + 1) 0 (by omega) (by omega)
  rw [ar0, vu_id] at h
  exact h
theorem caddC (hp : ¬ p0 = 0) (hR : r (2 * i) = nI R) (h4 : R ≤ 4) (ha : a < 5) (hb : b < 5) (hab : a ≠ b) : D_X3_addLine r q f i p0 (nI a) (nI b) t = va_up f i (ac R a b t (f i)) := by
  unfold D_X3_addLine
  rw [if_neg hp, hR, show (0 : Int32) = nI 0 from rfl, gapN (by omega) (by omega)]
  have h := caddC_l (q := q) (f := f) (t := t) hp hR h4 ha hb hab (R - 0 + 1) 0 (by omega) (by omega)
  rw [ac0, vu_id] at h
  exact h
theorem cexR_l (hC : r (2 * i + 1) = nI C) (h5 : C ≤ 5) (ha : a < 4) (hb : b < 4) : ∀ n y : Nat, y ≤ C → C - y < n → D_X3_exchangeLines_20 r q i 0 (nI a) (nI b) n (nI y) (va_up f i (xr y a b (f i))) = va_up f i (xr C a b (f i)) := by
  intro n
  induction n with
  | zero => intro y _ h; omega
  | succ n ih =>
    intro y hy hn
    rw [D_X3_exchangeLines_20_s]
    by_cases e : C ≤ y
    · rw [if_pos (by rw [hC]; exact ile e (by omega)), show y = C by omega]
    · rw [if_neg (by rw [hC]; exact nile e (by omega)), if_pos rfl]
      simp only [bnd1]
      rw [D_X3_exchangeLines_j48_s, if_pos rfl]
      simp only [bnd1]
      rw [cget ha (by omega), cget hb (by omega), cset ha (by omega), vu_self, vu2, cset hb (by omega), vu_self, vu2, xr_step (by omega) (by omega) (by omega), s1]
      exact ih (y + 1) (by omega) (by omega)
theorem cexC_l (hp : ¬ p0 = 0) (hR : r (2 * i) = nI R) (h4 : R ≤ 4) (ha : a < 5) (hb : b < 5) : ∀ n y : Nat, y ≤ R → R - y < n → D_X3_exchangeLines_20_1 r q i p0 (nI a) (nI b) n (nI y) (va_up f i (xc y a b (f i))) = va_up f i (xc R a b (f i)) := by
  intro n
  induction n with
  | zero => intro y _ h; omega
  | succ n ih =>
    intro y hy hn
    rw [D_X3_exchangeLines_20_1_s]
    by_cases e : R ≤ y
    · rw [if_pos (by rw [hR]; exact ile e (by omega)), show y = R by omega]
    · rw [if_neg (by rw [hR]; exact nile e (by omega)), if_neg hp]
      simp only [bnd1]
      rw [D_X3_exchangeLines_j48_1_s, if_neg hp]
      simp only [bnd1]
      rw [cget (by omega) ha, cget (by omega) hb, cset (by omega) ha, vu_self, vu2, cset (by omega) hb, vu_self, vu2, xc_step ha hb ha, s1]
      exact ih (y + 1) (by omega) (by omega)
theorem cexR (hC : r (2 * i + 1) = nI C) (h5 : C ≤ 5) (ha : a < 4) (hb : b < 4) : D_X3_exchangeLines r q f i 0 (nI a) (nI b) = va_up f i (xr C a b (f i)) := by
  unfold D_X3_exchangeLines
  rw [if_pos rfl, hC, show (0 : Int32) = nI 0 from rfl, gapN (by omega) (by omega)]
  have h := cexR_l (q := q) (f := f) hC h5 ha hb (C - 0 + 1) 0 (by omega) (by omega)
  rw [xr0, vu_id] at h
  exact h
theorem cexC (hp : ¬ p0 = 0) (hR : r (2 * i) = nI R) (h4 : R ≤ 4) (ha : a < 5) (hb : b < 5) : D_X3_exchangeLines r q f i p0 (nI a) (nI b) = va_up f i (xc R a b (f i)) := by
  unfold D_X3_exchangeLines
  rw [if_neg hp, hR, show (0 : Int32) = nI 0 from rfl, gapN (by omega) (by omega)]
  have h := cexC_l (q := q) (f := f) hp hR h4 ha hb (R - 0 + 1) 0 (by omega) (by omega)
  rw [xc0, vu_id] at h
  exact h
theorem ctuR_l (hC : r (2 * i + 1) = nI C) (h5 : C ≤ 5) (ha : a < 4) : ∀ n y : Nat, y ≤ C → C - y < n → D_X3_turnLine_19 r q i 0 (nI a) n (nI y) (va_up f i (tr y a (f i))) = va_up f i (tr C a (f i)) := by
  intro n
  induction n with
  | zero => intro y _ h; omega
  | succ n ih =>
    intro y hy hn
    rw [D_X3_turnLine_19_s]
    by_cases e : C ≤ y
    · rw [if_pos (by rw [hC]; exact ile e (by omega)), show y = C by omega]
    · rw [if_neg (by rw [hC]; exact nile e (by omega)), if_pos rfl]
      simp only [bnd1]
      rw [cget ha (by omega), cset ha (by omega), vu_self, vu2, tr_step (by omega) (by omega) (by omega), s1]
      exact ih (y + 1) (by omega) (by omega)
theorem ctuC_l (hp : ¬ p0 = 0) (hR : r (2 * i) = nI R) (h4 : R ≤ 4) (ha : a < 5) : ∀ n y : Nat, y ≤ R → R - y < n → D_X3_turnLine_19_1 r q i p0 (nI a) n (nI y) (va_up f i (tc y a (f i))) = va_up f i (tc R a (f i)) := by
  intro n
  induction n with
  | zero => intro y _ h; omega
  | succ n ih =>
    intro y hy hn
    rw [D_X3_turnLine_19_1_s]
    by_cases e : R ≤ y
    · rw [if_pos (by rw [hR]; exact ile e (by omega)), show y = R by omega]
    · rw [if_neg (by rw [hR]; exact nile e (by omega)), if_neg hp]
      simp only [bnd1]
      rw [cget (by omega) ha, cset (by omega) ha, vu_self, vu2, tc_step ha, s1]
      exact ih (y + 1) (by omega) (by omega)
theorem ctuR (hC : r (2 * i + 1) = nI C) (h5 : C ≤ 5) (ha : a < 4) : D_X3_turnLine r q f i 0 (nI a) = va_up f i (tr C a (f i)) := by
  unfold D_X3_turnLine
  rw [if_pos rfl, hC, show (0 : Int32) = nI 0 from rfl, gapN (by omega) (by omega)]
  have h := ctuR_l (q := q) (f := f) hC h5 ha (C - 0 + 1) 0 (by omega) (by omega)
  rw [tr0, vu_id] at h
  exact h
theorem ctuC (hp : ¬ p0 = 0) (hR : r (2 * i) = nI R) (h4 : R ≤ 4) (ha : a < 5) : D_X3_turnLine r q f i p0 (nI a) = va_up f i (tc R a (f i)) := by
  unfold D_X3_turnLine
  rw [if_neg hp, hR, show (0 : Int32) = nI 0 from rfl, gapN (by omega) (by omega)]
  have h := ctuC_l (q := q) (f := f) hp hR h4 ha (R - 0 + 1) 0 (by omega) (by omega)
  rw [tc0, vu_id] at h
  exact h
end PCG
/-- how many of the first n places are so -/
def cnt (n : Nat) (p : Nat → Bool) : Nat := Nat.rec 0 (fun k c => c + if p k then 1 else 0) n
theorem cnt_s {n : Nat} {p : Nat → Bool} : cnt (n + 1) p = cnt n p + if p n then 1 else 0 := rfl
theorem cnt_le {n : Nat} {p : Nat → Bool} : cnt n p ≤ n := by
  induction n with
  | zero => exact Nat.le_refl _
  | succ n ih => rw [cnt_s]; split <;> omega
theorem cnt_congr {n : Nat} {p q : Nat → Bool} (h : ∀ k, k < n → p k = q k) : cnt n p = cnt n q := by
  induction n with
  | zero => rfl
  | succ n ih => rw [cnt_s, cnt_s, ih (fun k hk => h k (by omega)), h n (by omega)]
theorem cnt_gap {m n : Nat} {p : Nat → Bool} (hmn : m ≤ n) (h : ∀ k, m ≤ k → k < n → p k = false) : cnt n p = cnt m p := by
  induction n with
  | zero => rw [show m = 0 by omega]
  | succ n ih =>
    by_cases e : m = n + 1
    · rw [e]
    · rw [cnt_s, ih (by omega) (fun k h1 h2 => h k h1 (by omega)), h n (by omega) (by omega)]
      rfl
theorem cnt_0 {n : Nat} {p : Nat → Bool} : cnt n p = 0 ↔ ∀ k, k < n → p k = false := by
  induction n with
  | zero => exact ⟨fun _ k hk => absurd hk (Nat.not_lt_zero k), fun _ => rfl⟩
  | succ n ih =>
    rw [cnt_s]
    constructor
    · intro h k hk
      have h1 : cnt n p = 0 := by omega
      by_cases e : k = n
      · subst e
        cases hp : p k with
        | false => rfl
        | true => rw [hp] at h; simp at h
      · exact ih.mp h1 k (by omega)
    · intro h
      rw [ih.mpr (fun k hk => h k (by omega)), h n (by omega)]
      rfl
/-- all of a grid that lies beyond its columns is 0 -/
def zc (C n : Nat) (g : Nat → Int64) : Prop := ∀ k, k < n → C ≤ k % 5 → g k = 0
def nzb (g : Nat → Int64) (k : Nat) : Bool := !decide (g k = 0)
def neb (g h : Nat → Int64) (k : Nat) : Bool := !decide (g k = h k)
theorem lgE {x y : Int64} : lg_cmp x y = 0 ↔ x = y := lg_cmp_eq x y
section PCC
variable {r q : Nat → Int32} {f : Nat → Nat → Int64} {i j R C Rj Cj : Nat} {p : Int64}
theorem ccf_in (hC : r (2 * i + 1) = nI C) (h5 : C ≤ 5) {a : Nat} (ha : a < 4) {lb : Int32 → Int32 → Int32} : ∀ n y : Nat, y ≤ C → C - y < n → ∀ x, x ≤ 20 → x = cnt (a * 5 + y) (nzb (f i)) → D_X3_countFilled_14 r q f i lb (nI a) n (nI y) (nI x) = lb (nI (a + 1)) (nI (cnt (a * 5 + C) (nzb (f i)))) := by
  intro n
  induction n with
  | zero => intro y _ h; omega
  | succ n ih =>
    intro y hy hn x hx20 hx
    rw [D_X3_countFilled_14_s]
    by_cases e : C ≤ y
    · rw [if_pos (by rw [hC]; exact ile e (by omega)), hx, show y = C by omega, s1]
    · rw [if_neg (by rw [hC]; exact nile e (by omega))]
      simp only [bnd1]
      rw [cget ha (by omega)]
      have hb : cnt (a * 5 + y + 1) (nzb (f i)) ≤ a * 5 + y + 1 := cnt_le
      by_cases e2 : f i (a * 5 + y) = 0
      · rw [if_pos (lgE.mpr e2), s1]
        exact ih (y + 1) (by omega) (by omega) x hx20 (by rw [hx]; show _ = cnt (a * 5 + y + 1) _; rw [cnt_s]; simp [nzb, e2])
      · rw [if_neg (fun h => e2 (lgE.mp h)), s1, s1]
        have e3 : x + 1 = cnt (a * 5 + y + 1) (nzb (f i)) := by rw [hx, cnt_s]; simp [nzb, e2]
        exact ih (y + 1) (by omega) (by omega) (x + 1) (by omega) e3
theorem ccf_out (hR : r (2 * i) = nI R) (hC : r (2 * i + 1) = nI C) (h4 : R ≤ 4) (h5 : C ≤ 5) (hz : zc C 20 (f i)) : ∀ n y : Nat, y ≤ R → R - y < n → D_X3_countFilled_4 r q f i n (nI y) (nI (cnt (y * 5) (nzb (f i)))) = nI (cnt (R * 5) (nzb (f i))) := by
  intro n
  induction n with
  | zero => intro y _ h; omega
  | succ n ih =>
    intro y hy hn
    rw [D_X3_countFilled_4_s]
    by_cases e : R ≤ y
    · rw [if_pos (by rw [hR]; exact ile e (by omega)), show y = R by omega]
    · rw [if_neg (by rw [hR]; exact nile e (by omega)), hC, show (0 : Int32) = nI 0 from rfl, gapN (by omega) (by omega)]
      have hb : cnt (y * 5) (nzb (f i)) ≤ y * 5 := cnt_le
      rw [ccf_in (a := y) hC h5 (by omega) (C - 0 + 1) 0 (by omega) (by omega) (cnt (y * 5) (nzb (f i))) (by omega) rfl]
      have e1 : cnt (y * 5 + C) (nzb (f i)) = cnt ((y + 1) * 5) (nzb (f i)) := by
        refine (cnt_gap (by omega) (fun k h1 h2 => ?_)).symm
        simp [nzb, hz k (by omega) (by omega)]
      rw [e1]
      exact ih (y + 1) (by omega) (by omega)
theorem ccf (hR : r (2 * i) = nI R) (hC : r (2 * i + 1) = nI C) (h4 : R ≤ 4) (h5 : C ≤ 5) (hz : zc C 20 (f i)) : D_X3_countFilled r q f i = nI (cnt (R * 5) (nzb (f i))) := by
  unfold D_X3_countFilled
  rw [hR, show (0 : Int32) = nI 0 from rfl, gapN (by omega) (by omega)]
  have h := ccf_out (q := q) hR hC h4 h5 hz (R - 0 + 1) 0 (by omega) (by omega)
  rw [show cnt (0 * 5) (nzb (f i)) = 0 by rw [Nat.zero_mul]; rfl] at h
  exact h
theorem ccu_in (hC : r (2 * i + 1) = nI C) (h5 : C ≤ 5) {a : Nat} (ha : a < 4) {lb : Int32 → Int32 → Int32} : ∀ n y : Nat, y ≤ C → C - y < n → ∀ x, x ≤ 20 → x = cnt (a * 5 + y) (neb (f i) (f j)) → D_X3_countUnlike_15 r q f i j lb (nI a) n (nI y) (nI x) = lb (nI (a + 1)) (nI (cnt (a * 5 + C) (neb (f i) (f j)))) := by
  intro n
  induction n with
  | zero => intro y _ h; omega
  | succ n ih =>
    intro y hy hn x hx20 hx
    rw [D_X3_countUnlike_15_s]
    by_cases e : C ≤ y
    · rw [if_pos (by rw [hC]; exact ile e (by omega)), hx, show y = C by omega, s1]
    · rw [if_neg (by rw [hC]; exact nile e (by omega))]
      simp only [bnd1]
      rw [cget ha (by omega), cget ha (by omega)]
      have hb : cnt (a * 5 + y + 1) (neb (f i) (f j)) ≤ a * 5 + y + 1 := cnt_le
      by_cases e2 : f i (a * 5 + y) = f j (a * 5 + y)
      · rw [if_pos (lgE.mpr e2), s1]
        exact ih (y + 1) (by omega) (by omega) x hx20 (by rw [hx]; show _ = cnt (a * 5 + y + 1) _; rw [cnt_s]; simp [neb, e2])
      · rw [if_neg (fun h => e2 (lgE.mp h)), s1, s1]
        have e3 : x + 1 = cnt (a * 5 + y + 1) (neb (f i) (f j)) := by rw [hx, cnt_s]; simp [neb, e2]
        exact ih (y + 1) (by omega) (by omega) (x + 1) (by omega) e3
theorem ccu_out (hR : r (2 * i) = nI R) (hC : r (2 * i + 1) = nI C) (h4 : R ≤ 4) (h5 : C ≤ 5) (hz : zc C 20 (f i)) (hz2 : zc C 20 (f j)) : ∀ n y : Nat, y ≤ R → R - y < n → D_X3_countUnlike_4 r q f i j n (nI y) (nI (cnt (y * 5) (neb (f i) (f j)))) = nI (cnt (R * 5) (neb (f i) (f j))) := by
  intro n
  induction n with
  | zero => intro y _ h; omega
  | succ n ih =>
    intro y hy hn
    rw [D_X3_countUnlike_4_s]
    by_cases e : R ≤ y
    · rw [if_pos (by rw [hR]; exact ile e (by omega)), show y = R by omega]
    · rw [if_neg (by rw [hR]; exact nile e (by omega)), hC, show (0 : Int32) = nI 0 from rfl, gapN (by omega) (by omega)]
      have hb : cnt (y * 5) (neb (f i) (f j)) ≤ y * 5 := cnt_le
      rw [ccu_in (a := y) hC h5 (by omega) (C - 0 + 1) 0 (by omega) (by omega) (cnt (y * 5) (neb (f i) (f j))) (by omega) rfl]
      have e1 : cnt (y * 5 + C) (neb (f i) (f j)) = cnt ((y + 1) * 5) (neb (f i) (f j)) := by
        refine (cnt_gap (by omega) (fun k h1 h2 => ?_)).symm
        simp [neb, hz k (by omega) (by omega), hz2 k (by omega) (by omega)]
      rw [e1]
      exact ih (y + 1) (by omega) (by omega)
theorem ccu (hR : r (2 * i) = nI R) (hC : r (2 * i + 1) = nI C) (h4 : R ≤ 4) (h5 : C ≤ 5) (hz : zc C 20 (f i)) (hz2 : zc C 20 (f j)) : D_X3_countUnlike r q f i j = nI (cnt (R * 5) (neb (f i) (f j))) := by
  unfold D_X3_countUnlike
  rw [hR, show (0 : Int32) = nI 0 from rfl, gapN (by omega) (by omega)]
  have h := ccu_out (q := q) hR hC h4 h5 hz hz2 (R - 0 + 1) 0 (by omega) (by omega)
  rw [show cnt (0 * 5) (neb (f i) (f j)) = 0 by rw [Nat.zero_mul]; rfl] at h
  exact h
/-- alike, by shape and numbers -/
theorem cisl (hR : r (2 * i) = nI R) (hC : r (2 * i + 1) = nI C) (hR2 : r (2 * j) = nI Rj) (hC2 : r (2 * j + 1) = nI Cj) (h4 : R ≤ 4) (h5 : C ≤ 5) (h42 : Rj ≤ 4) (h52 : Cj ≤ 5) (hz : zc C 20 (f i)) (hz2 : zc Cj 20 (f j)) :
    (D_X3_isLike r q f i j = 1 ∧ R = Rj ∧ C = Cj ∧ ∀ k, k < R * 5 → f i k = f j k) ∨ (D_X3_isLike r q f i j = 0 ∧ ¬ (R = Rj ∧ C = Cj ∧ ∀ k, k < R * 5 → f i k = f j k)) := by
  unfold D_X3_isLike
  rw [hR, hC, hR2, hC2]
  by_cases e1 : R = Rj
  · subst e1
    rw [if_pos rfl]
    by_cases e2 : C = Cj
    · subst e2
      rw [if_pos rfl, ccu hR hC h4 h5 hz hz2]
      simp only [bnd1]
      have hb : cnt (R * 5) (neb (f i) (f j)) ≤ R * 5 := cnt_le
      by_cases e3 : cnt (R * 5) (neb (f i) (f j)) = 0
      · rw [e3, if_pos (show nI 0 = 0 from rfl)]
        refine Or.inl ⟨rfl, trivial, trivial, fun k hk => ?_⟩
        have := cnt_0.mp e3 k hk
        simpa [neb] using this
      · rw [if_neg (by rw [show (0 : Int32) = nI 0 from rfl, neqP (by omega) (by omega)]; exact e3)]
        refine Or.inr ⟨rfl, fun h => e3 (cnt_0.mpr (fun k hk => ?_))⟩
        simp [neb, h.2.2 k hk]
    · rw [if_neg (by rw [neqP (by omega) (by omega)]; exact e2)]
      exact Or.inr ⟨rfl, fun h => e2 h.2.1⟩
  · rw [if_neg (by rw [neqP (by omega) (by omega)]; exact e1)]
    exact Or.inr ⟨rfl, fun h => e1 h.1⟩
/-- within a bound -/
abbrev wt (p x : Int64) : Prop := ab x ≤ p
theorem ciw_in (hC : r (2 * i + 1) = nI C) (h5 : C ≤ 5) {a : Nat} (ha : a < 4) {lb : Int32 → Int32} : ∀ n y : Nat, y ≤ C → C - y < n → ((∀ b, y ≤ b → b < C → wt p (f i (a * 5 + b))) ∧ D_X3_isWithin_13 r q f i p lb (nI a) n (nI y) = lb (nI (a + 1))) ∨ ((∃ b, b < C ∧ ¬ wt p (f i (a * 5 + b))) ∧ D_X3_isWithin_13 r q f i p lb (nI a) n (nI y) = 0) := by
  intro n
  induction n with
  | zero => intro y _ h; omega
  | succ n ih =>
    intro y hy hn
    rw [D_X3_isWithin_13_s]
    by_cases e : C ≤ y
    · rw [if_pos (by rw [hC]; exact ile e (by omega)), s1]
      exact Or.inl ⟨fun b h1 h2 => absurd h2 (by omega), rfl⟩
    · rw [if_neg (by rw [hC]; exact nile e (by omega))]
      simp only [bnd1, nm]
      rw [cget ha (by omega)]
      by_cases e2 : wt p (f i (a * 5 + y))
      · rw [if_pos ((lg_cmp_le _ _).mpr e2), s1]
        rcases ih (y + 1) (by omega) (by omega) with ⟨h1, h2⟩ | h
        · refine Or.inl ⟨fun b h3 h4 => ?_, h2⟩
          by_cases e3 : b = y
          · subst e3; exact e2
          · exact h1 b (by omega) h4
        · exact Or.inr h
      · rw [if_neg (fun h => e2 ((lg_cmp_le _ _).mp h))]
        exact Or.inr ⟨⟨y, by omega, e2⟩, rfl⟩
theorem ciw_out (hR : r (2 * i) = nI R) (hC : r (2 * i + 1) = nI C) (h4 : R ≤ 4) (h5 : C ≤ 5) : ∀ n y : Nat, y ≤ R → R - y < n → ((∀ a b, y ≤ a → a < R → b < C → wt p (f i (a * 5 + b))) ∧ D_X3_isWithin_2 r q f i p n (nI y) = 1) ∨ ((∃ a b, a < R ∧ b < C ∧ ¬ wt p (f i (a * 5 + b))) ∧ D_X3_isWithin_2 r q f i p n (nI y) = 0) := by
  intro n
  induction n with
  | zero => intro y _ h; omega
  | succ n ih =>
    intro y hy hn
    rw [D_X3_isWithin_2_s]
    by_cases e : R ≤ y
    · rw [if_pos (by rw [hR]; exact ile e (by omega))]
      exact Or.inl ⟨fun a b h1 h2 => absurd h2 (by omega), rfl⟩
    · rw [if_neg (by rw [hR]; exact nile e (by omega)), hC, show (0 : Int32) = nI 0 from rfl, gapN (by omega) (by omega)]
      rcases ciw_in (q := q) (p := p) (f := f) hC h5 (show y < 4 by omega) (lb := D_X3_isWithin_2 r q f i p n) (C - 0 + 1) 0 (by omega) (by omega) with ⟨h1, h2⟩ | ⟨⟨b, h1, h2⟩, h3⟩
      · rw [h2]
        rcases ih (y + 1) (by omega) (by omega) with ⟨h3, h4⟩ | h
        · refine Or.inl ⟨fun a b h5 h6 h7 => ?_, h4⟩
          by_cases e3 : a = y
          · subst e3; exact h1 b (by omega) h7
          · exact h3 a b (by omega) h6 h7
        · exact Or.inr h
      · rw [h3]
        exact Or.inr ⟨⟨y, b, by omega, h1, h2⟩, rfl⟩
theorem ciw (hR : r (2 * i) = nI R) (hC : r (2 * i + 1) = nI C) (h4 : R ≤ 4) (h5 : C ≤ 5) : ((∀ a b, a < R → b < C → wt p (f i (a * 5 + b))) ∧ D_X3_isWithin r q f i p = 1) ∨ ((∃ a b, a < R ∧ b < C ∧ ¬ wt p (f i (a * 5 + b))) ∧ D_X3_isWithin r q f i p = 0) := by
  unfold D_X3_isWithin
  rw [hR, show (0 : Int32) = nI 0 from rfl, gapN (by omega) (by omega)]
  rcases ciw_out (q := q) (p := p) (f := f) hR hC h4 h5 (R - 0 + 1) 0 (by omega) (by omega) with ⟨h1, h2⟩ | h
  · exact Or.inl ⟨fun a b h3 h4 => h1 a b (Nat.zero_le _) h3 h4, h2⟩
  · exact Or.inr h
end PCC
/-- the first n places are 0; are those of another one -/
def zf (n : Nat) (g : Nat → Int64) : Nat → Int64 := fun k => if k < n then 0 else g k
def cp (n : Nat) (g h : Nat → Int64) : Nat → Int64 := fun k => if k < n then g k else h k
/-- 1 on the diagonal -/
def un (n : Nat) (g : Nat → Int64) : Nat → Int64 := fun k => if k % 6 = 0 ∧ k / 6 < n then 1 else g k
theorem zf_s {n : Nat} {g : Nat → Int64} : vp_updL (zf n g) n 0 = zf (n + 1) g := by
  funext k
  unfold vp_updL zf
  by_cases e : k = n
  · rw [if_pos e, if_pos (by omega)]
  · rw [if_neg e]
    by_cases h : k < n
    · rw [if_pos h, if_pos (by omega)]
    · rw [if_neg h, if_neg (by omega)]
theorem cp_s {n : Nat} {g h : Nat → Int64} : vp_updL (cp n g h) n (g n) = cp (n + 1) g h := by
  funext k
  unfold vp_updL cp
  by_cases e : k = n
  · rw [if_pos e, if_pos (by omega), e]
  · rw [if_neg e]
    by_cases h : k < n
    · rw [if_pos h, if_pos (by omega)]
    · rw [if_neg h, if_neg (by omega)]
theorem un_s {n : Nat} {g : Nat → Int64} : vp_updL (un n g) (n * 5 + n) 1 = un (n + 1) g := by
  funext k
  unfold vp_updL un
  by_cases e : k = n * 5 + n
  · rw [if_pos e, if_pos (by omega)]
  · rw [if_neg e]
    by_cases h : k % 6 = 0 ∧ k / 6 < n
    · rw [if_pos h, if_pos (by omega)]
    · rw [if_neg h, if_neg (by omega)]
theorem zf0 {g : Nat → Int64} : zf 0 g = g := by funext k; unfold zf; rw [if_neg (by omega)]
theorem cp0 {g h : Nat → Int64} : cp 0 g h = h := by funext k; unfold cp; rw [if_neg (by omega)]
theorem un0 {g : Nat → Int64} : un 0 g = g := by funext k; unfold un; rw [if_neg (by omega)]
theorem cp_id {n : Nat} {g : Nat → Int64} : cp n g g = g := by funext k; unfold cp; split <;> rfl
section PCM
variable {r q : Nat → Int32} {f : Nat → Nat → Int64} {i j k0 R C Rj Cj Rk Ck n0 a b : Nat} {x t : Int64} {p0 : Int32}
/-- the shapes with another one at i -/
abbrev rs (r : Nat → Int32) (i R C : Nat) : Nat → Int32 := va_up (va_up r (2 * i) (nI R)) (2 * i + 1) (nI C)
theorem rs_R : rs r i R C (2 * i) = nI R := (vu_ne (show 2 * i ≠ 2 * i + 1 by omega)).trans vu_self
theorem rs_C : rs r i R C (2 * i + 1) = nI C := if_pos rfl
theorem rs_R' (h : j ≠ i) : rs r i R C (2 * j) = r (2 * j) := (vu_ne (show 2 * j ≠ 2 * i + 1 by omega)).trans (vu_ne (by omega))
theorem rs_C' (h : j ≠ i) : rs r i R C (2 * j + 1) = r (2 * j + 1) := (vu_ne (by omega)).trans (vu_ne (show 2 * j + 1 ≠ 2 * i by omega))
theorem crs_l {t2 t4 : Int32} : ∀ n y : Nat, y ≤ 20 → 20 - y < n → D_X3_reshape_28 r q i t2 t4 n (nI y) (va_up f i (zf y (f i))) = (va_up (va_up r (2 * i) t2) (2 * i + 1) t4, q, va_up f i (zf 20 (f i))) := by
  intro n
  induction n with
  | zero => intro y _ h; omega
  | succ n ih =>
    intro y hy hn
    rw [D_X3_reshape_28_s]
    by_cases e : 20 ≤ y
    · rw [if_pos (ile20 e (by omega)), show y = 20 by omega]
    · rw [if_neg (nile20 e), nI_clamp (by omega), vu_self, vu2, zf_s, s1]
      exact ih (y + 1) (by omega) (by omega)
theorem crs (h1 : 1 ≤ R) (h4 : R ≤ 4) (h2 : 1 ≤ C) (h5 : C ≤ 5) : D_X3_reshape r q f i (nI R) (nI C) = (rs r i R C, q, va_up f i (zf 20 (f i))) := by
  unfold D_X3_reshape
  simp only [nm]
  have a1 : ¬ (4 : Int32) < nI R := by rw [show (4 : Int32) = nI 4 from rfl, nltP (by omega) (by omega)]; omega
  have a2 : (if (1 : Int32) < nI R then nI R else 1) = nI R := by
    by_cases e : 1 < R
    · rw [if_pos (by rw [show (1 : Int32) = nI 1 from rfl, nltP (by omega) (by omega)]; exact e)]
    · rw [show R = 1 by omega]; exact ite_self _
  have a3 : ¬ (5 : Int32) < nI C := by rw [show (5 : Int32) = nI 5 from rfl, nltP (by omega) (by omega)]; omega
  have a4 : (if (1 : Int32) < nI C then nI C else 1) = nI C := by
    by_cases e : 1 < C
    · rw [if_pos (by rw [show (1 : Int32) = nI 1 from rfl, nltP (by omega) (by omega)]; exact e)]
    · rw [show C = 1 by omega]; exact ite_self _
  rw [if_neg a1, a2, if_neg a3, a4, show gap 20 0 = 20 - 0 from gapN (a := 20) (b := 0) (by omega) (by omega)]
  have h := crs_l (r := r) (q := q) (f := f) (i := i) (t2 := nI R) (t4 := nI C) (20 - 0 + 1) 0 (by omega) (by omega)
  rw [zf0, vu_id] at h
  exact h
theorem cun_l (hR : r (2 * i) = nI n0) (h4 : n0 ≤ 4) : ∀ n y : Nat, y ≤ n0 → n0 - y < n → D_X3_becomeUnit_8 i r q n (nI y) (va_up f i (un y (f i))) = (r, q, va_up f i (un n0 (f i))) := by
  intro n
  induction n with
  | zero => intro y _ h; omega
  | succ n ih =>
    intro y hy hn
    rw [D_X3_becomeUnit_8_s]
    by_cases e : n0 ≤ y
    · rw [if_pos (by rw [hR]; exact ile e (by omega)), show y = n0 by omega]
    · rw [if_neg (by rw [hR]; exact nile e (by omega))]
      simp only [bnd1]
      rw [cset (by omega) (by omega), vu_self, vu2, un_s, s1]
      exact ih (y + 1) (by omega) (by omega)
theorem cun (h1 : 1 ≤ n0) (h4 : n0 ≤ 4) : D_X3_becomeUnit r q f i (nI n0) = (rs r i n0 n0, q, va_up f i (un n0 (zf 20 (f i)))) := by
  unfold D_X3_becomeUnit
  rw [crs h1 h4 h1 (by omega)]
  simp only [bnd3]
  rw [rs_R, show (0 : Int32) = nI 0 from rfl, gapN (by omega) (by omega)]
  have h := cun_l (r := rs r i n0 n0) (q := q) (f := va_up f i (zf 20 (f i))) (i := i) rs_R h4 (n0 - 0 + 1) 0 (by omega) (by omega)
  rw [vu_self, un0, vu2, vu2] at h
  exact h
theorem cbl_l : ∀ n y : Nat, y ≤ 20 → 20 - y < n → D_X3_becomeLike_18 r q i j n (nI y) (va_up f i (cp y (f j) (f i))) = (va_up (va_up r (2 * i) (r (2 * j))) (2 * i + 1) (va_up r (2 * i) (r (2 * j)) (2 * j + 1)), q, va_up f i (cp 20 (f j) (f i))) := by
  intro n
  induction n with
  | zero => intro y _ h; omega
  | succ n ih =>
    intro y hy hn
    rw [D_X3_becomeLike_18_s]
    by_cases e : 20 ≤ y
    · rw [if_pos (ile20 e (by omega)), show y = 20 by omega]
    · rw [if_neg (nile20 e), if_neg (nile20 e)]
      simp only [nm]
      have hj : va_up f i (cp y (f j) (f i)) j = f j := by
        by_cases e2 : j = i
        · subst e2; rw [vu_self, cp_id]
        · rw [vu_ne e2]
      rw [nI_clamp (by omega), hj, vu_self, vu2, cp_s, s1]
      exact ih (y + 1) (by omega) (by omega)
theorem cbl (hR : r (2 * j) = nI R) (hC : r (2 * j + 1) = nI C) : D_X3_becomeLike r q f i j = (rs r i R C, q, va_up f i (cp 20 (f j) (f i))) := by
  unfold D_X3_becomeLike
  rw [show gap 20 0 = 20 - 0 from gapN (a := 20) (b := 0) (by omega) (by omega)]
  have h := cbl_l (r := r) (q := q) (f := f) (i := i) (j := j) (20 - 0 + 1) 0 (by omega) (by omega)
  rw [cp0, vu_id, vu_ne (show 2 * j + 1 ≠ 2 * i by omega), hR, hC] at h
  exact h
/-- what both have is taken over: the rows ahead of a, of the row a the columns ahead of b -/
def tv (a b c : Nat) (g h : Nat → Int64) : Nat → Int64 := fun k => if (k / 5 < a ∧ k % 5 < c) ∨ (k / 5 = a ∧ k % 5 < b) then g k else h k
theorem tv_s {g h : Nat → Int64} {c : Nat} (hb : b < c) (hc : c ≤ 5) : vp_updL (tv a b c g h) (a * 5 + b) (g (a * 5 + b)) = tv a (b + 1) c g h := by
  funext k
  unfold vp_updL tv
  by_cases e : k = a * 5 + b
  · subst e; rw [if_pos rfl, if_pos (by omega)]
  · rw [if_neg e]
    by_cases h : (k / 5 < a ∧ k % 5 < c) ∨ (k / 5 = a ∧ k % 5 < b)
    · rw [if_pos h, if_pos (by omega)]
    · rw [if_neg h, if_neg (by omega)]
theorem tv_r {g h : Nat → Int64} {c : Nat} : tv a c c g h = tv (a + 1) 0 c g h := by
  funext k
  unfold tv
  by_cases e : (k / 5 < a ∧ k % 5 < c) ∨ (k / 5 = a ∧ k % 5 < c)
  · rw [if_pos e, if_pos (by omega)]
  · rw [if_neg e, if_neg (by omega)]
theorem cto_in (hij : j ≠ i) (hC : r (2 * i + 1) = nI C) (hCj : r (2 * j + 1) = nI Cj) (h5 : C ≤ 5) (h5j : Cj ≤ 5) (ha : a < 4) {lb : Int32 → (Nat → Nat → Int64) → Nat → Nat → Int64} : ∀ n y : Nat, y ≤ min C Cj → C - y < n → D_X3_takeOver_20 r q i j lb (nI a) n (nI y) (va_up f i (tv a y (min C Cj) (f j) (f i))) = lb (nI (a + 1)) (va_up f i (tv (a + 1) 0 (min C Cj) (f j) (f i))) := by
  intro n
  induction n with
  | zero => intro y _ h; omega
  | succ n ih =>
    intro y hy hn
    rw [D_X3_takeOver_20_s]
    by_cases e : C ≤ y
    · rw [if_pos (by rw [hC]; exact ile e (by omega)), show y = min C Cj by omega, tv_r, s1]
    · rw [if_neg (by rw [hC]; exact nile e (by omega))]
      by_cases e2 : Cj ≤ y
      · rw [if_pos (by rw [hCj]; exact ile e2 (by omega)), show y = min C Cj by omega, tv_r, s1]
      · rw [if_neg (by rw [hCj]; exact nile e2 (by omega))]
        simp only [bnd1]
        rw [cget ha (by omega), cset ha (by omega), vu_ne hij, vu_self, vu2, tv_s (by omega) (by omega), s1]
        exact ih (y + 1) (by omega) (by omega)
theorem cto_out (hij : j ≠ i) (hR : r (2 * i) = nI R) (hRj : r (2 * j) = nI Rj) (hC : r (2 * i + 1) = nI C) (hCj : r (2 * j + 1) = nI Cj) (h4 : R ≤ 4) (h4j : Rj ≤ 4) (h5 : C ≤ 5) (h5j : Cj ≤ 5) : ∀ n y : Nat, y ≤ min R Rj → R - y < n → D_X3_takeOver_2 r q i j n (nI y) (va_up f i (tv y 0 (min C Cj) (f j) (f i))) = va_up f i (tv (min R Rj) 0 (min C Cj) (f j) (f i)) := by
  intro n
  induction n with
  | zero => intro y _ h; omega
  | succ n ih =>
    intro y hy hn
    rw [D_X3_takeOver_2_s]
    by_cases e : R ≤ y
    · rw [if_pos (by rw [hR]; exact ile e (by omega)), show y = min R Rj by omega]
    · rw [if_neg (by rw [hR]; exact nile e (by omega))]
      by_cases e2 : Rj ≤ y
      · rw [if_pos (by rw [hRj]; exact ile e2 (by omega)), show y = min R Rj by omega]
      · rw [if_neg (by rw [hRj]; exact nile e2 (by omega)), hC, show (0 : Int32) = nI 0 from rfl, gapN (by omega) (by omega), cto_in hij hC hCj h5 h5j (by omega) (C - 0 + 1) 0 (by omega) (by omega)]
        exact ih (y + 1) (by omega) (by omega)
theorem cto (hij : j ≠ i) (hR : r (2 * i) = nI R) (hRj : r (2 * j) = nI Rj) (hC : r (2 * i + 1) = nI C) (hCj : r (2 * j + 1) = nI Cj) (h4 : R ≤ 4) (h4j : Rj ≤ 4) (h5 : C ≤ 5) (h5j : Cj ≤ 5) : D_X3_takeOver r q f i j = va_up f i (tv (min R Rj) 0 (min C Cj) (f j) (f i)) := by
  unfold D_X3_takeOver
  rw [hR, show (0 : Int32) = nI 0 from rfl, gapN (by omega) (by omega)]
  have h := cto_out (q := q) (f := f) hij hR hRj hC hCj h4 h4j h5 h5j (R - 0 + 1) 0 (by omega) (by omega)
  have e : tv 0 0 (min C Cj) (f j) (f i) = f i := by funext k; unfold tv; rw [if_neg (by omega)]
  rw [e, vu_id] at h
  exact h
/-- a column of another one, alone -/
def co (n c : Nat) (g h : Nat → Int64) : Nat → Int64 := fun k => if k % 5 = 0 ∧ k / 5 < n then g (k / 5 * 5 + c) else h k
theorem co_s {g h : Nat → Int64} {c : Nat} : vp_updL (co a c g h) (a * 5 + 0) (g (a * 5 + c)) = co (a + 1) c g h := by
  funext k
  unfold vp_updL co
  by_cases e : k = a * 5 + 0
  · subst e; rw [if_pos rfl, if_pos (by omega)]; congr 1; omega
  · rw [if_neg e]
    by_cases h : k % 5 = 0 ∧ k / 5 < a
    · rw [if_pos h, if_pos (by omega)]
    · rw [if_neg h, if_neg (by omega)]
theorem co0 {g h : Nat → Int64} {c : Nat} : co 0 c g h = h := by funext k; unfold co; rw [if_neg (by omega)]
theorem cbc_l (hij : j ≠ i) (hR : r (2 * i) = nI R) (h4 : R ≤ 4) (hb : b < 5) : ∀ n y : Nat, y ≤ R → R - y < n → D_X3_becomeColumn_11 i j (nI b) r q n (nI y) (va_up f i (co y b (f j) (f i))) = (r, q, va_up f i (co R b (f j) (f i))) := by
  intro n
  induction n with
  | zero => intro y _ h; omega
  | succ n ih =>
    intro y hy hn
    rw [D_X3_becomeColumn_11_s]
    by_cases e : R ≤ y
    · rw [if_pos (by rw [hR]; exact ile e (by omega)), show y = R by omega]
    · rw [if_neg (by rw [hR]; exact nile e (by omega))]
      simp only [bnd1]
      rw [cget (by omega) hb, show (0 : Int32) = nI 0 from rfl, cset (by omega) (by omega), vu_ne hij, vu_self, vu2, co_s, s1]
      exact ih (y + 1) (by omega) (by omega)
theorem cbc (hij : j ≠ i) (hRj : r (2 * j) = nI R) (h1 : 1 ≤ R) (h4 : R ≤ 4) (hb : b < 5) : D_X3_becomeColumn r q f i j (nI b) = (rs r i R 1, q, va_up f i (co R b (f j) (zf 20 (f i)))) := by
  unfold D_X3_becomeColumn
  rw [hRj, show (1 : Int32) = nI 1 from rfl, crs h1 h4 (by omega) (by omega)]
  simp only [bnd3]
  rw [rs_R, show (0 : Int32) = nI 0 from rfl, gapN (by omega) (by omega)]
  have h := cbc_l (r := rs r i R 1) (q := q) (f := va_up f i (zf 20 (f i))) hij rs_R h4 hb (R - 0 + 1) 0 (by omega) (by omega)
  rw [vu_self, vu_ne hij, co0, vu2, vu2] at h
  exact h
/-- a row by a column -/
def dot (n : Nat) (g h : Nat → Int64) (a b : Nat) : Int64 := Nat.rec 0 (fun m s => s + g (a * 5 + m) * h (m * 5 + b)) n
theorem dot_s {n : Nat} {g h : Nat → Int64} : dot (n + 1) g h a b = dot n g h a b + g (a * 5 + n) * h (n * 5 + b) := rfl
/-- a product so far: the rows ahead of a, of the row a the columns ahead of b -/
def pd (n a b c : Nat) (g h u : Nat → Int64) : Nat → Int64 := fun k => if (k / 5 < a ∧ k % 5 < c) ∨ (k / 5 = a ∧ k % 5 < b) then dot n g h (k / 5) (k % 5) else u k
theorem pd_s {g h u : Nat → Int64} {n c : Nat} (hb : b < c) (hc : c ≤ 5) : vp_updL (pd n a b c g h u) (a * 5 + b) (dot n g h a b) = pd n a (b + 1) c g h u := by
  funext k
  unfold vp_updL pd
  by_cases e : k = a * 5 + b
  · subst e; rw [if_pos rfl, if_pos (by omega), show (a * 5 + b) / 5 = a by omega, show (a * 5 + b) % 5 = b by omega]
  · rw [if_neg e]
    by_cases h : (k / 5 < a ∧ k % 5 < c) ∨ (k / 5 = a ∧ k % 5 < b)
    · rw [if_pos h, if_pos (by omega)]
    · rw [if_neg h, if_neg (by omega)]
theorem pd_r {g h u : Nat → Int64} {n c : Nat} : pd n a c c g h u = pd n (a + 1) 0 c g h u := by
  funext k
  unfold pd
  by_cases e : (k / 5 < a ∧ k % 5 < c) ∨ (k / 5 = a ∧ k % 5 < c)
  · rw [if_pos e, if_pos (by omega)]
  · rw [if_neg e, if_neg (by omega)]
theorem pd0 {g h u : Nat → Int64} {n c : Nat} : pd n 0 0 c g h u = u := by funext k; unfold pd; rw [if_neg (by omega)]
theorem cbp_k (hC : r (2 * j + 1) = nI Cj) (hc4 : Cj ≤ 4) (ha : a < 4) (hb : b < 5) {lb : Int32 → (Nat → Nat → Int64) → (Nat → Int32) × (Nat → Int32) × (Nat → Nat → Int64)} : ∀ n y : Nat, y ≤ Cj → Cj - y < n → D_X3_becomeProduct_40 i j k0 r q (nI a) lb (nI b) f n (nI y) (dot y (f j) (f k0) a b) = lb (nI (b + 1)) (va_up f i (vp_updL (f i) (a * 5 + b) (dot Cj (f j) (f k0) a b))) := by
  intro n
  induction n with
  | zero => intro y _ h; omega
  | succ n ih =>
    intro y hy hn
    rw [D_X3_becomeProduct_40_s]
    by_cases e : Cj ≤ y
    · rw [if_pos (by rw [hC]; exact ile e (by omega)), show y = Cj by omega]
      simp only [bnd1]
      rw [cset ha hb, s1]
    · rw [if_neg (by rw [hC]; exact nile e (by omega))]
      simp only [bnd1]
      rw [cget ha (by omega), cget (by omega) hb, s1, ← dot_s]
      exact ih (y + 1) (by omega) (by omega)
theorem cbp_in (hji : j ≠ i) (hki : k0 ≠ i) (hC : r (2 * i + 1) = nI C) (hCj : r (2 * j + 1) = nI Cj) (h5 : C ≤ 5) (hc4 : Cj ≤ 4) (ha : a < 4) {lb : Int32 → (Nat → Nat → Int64) → (Nat → Int32) × (Nat → Int32) × (Nat → Nat → Int64)} : ∀ n y : Nat, y ≤ C → C - y < n → D_X3_becomeProduct_25 i j k0 r q lb (nI a) n (nI y) (va_up f i (pd Cj a y C (f j) (f k0) (f i))) = lb (nI (a + 1)) (va_up f i (pd Cj (a + 1) 0 C (f j) (f k0) (f i))) := by
  intro n
  induction n with
  | zero => intro y _ h; omega
  | succ n ih =>
    intro y hy hn
    rw [D_X3_becomeProduct_25_s]
    by_cases e : C ≤ y
    · rw [if_pos (by rw [hC]; exact ile e (by omega)), show y = C by omega, pd_r, s1]
    · rw [if_neg (by rw [hC]; exact nile e (by omega)), hCj, show (0 : Int32) = nI 0 from rfl, gapN (by omega) (by omega)]
      have h := cbp_k (q := q) (i := i) (j := j) (k0 := k0) (f := va_up f i (pd Cj a y C (f j) (f k0) (f i))) hCj hc4 ha (show y < 5 by omega) (lb := D_X3_becomeProduct_25 i j k0 r q lb (nI a) n) (Cj - 0 + 1) 0 (by omega) (by omega)
      rw [show ∀ g h a b, dot 0 g h a b = 0 from fun _ _ _ _ => rfl] at h
      rw [h, vu_ne hji, vu_ne hki, vu_self, vu2, pd_s (by omega) h5]
      exact ih (y + 1) (by omega) (by omega)
theorem cbp_out (hji : j ≠ i) (hki : k0 ≠ i) (hR : r (2 * i) = nI R) (hC : r (2 * i + 1) = nI C) (hCj : r (2 * j + 1) = nI Cj) (h4 : R ≤ 4) (h5 : C ≤ 5) (hc4 : Cj ≤ 4) : ∀ n y : Nat, y ≤ R → R - y < n → D_X3_becomeProduct_14 i j k0 r q n (nI y) (va_up f i (pd Cj y 0 C (f j) (f k0) (f i))) = (r, q, va_up f i (pd Cj R 0 C (f j) (f k0) (f i))) := by
  intro n
  induction n with
  | zero => intro y _ h; omega
  | succ n ih =>
    intro y hy hn
    rw [D_X3_becomeProduct_14_s]
    by_cases e : R ≤ y
    · rw [if_pos (by rw [hR]; exact ile e (by omega)), show y = R by omega]
    · rw [if_neg (by rw [hR]; exact nile e (by omega)), hC, show (0 : Int32) = nI 0 from rfl, gapN (by omega) (by omega), cbp_in hji hki hC hCj h5 hc4 (by omega) (C - 0 + 1) 0 (by omega) (by omega)]
      exact ih (y + 1) (by omega) (by omega)
theorem cbp (hji : j ≠ i) (hki : k0 ≠ i) (hRj : r (2 * j) = nI Rj) (hCj : r (2 * j + 1) = nI Cj) (hCk : r (2 * k0 + 1) = nI Ck) (h1 : 1 ≤ Rj) (h4 : Rj ≤ 4) (h2 : 1 ≤ Ck) (h5 : Ck ≤ 5) (hc4 : Cj ≤ 4) : D_X3_becomeProduct r q f i j k0 = (rs r i Rj Ck, q, va_up f i (pd Cj Rj 0 Ck (f j) (f k0) (zf 20 (f i)))) := by
  unfold D_X3_becomeProduct
  rw [hRj, hCk, crs h1 h4 h2 h5]
  simp only [bnd3]
  rw [rs_R, show (0 : Int32) = nI 0 from rfl, gapN (by omega) (by omega)]
  have h := cbp_out (r := rs r i Rj Ck) (q := q) (f := va_up f i (zf 20 (f i))) hji hki rs_R rs_C ((rs_C' hji).trans hCj) h4 h5 hc4 (Rj - 0 + 1) 0 (by omega) (by omega)
  rw [vu_self, vu_ne hji, vu_ne hki, pd0, vu2, vu2] at h
  exact h
end PCM
end
section
-- 48.pref
/-! ===== The reference's grids: what their methods answer, plainly ===== -/
section PRG
variable {R C Ro Co a b : Nat} {f g fo : Nat → Int64}
theorem rcp_l : ∀ n y : Nat, y ≤ R * 5 → R * 5 - y < n → D_X7_copy_18 R f n y (cp y f (fun _ => 0)) = cp (R * 5) f (fun _ => 0) := by
  intro n
  induction n with
  | zero => intro y _ h; omega
  | succ n ih =>
    intro y hy hn
    rw [D_X7_copy_18_s]
    by_cases e : R * 5 ≤ y
    · rw [if_pos e, show y = R * 5 by omega]
    · rw [if_neg e, cp_s]
      exact ih (y + 1) (by omega) (by omega)
theorem rcp : D_X7_copy R C f = cp (R * 5) f (fun _ => 0) := by
  have h := rcp_l (R := R) (f := f) (R * 5 + 1 - 0 + 1) 0 (by omega) (by omega)
  rw [cp0] at h
  exact h
theorem run_l {m : Nat} : ∀ n y : Nat, y ≤ m → m - y < n → D_X7_unit_12 m n y (un y (fun _ => 0)) = un m (fun _ => 0) := by
  intro n
  induction n with
  | zero => intro y _ h; omega
  | succ n ih =>
    intro y hy hn
    rw [D_X7_unit_12_s]
    by_cases e : m ≤ y
    · rw [if_pos e, show y = m by omega]
    · rw [if_neg e, un_s]
      exact ih (y + 1) (by omega) (by omega)
theorem run {m : Nat} : D_X7_unit m = un m (fun _ => 0) := by
  have h := run_l (m := m) (m + 1 - 0 + 1) 0 (by omega) (by omega)
  rw [un0] at h
  exact h
theorem rig_l : ∀ n y : Nat, y ≤ R * 5 → R * 5 - y < n → ((∀ k, y ≤ k → k < R * 5 → ng (f k)) ∧ D_X7_isGreat_10 R f n y = 0) ∨ ((∃ k, k < R * 5 ∧ ¬ ng (f k)) ∧ D_X7_isGreat_10 R f n y = 1) := by
  intro n
  induction n with
  | zero => intro y _ h; omega
  | succ n ih =>
    intro y hy hn
    rw [D_X7_isGreat_10_s]
    by_cases e : R * 5 ≤ y
    · rw [if_pos e]; exact Or.inl ⟨fun k h1 h2 => absurd h2 (by omega), rfl⟩
    · rw [if_neg e]
      by_cases e1 : 0 < lg_cmp (f y) 1000000000
      · rw [if_pos e1]
        exact Or.inr ⟨⟨y, by omega, fun h => absurd ((lg_cmp_gt _ _).mp e1) (Int64.not_lt.mpr h.2)⟩, rfl⟩
      · rw [if_neg e1]
        by_cases e2 : 0 ≤ lg_cmp (f y) (-1000000000)
        · rw [if_pos e2]
          rcases ih (y + 1) (by omega) (by omega) with ⟨h1, h2⟩ | h
          · refine Or.inl ⟨fun k h3 h4 => ?_, h2⟩
            by_cases e3 : k = y
            · subst e3; exact ng_of e1 e2
            · exact h1 k (by omega) h4
          · exact Or.inr h
        · rw [if_neg e2]
          exact Or.inr ⟨⟨y, by omega, fun h => e2 ((lg_cmp_ge _ _).mpr h.1)⟩, rfl⟩
theorem rig : ((∀ k, k < R * 5 → ng (f k)) ∧ D_X7_isGreat R C f = 0) ∨ ((∃ k, k < R * 5 ∧ ¬ ng (f k)) ∧ D_X7_isGreat R C f = 1) := by
  rcases rig_l (R := R) (f := f) (R * 5 + 1 - 0 + 1) 0 (by omega) (by omega) with ⟨h1, h2⟩ | h
  · exact Or.inl ⟨fun k hk => h1 k (Nat.zero_le _) hk, h2⟩
  · exact Or.inr h
theorem ril_l : ∀ n y : Nat, y ≤ R * 5 → R * 5 - y < n → ((∀ k, y ≤ k → k < R * 5 → sm (f k)) ∧ D_X7_isLet_10 R f n y = 1) ∨ ((∃ k, k < R * 5 ∧ ¬ sm (f k)) ∧ D_X7_isLet_10 R f n y = 0) := by
  intro n
  induction n with
  | zero => intro y _ h; omega
  | succ n ih =>
    intro y hy hn
    rw [D_X7_isLet_10_s]
    by_cases e : R * 5 ≤ y
    · rw [if_pos e]; exact Or.inl ⟨fun k h1 h2 => absurd h2 (by omega), rfl⟩
    · rw [if_neg e]
      by_cases e1 : 0 < lg_cmp (f y) 20
      · rw [if_pos e1]
        exact Or.inr ⟨⟨y, by omega, fun h => absurd ((lg_cmp_gt _ _).mp e1) (Int64.not_lt.mpr h.2)⟩, rfl⟩
      · rw [if_neg e1]
        by_cases e2 : 0 ≤ lg_cmp (f y) (-20)
        · rw [if_pos e2]
          rcases ih (y + 1) (by omega) (by omega) with ⟨h1, h2⟩ | h
          · refine Or.inl ⟨fun k h3 h4 => ?_, h2⟩
            by_cases e3 : k = y
            · subst e3; exact sm_of e1 e2
            · exact h1 k (by omega) h4
          · exact Or.inr h
        · rw [if_neg e2]
          exact Or.inr ⟨⟨y, by omega, fun h => e2 ((lg_cmp_ge _ _).mpr h.1)⟩, rfl⟩
theorem ril : ((∀ k, k < R * 5 → sm (f k)) ∧ D_X7_isLet R C f = 1) ∨ ((∃ k, k < R * 5 ∧ ¬ sm (f k)) ∧ D_X7_isLet R C f = 0) := by
  rcases ril_l (R := R) (f := f) (R * 5 + 1 - 0 + 1) 0 (by omega) (by omega) with ⟨h1, h2⟩ | h
  · exact Or.inl ⟨fun k hk => h1 k (Nat.zero_le _) hk, h2⟩
  · exact Or.inr h
theorem rot_l : ∀ n y : Nat, y ≤ R * 5 → R * 5 - y < n → D_X7_others_13 R f n y (cnt y (nzb f)) = nI (cnt (R * 5) (nzb f)) := by
  intro n
  induction n with
  | zero => intro y _ h; omega
  | succ n ih =>
    intro y hy hn
    rw [D_X7_others_13_s]
    by_cases e : R * 5 ≤ y
    · rw [if_pos e, show y = R * 5 by omega]
    · rw [if_neg e]
      by_cases e2 : f y = 0
      · rw [if_pos (lgE.mpr e2), show cnt y (nzb f) + 0 = cnt (y + 1) (nzb f) by rw [cnt_s]; simp [nzb, e2]]
        exact ih (y + 1) (by omega) (by omega)
      · rw [if_neg (fun h => e2 (lgE.mp h)), show cnt y (nzb f) + 1 = cnt (y + 1) (nzb f) by rw [cnt_s]; simp [nzb, e2]]
        exact ih (y + 1) (by omega) (by omega)
theorem rot : D_X7_others R C f = nI (cnt (R * 5) (nzb f)) := rot_l (R * 5 + 1 - 0 + 1) 0 (by omega) (by omega)
theorem rul_l : ∀ n y : Nat, y ≤ R * 5 → R * 5 - y < n → D_X7_unlike_4 R f fo n y (cnt y (neb f fo)) = nI (cnt (R * 5) (neb f fo)) := by
  intro n
  induction n with
  | zero => intro y _ h; omega
  | succ n ih =>
    intro y hy hn
    rw [D_X7_unlike_4_s]
    by_cases e : R * 5 ≤ y
    · rw [if_pos e, show y = R * 5 by omega]
    · rw [if_neg e]
      by_cases e2 : f y = fo y
      · rw [if_pos (lgE.mpr e2), show cnt y (neb f fo) + 0 = cnt (y + 1) (neb f fo) by rw [cnt_s]; simp [neb, e2]]
        exact ih (y + 1) (by omega) (by omega)
      · rw [if_neg (fun h => e2 (lgE.mp h)), show cnt y (neb f fo) + 1 = cnt (y + 1) (neb f fo) by rw [cnt_s]; simp [neb, e2]]
        exact ih (y + 1) (by omega) (by omega)
theorem rul : D_X7_unlike R C f Ro Co fo = nI (cnt (R * 5) (neb f fo)) := rul_l (R * 5 + 1 - 0 + 1) 0 (by omega) (by omega)
theorem ris_l : ∀ n y : Nat, y ≤ R * 5 → R * 5 - y < n → ((∀ k, y ≤ k → k < R * 5 → f k = fo k) ∧ D_X7_isSame_26 R f fo n y = 1) ∨ ((∃ k, k < R * 5 ∧ ¬ f k = fo k) ∧ D_X7_isSame_26 R f fo n y = 0) := by
  intro n
  induction n with
  | zero => intro y _ h; omega
  | succ n ih =>
    intro y hy hn
    rw [D_X7_isSame_26_s]
    by_cases e : R * 5 ≤ y
    · rw [if_pos e]; exact Or.inl ⟨fun k h1 h2 => absurd h2 (by omega), rfl⟩
    · rw [if_neg e]
      by_cases e1 : f y = fo y
      · rw [if_pos (lgE.mpr e1)]
        rcases ih (y + 1) (by omega) (by omega) with ⟨h1, h2⟩ | h
        · refine Or.inl ⟨fun k h3 h4 => ?_, h2⟩
          by_cases e3 : k = y
          · subst e3; exact e1
          · exact h1 k (by omega) h4
        · exact Or.inr h
      · rw [if_neg (fun h => e1 (lgE.mp h))]
        exact Or.inr ⟨⟨y, by omega, e1⟩, rfl⟩
theorem ris : (D_X7_isSame R C f Ro Co fo = 1 ∧ R = Ro ∧ C = Co ∧ ∀ k, k < R * 5 → f k = fo k) ∨ (D_X7_isSame R C f Ro Co fo = 0 ∧ ¬ (R = Ro ∧ C = Co ∧ ∀ k, k < R * 5 → f k = fo k)) := by
  unfold D_X7_isSame
  by_cases e1 : R = Ro
  · rw [if_pos e1]
    by_cases e2 : C = Co
    · rw [if_pos e2]
      rcases ris_l (R := R) (f := f) (fo := fo) (R * 5 + 1 - 0 + 1) 0 (by omega) (by omega) with ⟨h1, h2⟩ | ⟨⟨k, h1, h2⟩, h3⟩
      · exact Or.inl ⟨h2, e1, e2, fun k hk => h1 k (Nat.zero_le _) hk⟩
      · exact Or.inr ⟨h3, fun h => h2 (h.2.2 k h1)⟩
    · rw [if_neg e2]; exact Or.inr ⟨rfl, fun h => e2 h.2.1⟩
  · rw [if_neg e1]; exact Or.inr ⟨rfl, fun h => e1 h.1⟩
theorem rpd_k {lb : Nat → (Nat → Int64) → Nat → Int64} : ∀ n y : Nat, y ≤ C → C - y < n → D_X7_product_44 C f fo a lb b g n y (dot y f fo a b) = lb (b + 1) (vp_updL g (a * 5 + b) (dot C f fo a b)) := by
  intro n
  induction n with
  | zero => intro y _ h; omega
  | succ n ih =>
    intro y hy hn
    rw [D_X7_product_44_s]
    by_cases e : C ≤ y
    · rw [if_pos e, show y = C by omega]
    · rw [if_neg e, ← dot_s]
      exact ih (y + 1) (by omega) (by omega)
theorem rpd_in {lb : Nat → (Nat → Int64) → Nat → Int64} (h5 : Co ≤ 5) {u : Nat → Int64} : ∀ n y : Nat, y ≤ Co → Co - y < n → D_X7_product_29 C f Co fo lb a n y (pd C a y Co f fo u) = lb (a + 1) (pd C (a + 1) 0 Co f fo u) := by
  intro n
  induction n with
  | zero => intro y _ h; omega
  | succ n ih =>
    intro y hy hn
    rw [D_X7_product_29_s]
    by_cases e : Co ≤ y
    · rw [if_pos e, show y = Co by omega, pd_r]
    · rw [if_neg e]
      have h := rpd_k (C := C) (f := f) (fo := fo) (a := a) (b := y) (g := pd C a y Co f fo u) (lb := D_X7_product_29 C f Co fo lb a n) (C + 1 - 0 + 1) 0 (by omega) (by omega)
      rw [show dot 0 f fo a y = 0 from rfl] at h
      rw [h, pd_s (by omega) h5]
      exact ih (y + 1) (by omega) (by omega)
theorem rpd_l (h5 : Co ≤ 5) {u : Nat → Int64} : ∀ n y : Nat, y ≤ R → R - y < n → D_X7_product_18 R C f Co fo n y (pd C y 0 Co f fo u) = pd C R 0 Co f fo u := by
  intro n
  induction n with
  | zero => intro y _ h; omega
  | succ n ih =>
    intro y hy hn
    rw [D_X7_product_18_s]
    by_cases e : R ≤ y
    · rw [if_pos e, show y = R by omega]
    · rw [if_neg e, rpd_in h5 (Co + 1 - 0 + 1) 0 (by omega) (by omega)]
      exact ih (y + 1) (by omega) (by omega)
theorem rpd (h5 : Co ≤ 5) : D_X7_product R C f Ro Co fo = pd C R 0 Co f fo (fun _ => 0) := by
  have h := rpd_l (R := R) (C := C) (f := f) (fo := fo) h5 (u := fun _ => 0) (R + 1 - 0 + 1) 0 (by omega) (by omega)
  rw [pd0] at h
  exact h
/-- rows become columns, so far -/
def fl (a b c : Nat) (g h : Nat → Int64) : Nat → Int64 := fun k => if (k % 5 < a ∧ k / 5 < c) ∨ (k % 5 = a ∧ k / 5 < b) then g (k % 5 * 5 + k / 5) else h k
theorem fl_s {g h : Nat → Int64} {c : Nat} (ha : a < 5) (hb : b < c) : vp_updL (fl a b c g h) (b * 5 + a) (g (a * 5 + b)) = fl a (b + 1) c g h := by
  funext k
  unfold vp_updL fl
  by_cases e : k = b * 5 + a
  · subst e; rw [if_pos rfl, if_pos (by omega)]; congr 1; omega
  · rw [if_neg e]
    by_cases h : (k % 5 < a ∧ k / 5 < c) ∨ (k % 5 = a ∧ k / 5 < b)
    · rw [if_pos h, if_pos (by omega)]
    · rw [if_neg h, if_neg (by omega)]
theorem fl_r {g h : Nat → Int64} {c : Nat} : fl a c c g h = fl (a + 1) 0 c g h := by
  funext k
  unfold fl
  by_cases e : (k % 5 < a ∧ k / 5 < c) ∨ (k % 5 = a ∧ k / 5 < c)
  · rw [if_pos e, if_pos (by omega)]
  · rw [if_neg e, if_neg (by omega)]
theorem fl0 {g h : Nat → Int64} {c : Nat} : fl 0 0 c g h = h := by funext k; unfold fl; rw [if_neg (by omega)]
theorem rfl_in {lb : Nat → (Nat → Int64) → Nat → Int64} (ha : a < 5) {u : Nat → Int64} : ∀ n y : Nat, y ≤ Co → Co - y < n → D_X10_flipped_28 Co fo lb a n y (fl a y Co fo u) = lb (a + 1) (fl (a + 1) 0 Co fo u) := by
  intro n
  induction n with
  | zero => intro y _ h; omega
  | succ n ih =>
    intro y hy hn
    rw [D_X10_flipped_28_s]
    by_cases e : Co ≤ y
    · rw [if_pos e, show y = Co by omega, fl_r]
    · rw [if_neg e, fl_s ha (by omega)]
      exact ih (y + 1) (by omega) (by omega)
theorem rfl_l (h4 : Ro ≤ 4) {u : Nat → Int64} : ∀ n y : Nat, y ≤ Ro → Ro - y < n → D_X10_flipped_18 Ro Co fo n y (fl y 0 Co fo u) = fl Ro 0 Co fo u := by
  intro n
  induction n with
  | zero => intro y _ h; omega
  | succ n ih =>
    intro y hy hn
    rw [D_X10_flipped_18_s]
    by_cases e : Ro ≤ y
    · rw [if_pos e, show y = Ro by omega]
    · rw [if_neg e, rfl_in (by omega) (Co + 1 - 0 + 1) 0 (by omega) (by omega)]
      exact ih (y + 1) (by omega) (by omega)
theorem rflp (h4 : Ro ≤ 4) : D_X10_flipped Ro Co fo = fl Ro 0 Co fo (fun _ => 0) := by
  have h := rfl_l (Ro := Ro) (Co := Co) (fo := fo) h4 (u := fun _ => 0) (Ro + 1 - 0 + 1) 0 (by omega) (by omega)
  rw [fl0] at h
  exact h
theorem rco_l {c0 : Nat} : ∀ n y : Nat, y ≤ Ro → Ro - y < n → D_X10_column_21 Ro fo c0 n y (co y c0 fo (fun _ => 0)) = co Ro c0 fo (fun _ => 0) := by
  intro n
  induction n with
  | zero => intro y _ h; omega
  | succ n ih =>
    intro y hy hn
    rw [D_X10_column_21_s]
    by_cases e : Ro ≤ y
    · rw [if_pos e, show y = Ro by omega]
    · rw [if_neg e, co_s]
      exact ih (y + 1) (by omega) (by omega)
theorem rco {p q s t : Int32} {y : Int32} {c0 : Nat} : D_X10_column p q s t Ro Co fo y c0 = co Ro c0 fo (fun _ => 0) := by
  have h := rco_l (Ro := Ro) (fo := fo) (c0 := c0) (Ro + 1 - 0 + 1) 0 (by omega) (by omega)
  rw [co0] at h
  exact h
end PRG
end
section
-- 49.prow
/-! ===== The row steps of both sides are the same ===== -/
theorem fdv_b {x p : Int64} (hx : ng x) (hp : 0 < p.toInt) : -1000000001 ≤ (fdv x p).toInt ∧ (fdv x p).toInt ≤ 1000000000 := by
  have h1 := ng_int hx
  have h0 : ¬ p = 0 := fun e => by rw [e] at hp; exact absurd hp (by decide)
  have h2 : (x.toInt.tdiv p.toInt).natAbs ≤ x.toInt.natAbs := by rw [Int.natAbs_tdiv]; exact Nat.div_le_self _ _
  have h3 : (x / p).toInt = x.toInt.tdiv p.toInt := by
    rw [Int64.toInt_div]
    exact Int.bmod_eq_of_le (by omega) (by omega)
  unfold fdv
  split
  · rw [h3]; omega
  · split
    · rw [h3]; omega
    · rw [Int64.toInt_sub, h3, show (1 : Int64).toInt = 1 from rfl, Int.bmod_eq_of_le (by omega) (by omega)]
      omega
theorem mad_int {a t b : Int64} (ha : ng a) (hb : ng b) (h1 : -1000000001 ≤ t.toInt) (h2 : t.toInt ≤ 1000000001) : (a + t * b).toInt = a.toInt + t.toInt * b.toInt ∧ (t.toInt * b.toInt).natAbs ≤ 1000000001 * 1000000000 := by
  have ha := ng_int ha
  have hb := ng_int hb
  have h3 : (t.toInt * b.toInt).natAbs ≤ 1000000001 * 1000000000 := by
    rw [Int.natAbs_mul]
    exact Nat.mul_le_mul (by omega) (by omega)
  refine ⟨?_, h3⟩
  rw [Int64.toInt_add, Int64.toInt_mul, Int.add_bmod_bmod]
  exact Int.bmod_eq_of_le (by omega) (by omega)
theorem neg_b {t : Int64} (h1 : -1000000001 ≤ t.toInt) (h2 : t.toInt ≤ 1000000001) : (-t).toInt = -t.toInt := by
  rw [Int64.toInt_neg]
  exact Int.bmod_eq_of_le (by omega) (by omega)
theorem mad_b {a x p b : Int64} (ha : ng a) (hb : ng b) (hx : ng x) (hp : 0 < p.toInt) : -9223372036854775807 ≤ (a + -(fdv x p) * b).toInt := by
  have h1 := fdv_b hx hp
  have h2 := neg_b (t := fdv x p) (by omega) (by omega)
  obtain ⟨h3, h4⟩ := mad_int (t := -(fdv x p)) ha hb (by omega) (by omega)
  have ha := ng_int ha
  omega
theorem wt_ng {x : Int64} (h : -9223372036854775807 ≤ x.toInt) : wt 1000000000 x ↔ ng x := by
  have hn : (-x).toInt = -x.toInt := by
    have := Int64.toInt_lt x
    rw [Int64.toInt_neg]
    exact Int.bmod_eq_of_le (by omega) (by omega)
  unfold wt ab ng
  by_cases c : 0 < x
  · rw [if_pos c]
    have c := Int64.lt_iff_toInt_lt.mp c
    rw [show (0 : Int64).toInt = 0 from rfl] at c
    simp only [Int64.le_iff_toInt_le]
    rw [show (1000000000 : Int64).toInt = 1000000000 from rfl, show (-1000000000 : Int64).toInt = -1000000000 from rfl]
    omega
  · rw [if_neg c]
    have c : ¬ (0 : Int64).toInt < x.toInt := fun z => c (Int64.lt_iff_toInt_lt.mpr z)
    rw [show (0 : Int64).toInt = 0 from rfl] at c
    simp only [Int64.le_iff_toInt_le]
    rw [show (1000000000 : Int64).toInt = 1000000000 from rfl, show (-1000000000 : Int64).toInt = -1000000000 from rfl, hn]
    omega
theorem wt_all {R C : Nat} {w : Nat → Int64} (hC : C ≤ 5) (hb : ∀ k, k < R * 5 → -9223372036854775807 ≤ (w k).toInt) (hz : ∀ k, k < R * 5 → C ≤ k % 5 → ng (w k)) : (∀ a b, a < R → b < C → wt 1000000000 (w (a * 5 + b))) ↔ ∀ k, k < R * 5 → ng (w k) := by
  constructor
  · intro h k hk
    by_cases e : C ≤ k % 5
    · exact hz k hk e
    · have h1 := h (k / 5) (k % 5) (by omega) (by omega)
      rw [show k / 5 * 5 + k % 5 = k by omega] at h1
      exact (wt_ng (hb k hk)).mp h1
  · intro h a b ha hbb
    exact (wt_ng (hb _ (by omega))).mpr (h _ (by omega))
theorem cpl {w u : Nat → Int64} {k : Nat} (h : k < 20) : cp 20 w u k = w k := if_pos h
theorem cp_ar {C i j : Nat} {t : Int64} {w u : Nat → Int64} (hi : i < 4) (hj : j < 4) : ar C i j t (cp 20 w u) = cp 20 (ar C i j t w) u := by
  funext k
  unfold ar cp
  by_cases e : k < 20
  · simp only [if_pos e]
    split
    · rw [if_pos (by omega)]
    · rfl
  · simp only [if_neg e]
    rw [if_neg (by omega)]
theorem cp_xr {C i j : Nat} {w u : Nat → Int64} (hi : i < 4) (hj : j < 4) : xr C i j (cp 20 w u) = cp 20 (xr C i j w) u := by
  funext k
  unfold xr cp
  by_cases e : k < 20
  · simp only [if_pos e]
    split
    · rw [if_pos (by omega)]
    · split
      · rw [if_pos (by omega)]
      · rfl
  · simp only [if_neg e]
    rw [if_neg (by omega), if_neg (by omega)]
theorem cp_tr {C i : Nat} {w u : Nat → Int64} (hi : i < 4) : tr C i (cp 20 w u) = cp 20 (tr C i w) u := by
  funext k
  unfold tr cp
  by_cases e : k < 20
  · simp only [if_pos e]
  · simp only [if_neg e]
    rw [if_neg (by omega)]
theorem ar_z {C i j : Nat} {t : Int64} {w : Nat → Int64} (h : t = 0) : ar C i j t w = w := by
  subst h
  funext k
  unfold ar
  split
  · rw [Int64.zero_mul, Int64.add_zero]
  · rfl
/-- the grids 6 and 7 are others, as far as they go -/
def cs (f : Nat → Nat → Int64) (w v : Nat → Int64) : Nat → Nat → Int64 := va_up (va_up f 6 (cp 20 w (f 6))) 7 (cp 20 v (f 7))
/-- the shapes of the row steps -/
def SH (r : Nat → Int32) (R C : Nat) : Prop := r (2 * 6) = nI R ∧ r (2 * 6 + 1) = nI C ∧ r (2 * 7) = nI R ∧ r (2 * 7 + 1) = nI R
section PRS
variable {r q : Nat → Int32} {f : Nat → Nat → Int64} {w v : Nat → Int64} {R C i rr c : Nat} {s : Int32}
theorem cs6 : cs f w v 6 = cp 20 w (f 6) := (vu_ne (by decide)).trans vu_self
theorem cs7 : cs f w v 7 = cp 20 v (f 7) := vu_self
theorem cs_s6 {w1 : Nat → Int64} : va_up (cs f w v) 6 (cp 20 w1 (f 6)) = cs f w1 v := by
  funext j
  unfold cs va_up
  by_cases e : j = 6
  · subst e; simp
  · simp [e]
theorem cs_s7 {v1 : Nat → Int64} : va_up (cs f w v) 7 (cp 20 v1 (f 7)) = cs f w v1 := vu2
theorem cdd {x y : Int64} (h : y ≠ 0) : D_X5_divideDown x y = fdv x y := by
  unfold D_X5_divideDown
  rw [if_neg (fun e => h (lgE.mp e))]
  rfl
theorem vq0 (h : q 0 = 0) : va_up q 0 0 = q := by
  funext j
  unfold va_up
  split
  · next e => rw [e, h]
  · rfl
theorem nzp {x : Int64} (h : 0 < x.toInt) : x ≠ 0 := fun e => by rw [e] at h; exact absurd h (by decide)
theorem ar_ng {t : Int64} {k : Nat} (h : C ≤ k % 5) : ar C i rr t w k = w k := by unfold ar; rw [if_neg (by omega)]
theorem ar_lo (hr4 : rr < R) {x p : Int64} (hw : ∀ k, k < R * 5 → ng (w k)) (hx : ng x) (hp : 0 < p.toInt) : ∀ k, k < R * 5 → -9223372036854775807 ≤ (ar C i rr (-(fdv x p)) w k).toInt := by
  intro k hk
  unfold ar
  split
  · exact mad_b (hw k hk) (hw _ (by omega)) hx hp
  · have := ng_int (hw k hk)
    omega
/-- a row taken off: the same on both sides -/
theorem to_eq (hS : SH r R C) (hR : R ≤ 4) (hC : C ≤ 5) (hi : i < R) (hr : rr < R) (hc : c < C) (hne : i ≠ rr) (hw : ∀ k, k < R * 5 → ng (w k)) (hv : ∀ k, k < R * 5 → ng (v k)) (hp : 0 < (w (rr * 5 + c)).toInt) :
    ∃ (G : Int32) (w1 v1 : Nat → Int64), (G = 0 ∨ G = 1) ∧ (w1 = ar C i rr (-(fdv (w (i * 5 + c)) (w (rr * 5 + c)))) w ∧ v1 = ar R i rr (-(fdv (w (i * 5 + c)) (w (rr * 5 + c)))) v) ∧ D_X4_takeOff r q (cs f w v) (nI i) (nI rr) (nI c) = (va_up q 0 G, cs f w1 v1) ∧ D_X8_takeOff R C v w s 0 i rr c = (v1, w1, s, G) ∧ (G = 0 → (∀ k, k < R * 5 → ng (w1 k)) ∧ ∀ k, k < R * 5 → ng (v1 k)) := by
  obtain ⟨s1, s2, s3, s4⟩ := hS
  have hx := hw (i * 5 + c) (by omega)
  have bw := ar_lo (C := C) (i := i) hr hw hx hp
  have bv := ar_lo (C := R) (i := i) hr hv hx hp
  have aw := wt_all (R := R) (w := ar C i rr (-(fdv (w (i * 5 + c)) (w (rr * 5 + c)))) w) hC bw (fun k hk e => by rw [ar_ng e]; exact hw k hk)
  have av := wt_all (R := R) (C := R) (w := ar R i rr (-(fdv (w (i * 5 + c)) (w (rr * 5 + c)))) v) (by omega) bv (fun k hk e => by rw [ar_ng e]; exact hv k hk)
  generalize hw1 : ar C i rr (-(fdv (w (i * 5 + c)) (w (rr * 5 + c)))) w = w1 at bw aw
  generalize hv1 : ar R i rr (-(fdv (w (i * 5 + c)) (w (rr * 5 + c)))) v = v1 at bv av
  -- the class
  have hc1 : (((∀ k, k < R * 5 → ng (w1 k)) ∧ ∀ k, k < R * 5 → ng (v1 k)) ∧ D_X4_takeOff r q (cs f w v) (nI i) (nI rr) (nI c) = (va_up q 0 0, cs f w1 v1)) ∨ (¬ ((∀ k, k < R * 5 → ng (w1 k)) ∧ ∀ k, k < R * 5 → ng (v1 k)) ∧ D_X4_takeOff r q (cs f w v) (nI i) (nI rr) (nI c) = (va_up q 0 1, cs f w1 v1)) := by
    unfold D_X4_takeOff
    simp only [bnd1]
    rw [cget (by omega) (by omega), cget (by omega) (by omega), cs6, cpl (by omega), cpl (by omega), cdd (nzp hp), caddR s2 hC (by omega) (by omega) hne, cs6, cp_ar (by omega) (by omega), cs_s6, caddR s4 (by omega) (by omega) (by omega) hne, cs7, cp_ar (by omega) (by omega), cs_s7, hw1, hv1]
    rcases ciw (q := q) (p := 1000000000) (f := cs f w1 v1) (i := 6) s1 s2 hR hC with ⟨h1, h2⟩ | ⟨h1, h2⟩
    · rw [h2, if_neg (by decide)]
      have h1 : ∀ k, k < R * 5 → ng (w1 k) := aw.mp (fun a b ha hb => by have := h1 a b ha hb; rw [cs6, cpl (by omega)] at this; exact this)
      rcases ciw (q := q) (p := 1000000000) (f := cs f w1 v1) (i := 7) s3 s4 hR (by omega) with ⟨h3, h4⟩ | ⟨h3, h4⟩
      · rw [h4, if_neg (by decide)]
        have h3 : ∀ k, k < R * 5 → ng (v1 k) := av.mp (fun a b ha hb => by have := h3 a b ha hb; rw [cs7, cpl (by omega)] at this; exact this)
        exact Or.inl ⟨⟨h1, h3⟩, rfl⟩
      · rw [h4, if_pos rfl]
        obtain ⟨a, b, ha, hb, h5⟩ := h3
        exact Or.inr ⟨fun h => h5 (by rw [cs7, cpl (by omega)]; exact av.mpr h.2 a b ha hb), rfl⟩
    · rw [h2, if_pos rfl]
      obtain ⟨a, b, ha, hb, h5⟩ := h1
      exact Or.inr ⟨fun h => h5 (by rw [cs6, cpl (by omega)]; exact aw.mpr h.1 a b ha hb), rfl⟩
  -- the reference
  have hr1 : (((∀ k, k < R * 5 → ng (w1 k)) ∧ ∀ k, k < R * 5 → ng (v1 k)) ∧ D_X8_takeOff R C v w s 0 i rr c = (v1, w1, s, 0)) ∨ (¬ ((∀ k, k < R * 5 → ng (w1 k)) ∧ ∀ k, k < R * 5 → ng (v1 k)) ∧ D_X8_takeOff R C v w s 0 i rr c = (v1, w1, s, 1)) := by
    unfold D_X8_takeOff
    by_cases e0 : fdv (w (i * 5 + c)) (w (rr * 5 + c)) = 0
    · rw [if_pos (lgE.mpr e0)]
      have ez : -(fdv (w (i * 5 + c)) (w (rr * 5 + c))) = 0 := by rw [e0]; rfl
      rw [ar_z ez] at hw1 hv1
      subst hw1; subst hv1
      exact Or.inl ⟨⟨hw, hv⟩, rfl⟩
    · rw [if_neg (fun h => e0 (lgE.mp h)), if_pos rfl]
      simp only [bnd1]
      rw [hw1, hv1]
      rcases rig (R := R) (C := C) (f := w1) with ⟨h1, h2⟩ | ⟨⟨k, h1, h3⟩, h2⟩
      · rw [h2, if_pos rfl]
        rcases rig (R := R) (C := R) (f := v1) with ⟨h3, h4⟩ | ⟨⟨k, h3, h5⟩, h4⟩
        · rw [h4, if_pos rfl]
          exact Or.inl ⟨⟨h1, h3⟩, rfl⟩
        · rw [h4, if_neg (by decide)]
          exact Or.inr ⟨fun h => h5 (h.2 k h3), rfl⟩
      · rw [h2, if_neg (by decide)]
        exact Or.inr ⟨fun h => h3 (h.1 k h1), rfl⟩
  rcases hc1 with ⟨e, h1⟩ | ⟨e, h1⟩
  · rcases hr1 with ⟨_, h2⟩ | ⟨e2, _⟩
    · exact ⟨0, w1, v1, Or.inl rfl, ⟨rfl, rfl⟩, h1, h2, fun _ => e⟩
    · exact absurd e e2
  · rcases hr1 with ⟨e2, _⟩ | ⟨_, h2⟩
    · exact absurd e2 e
    · exact ⟨1, w1, v1, Or.inr rfl, ⟨rfl, rfl⟩, h1, h2, fun h => absurd h (by decide)⟩
end PRS
end
section
-- 50.prowb
/-! ===== The row steps: a pass, the passes, the columns ===== -/
/-- what lies beyond the shape is 0 -/
def zo (R C : Nat) (w : Nat → Int64) : Prop := ∀ k, k < 20 → (R ≤ k / 5 ∨ C ≤ k % 5) → w k = 0
/-- a form and its change: small enough, nothing beyond -/
def Sf (R C : Nat) (w v : Nat → Int64) : Prop := ((∀ k, k < R * 5 → ng (w k)) ∧ ∀ k, k < R * 5 → ng (v k)) ∧ zo R C w ∧ zo R R v
section PRB
variable {r q : Nat → Int32} {f : Nat → Nat → Int64} {w v : Nat → Int64} {R C i j rr c m : Nat} {s : Int32} {t : Int64}
theorem zo_ar (hi : i < R) (h : zo R C w) : zo R C (ar C i j t w) := by
  intro k hk hb
  unfold ar
  rw [if_neg (by omega)]
  exact h k hk hb
theorem zo_xr (hi : i < R) (hj : j < R) (h : zo R C w) : zo R C (xr C i j w) := by
  intro k hk hb
  unfold xr
  rw [if_neg (by omega), if_neg (by omega)]
  exact h k hk hb
theorem zo_tr (hi : i < R) (h : zo R C w) : zo R C (tr C i w) := by
  intro k hk hb
  unfold tr
  rw [if_neg (by omega)]
  exact h k hk hb
theorem ab0 {x : Int64} : ab x = 0 ↔ x = 0 := by
  unfold ab
  by_cases h : 0 < x
  · rw [if_pos h]
  · rw [if_neg h]
    constructor
    · intro e
      have := congrArg (fun z => -z) e
      simpa using this
    · intro e
      rw [e]; rfl
/-- the least of a column -/
theorem le_l (hS : SH r R C) (hR : R ≤ 4) (hc : c < 5) : ∀ n1 n2 y : Nat, ∀ x : Int32, y ≤ R → R - y < n1 → R - y < n2 → (x = -1 ∨ ∃ m, m < R ∧ x = nI m) → D_X4_findLeastRow_5 r q (cs f w v) (nI c) n1 (nI y) x = D_X8_least_5 R w c n2 y x := by
  intro n1
  induction n1 with
  | zero => intro n2 y x _ h; omega
  | succ n1 ih =>
    intro n2 y x hy h1 h2 hx
    obtain ⟨n2, rfl⟩ : ∃ n, n2 = n + 1 := ⟨n2 - 1, by omega⟩
    rw [D_X4_findLeastRow_5_s, D_X8_least_5_s, hS.1]
    by_cases e : R ≤ y
    · rw [if_pos (ile e (by omega)), if_pos e]
    · rw [if_neg (nile e (by omega)), if_neg e]
      simp only [bnd1, nm]
      rw [cget (by omega) hc, cs6, cpl (by omega)]
      by_cases e0 : w (y * 5 + c) = 0
      · rw [if_pos (lgE.mpr (ab0.mpr e0)), if_pos (lgE.mpr e0), s1]
        exact ih n2 (y + 1) x (by omega) (by omega) (by omega) hx
      · rw [if_neg (fun h => e0 (ab0.mp (lgE.mp h))), if_neg (fun h => e0 (lgE.mp h))]
        rcases hx with rfl | ⟨m, hm, rfl⟩
        · rw [if_pos (by decide), if_pos (by decide), s1]
          exact ih n2 (y + 1) _ (by omega) (by omega) (by omega) (Or.inr ⟨y, by omega, rfl⟩)
        · rw [if_neg (ilt0 (by omega)), if_neg (ilt0 (by omega)), cget (by omega) hc, cs6, cpl (by omega), nI_clamp (by omega)]
          by_cases e1 : 0 ≤ lg_cmp (ab (w (y * 5 + c))) (ab (w (m * 5 + c)))
          · rw [if_pos e1, if_pos e1, s1]
            exact ih n2 (y + 1) _ (by omega) (by omega) (by omega) (Or.inr ⟨m, hm, rfl⟩)
          · rw [if_neg e1, if_neg e1, s1]
            exact ih n2 (y + 1) _ (by omega) (by omega) (by omega) (Or.inr ⟨y, by omega, rfl⟩)
theorem le_eq (hS : SH r R C) (hR : R ≤ 4) (hc : c < 5) (hr : rr < R) : D_X4_findLeastRow r q (cs f w v) (nI rr) (nI c) = D_X8_least R C v w s 0 rr c := by
  unfold D_X4_findLeastRow D_X8_least
  rw [hS.1, gapN (by omega) (by omega)]
  exact le_l hS hR hc _ _ rr (-1) (by omega) (by omega) (by omega) (Or.inl rfl)
theorem rle_l (hng : ∀ k, k < R * 5 → ng (w k)) (hR : R ≤ 4) (hc : c < 5) : ∀ n y : Nat, ∀ x : Int32, rr ≤ y → y ≤ R → R - y < n → LPr R rr c w y x → LPr R rr c w R (D_X8_least_5 R w c n y x) := by
  intro n
  induction n with
  | zero => intro y x _ _ h; omega
  | succ n ih =>
    intro y x h0 hy hn hx
    rw [D_X8_least_5_s]
    by_cases e : R ≤ y
    · rw [if_pos e, show R = y by omega]
      rw [show R = y by omega] at hx
      exact hx
    · rw [if_neg e]
      by_cases e0 : lg_cmp (w (y * 5 + c)) 0 = 0
      · rw [if_pos e0]
        exact ih (y + 1) x (by omega) (by omega) (by omega) (LPr_z hx e0)
      · rw [if_neg e0]
        by_cases e1 : x < 0
        · rw [if_pos e1]
          exact ih (y + 1) _ (by omega) (by omega) (by omega) (LPr_n1 hx hR h0 (by omega) e0 e1)
        · rw [if_neg e1]
          simp only [nm]
          by_cases e2 : 0 ≤ lg_cmp (ab (w (y * 5 + c))) (ab (w (x.toNatClampNeg * 5 + c)))
          · rw [if_pos e2]
            exact ih (y + 1) _ (by omega) (by omega) (by omega) (LPr_k hx hc hng hR (by omega) e1 rfl rfl e2)
          · rw [if_neg e2]
            exact ih (y + 1) _ (by omega) (by omega) (by omega) (LPr_n2 hx hc hng hR h0 (by omega) e0 e1 rfl rfl e2)
theorem rle (hng : ∀ k, k < R * 5 → ng (w k)) (hR : R ≤ 4) (hc : c < 5) (hr : rr < R) : LPr R rr c w R (D_X8_least R C v w s 0 rr c) :=
  rle_l hng hR hc (R + 1 - rr + 1) rr (-1) (Nat.le_refl _) (by omega) (by omega) LPr_0
/-- nothing below -/
theorem cb_l (hS : SH r R C) (hR : R ≤ 4) (hc : c < 5) : ∀ n y : Nat, y ≤ R → R - y < n → ((∀ i, y ≤ i → i < R → w (i * 5 + c) = 0) ∧ D_X4_isClearBelow_4 r q (cs f w v) (nI c) n (nI y) = 1) ∨ ((∃ i, y ≤ i ∧ i < R ∧ ¬ w (i * 5 + c) = 0) ∧ D_X4_isClearBelow_4 r q (cs f w v) (nI c) n (nI y) = 0) := by
  intro n
  induction n with
  | zero => intro y _ h; omega
  | succ n ih =>
    intro y hy hn
    rw [D_X4_isClearBelow_4_s, hS.1]
    by_cases e : R ≤ y
    · rw [if_pos (ile e (by omega))]
      exact Or.inl ⟨fun i h1 h2 => absurd h2 (by omega), rfl⟩
    · rw [if_neg (nile e (by omega))]
      simp only [bnd1]
      rw [cget (by omega) hc, cs6, cpl (by omega)]
      by_cases e0 : w (y * 5 + c) = 0
      · rw [if_pos (lgE.mpr e0), s1]
        rcases ih (y + 1) (by omega) (by omega) with ⟨h1, h2⟩ | ⟨⟨i, h1, h2, h3⟩, h4⟩
        · refine Or.inl ⟨fun i h3 h4 => ?_, h2⟩
          by_cases e1 : i = y
          · rw [e1]; exact e0
          · exact h1 i (by omega) h4
        · exact Or.inr ⟨⟨i, by omega, h2, h3⟩, h4⟩
      · rw [if_neg (fun h => e0 (lgE.mp h))]
        exact Or.inr ⟨⟨y, Nat.le_refl _, by omega, e0⟩, rfl⟩
theorem cb (hS : SH r R C) (hR : R ≤ 4) (hc : c < 5) (hr : rr < R) : ((∀ i, rr + 1 ≤ i → i < R → w (i * 5 + c) = 0) ∧ D_X4_isClearBelow r q (cs f w v) (nI rr) (nI c) = 1) ∨ ((∃ i, rr + 1 ≤ i ∧ i < R ∧ ¬ w (i * 5 + c) = 0) ∧ D_X4_isClearBelow r q (cs f w v) (nI rr) (nI c) = 0) := by
  unfold D_X4_isClearBelow
  rw [hS.1, s1, gapN (by omega) (by omega)]
  exact cb_l hS hR hc _ (rr + 1) (by omega) (by omega)
/-- once great, the reference changes nothing more -/
theorem rto1 : D_X8_takeOff R C v w s 1 i rr c = (v, w, s, 1) := by
  unfold D_X8_takeOff
  split
  · rfl
  · rw [if_neg (by decide)]
theorem r164 : ∀ n y : Nat, rr - y < n → D_X8_isCleared_164 R C rr c n y v w s 1 = (1, v, w, s, 1) := by
  intro n
  induction n with
  | zero => intro y h; omega
  | succ n ih =>
    intro y h
    rw [D_X8_isCleared_164_s]
    by_cases e : rr ≤ y
    · rw [if_pos e]
    · rw [if_neg e, rto1]
      exact ih (y + 1) (by omega)
theorem r164b : ∀ n y : Nat, rr - y < n → D_X8_isCleared_164_1 R C rr c n y v w s 1 = (1, v, w, s, 1) := by
  intro n
  induction n with
  | zero => intro y h; omega
  | succ n ih =>
    intro y h
    rw [D_X8_isCleared_164_1_s]
    by_cases e : rr ≤ y
    · rw [if_pos e]
    · rw [if_neg e, rto1]
      exact ih (y + 1) (by omega)
theorem r2g {n : Nat} {M : Int32} : D_X8_isCleared_2 R C rr c (n + 1) M v w s 1 = (1, v, w, s, 1) := by
  rw [D_X8_isCleared_2_s]
  by_cases e : M = 0
  · rw [if_pos e]
    exact r164 _ 0 (by omega)
  · rw [if_neg e, if_neg (by decide)]
    exact r164b _ 0 (by omega)
theorem r109 {lb : Int32 → (Nat → Int64) → (Nat → Int64) → Int32 → Int32 → Int32 × (Nat → Int64) × (Nat → Int64) × Int32 × Int32} : ∀ n y : Nat, ∀ M : Int32, R - y < n → ∃ M1, D_X8_isCleared_109 R C rr c lb n y M v w s 1 = lb M1 v w s 1 := by
  intro n
  induction n with
  | zero => intro y M h; omega
  | succ n ih =>
    intro y M h
    rw [D_X8_isCleared_109_s]
    by_cases e : R ≤ y
    · rw [if_pos e]; exact ⟨M, rfl⟩
    · rw [if_neg e, rto1]
      simp only [bnd4]
      split
      · exact ih (y + 1) _ (by omega)
      · exact ih (y + 1) _ (by omega)
/-- the rows above -/
theorem L164 (hS : SH r R C) (hR : R ≤ 4) (hC : C ≤ 5) (hr : rr < R) (hc : c < C) : ∀ n1 n2 y : Nat, ∀ (w v : Nat → Int64) (q : Nat → Int32), y ≤ rr → rr - y < n1 → rr - y < n2 → q 0 = 0 → Sf R C w v → 0 < (w (rr * 5 + c)).toInt →
    ∃ (G : Int32) (w1 v1 w2 v2 : Nat → Int64), (G = 0 ∨ G = 1) ∧ D_X4_clearColumn_95 r (nI rr) (nI c) n1 (nI y) q (cs f w v) = (1, va_up q 0 G, cs f w1 v1) ∧ D_X8_isCleared_164 R C rr c n2 y v w s 0 = (1, v2, w2, s, G) ∧ (G = 0 → w2 = w1 ∧ v2 = v1 ∧ Sf R C w1 v1) := by
  intro n1
  induction n1 with
  | zero => intro n2 y w v q _ h; omega
  | succ n1 ih =>
    intro n2 y w v q hy h1 h2 hq hF hp
    obtain ⟨n2, rfl⟩ : ∃ n, n2 = n + 1 := ⟨n2 - 1, by omega⟩
    rw [D_X4_clearColumn_95_s, D_X8_isCleared_164_s]
    by_cases e : rr ≤ y
    · rw [if_pos (ile e (by omega)), if_pos e]
      exact ⟨0, w, v, w, v, Or.inl rfl, by rw [vq0 hq], rfl, fun _ => ⟨rfl, rfl, hF⟩⟩
    · rw [if_neg (nile e (by omega)), if_pos hq, if_neg e]
      obtain ⟨G, w1, v1, hG, ⟨hw1, hv1⟩, g1, g2, g3⟩ := to_eq (r := r) (q := q) (f := f) (s := s) hS hR hC (show y < R by omega) hr hc (by omega) hF.1.1 hF.1.2 hp
      rw [g1, g2]
      simp only [bnd2, bnd4]
      rcases hG with rfl | rfl
      · rw [s1, vq0 hq]
        refine ih n2 (y + 1) w1 v1 q (by omega) (by omega) (by omega) hq ⟨g3 rfl, ?_, ?_⟩ ?_
        · rw [hw1]; exact zo_ar (by omega) hF.2.1
        · rw [hv1]; exact zo_ar (by omega) hF.2.2
        · rw [hw1, show ar C y rr (-(fdv (w (y * 5 + c)) (w (rr * 5 + c)))) w (rr * 5 + c) = w (rr * 5 + c) by unfold ar; rw [if_neg (by omega)]]
          exact hp
      · refine ⟨1, w1, v1, w1, v1, Or.inr rfl, ?_, r164 _ _ (by omega), fun h => absurd h (by decide)⟩
        obtain ⟨n1, rfl⟩ : ∃ n, n1 = n + 1 := ⟨n1 - 1, by omega⟩
        rw [D_X4_clearColumn_95_s, s1]
        split
        · rfl
        · rw [if_neg (by rw [vu_self]; decide)]
end PRB
end
section
-- 51.prowc
section PRC
variable {r q : Nat → Int32} {f : Nat → Nat → Int64} {w v : Nat → Int64} {R C i j rr c m : Nat} {s : Int32} {t : Int64}
theorem ar_at {C i j c : Nat} {t : Int64} {w : Nat → Int64} (hc : c < C) (h5 : C ≤ 5) : ar C i j t w (i * 5 + c) = w (i * 5 + c) + t * w (j * 5 + c) := by
  unfold ar
  rw [if_pos (by omega), show (i * 5 + c) % 5 = c by omega]
theorem ar_off {C i j c a : Nat} {t : Int64} {w : Nat → Int64} (h5 : c < 5) (h : a ≠ i) : ar C i j t w (a * 5 + c) = w (a * 5 + c) := by
  unfold ar
  rw [if_neg (by omega)]
/-- the rows below -/
theorem L109 (hS : SH r R C) (hR : R ≤ 4) (hC : C ≤ 5) (hr : rr < R) (hc : c < C) {lbc : Int32 → (Nat → Int32) → (Nat → Nat → Int64) → Int32 × (Nat → Int32) × (Nat → Nat → Int64)} {yy : Int32} {lbr : Int32 → (Nat → Int64) → (Nat → Int64) → Int32 → Int32 → Int32 × (Nat → Int64) × (Nat → Int64) × Int32 × Int32} : ∀ n1 n2 y : Nat, ∀ (M : Int32) (w v : Nat → Int64) (q : Nat → Int32), rr + 1 ≤ y → y ≤ R → R - y < n1 → R - y < n2 → q 0 = 0 → Sf R C w v → 0 < (w (rr * 5 + c)).toInt →
    (∃ (M1 : Int32) (w1 v1 w2 v2 : Nat → Int64), D_X4_clearColumn_43 r (nI rr) (nI c) lbc yy n1 (nI y) q (cs f w v) = D_X4_clearColumn_j76 r (nI rr) (nI c) lbc yy (va_up q 0 1) (cs f w1 v1) ∧ D_X8_isCleared_109 R C rr c lbr n2 y M v w s 0 = lbr M1 v2 w2 s 1) ∨
    (∃ (M1 : Int32) (w1 v1 : Nat → Int64), D_X4_clearColumn_43 r (nI rr) (nI c) lbc yy n1 (nI y) q (cs f w v) = D_X4_clearColumn_j76 r (nI rr) (nI c) lbc yy q (cs f w1 v1) ∧ D_X8_isCleared_109 R C rr c lbr n2 y M v w s 0 = lbr M1 v1 w1 s 0 ∧ Sf R C w1 v1 ∧ (∀ a, a < y → w1 (a * 5 + c) = w (a * 5 + c)) ∧ (∀ a, y ≤ a → a < R → w1 (a * 5 + c) = rmf (w (a * 5 + c)) (w (rr * 5 + c))) ∧ (M1 = 0 ↔ M = 0 ∧ ∀ a, y ≤ a → a < R → w1 (a * 5 + c) = 0)) := by
  intro n1
  induction n1 with
  | zero => intro n2 y M w v q _ _ h; omega
  | succ n1 ih =>
    intro n2 y M w v q hy0 hy h1 h2 hq hF hp
    obtain ⟨n2, rfl⟩ : ∃ n, n2 = n + 1 := ⟨n2 - 1, by omega⟩
    rw [D_X4_clearColumn_43_s, D_X8_isCleared_109_s, hS.1]
    by_cases e : R ≤ y
    · rw [if_pos (ile e (by omega)), if_pos e]
      exact Or.inr ⟨M, w, v, rfl, rfl, hF, fun a _ => rfl, fun a ha hb => absurd hb (by omega), fun h => ⟨h, fun a ha hb => absurd hb (by omega)⟩, fun h => h.1⟩
    · rw [if_neg (nile e (by omega)), if_pos hq, if_neg e]
      obtain ⟨G, w1, v1, hG, ⟨hw1, hv1⟩, g1, g2, g3⟩ := to_eq (r := r) (q := q) (f := f) (s := s) hS hR hC (show y < R by omega) hr hc (by omega) hF.1.1 hF.1.2 hp
      rw [g1, g2]
      simp only [bnd2, bnd4]
      have hat : w1 (y * 5 + c) = rmf (w (y * 5 + c)) (w (rr * 5 + c)) := by rw [hw1, ar_at hc hC]; rfl
      have hoff : ∀ a, a ≠ y → w1 (a * 5 + c) = w (a * 5 + c) := fun a ha => by rw [hw1, ar_off (by omega) ha]
      rcases hG with rfl | rfl
      · have hF1 : Sf R C w1 v1 := ⟨g3 rfl, by rw [hw1]; exact zo_ar (by omega) hF.2.1, by rw [hv1]; exact zo_ar (by omega) hF.2.2⟩
        have hp1 : 0 < (w1 (rr * 5 + c)).toInt := by rw [hoff rr (by omega)]; exact hp
        rw [s1, vq0 hq]
        have key : ∀ M0 : Int32, (M0 = 0 ↔ M = 0 ∧ w1 (y * 5 + c) = 0) → (∃ (M1 : Int32) (w3 v3 w2 v2 : Nat → Int64), D_X4_clearColumn_43 r (nI rr) (nI c) lbc yy n1 (nI (y + 1)) q (cs f w1 v1) = D_X4_clearColumn_j76 r (nI rr) (nI c) lbc yy (va_up q 0 1) (cs f w3 v3) ∧ D_X8_isCleared_109 R C rr c lbr n2 (y + 1) M0 v1 w1 s 0 = lbr M1 v2 w2 s 1) ∨
            (∃ (M1 : Int32) (w3 v3 : Nat → Int64), D_X4_clearColumn_43 r (nI rr) (nI c) lbc yy n1 (nI (y + 1)) q (cs f w1 v1) = D_X4_clearColumn_j76 r (nI rr) (nI c) lbc yy q (cs f w3 v3) ∧ D_X8_isCleared_109 R C rr c lbr n2 (y + 1) M0 v1 w1 s 0 = lbr M1 v3 w3 s 0 ∧ Sf R C w3 v3 ∧ (∀ a, a < y → w3 (a * 5 + c) = w (a * 5 + c)) ∧ (∀ a, y ≤ a → a < R → w3 (a * 5 + c) = rmf (w (a * 5 + c)) (w (rr * 5 + c))) ∧ (M1 = 0 ↔ M = 0 ∧ ∀ a, y ≤ a → a < R → w3 (a * 5 + c) = 0)) := by
          intro M0 hM0
          rcases ih n2 (y + 1) M0 w1 v1 q (by omega) (by omega) (by omega) (by omega) hq hF1 hp1 with h | ⟨M1, w3, v3, k1, k2, k3, k4, k5, k6⟩
          · exact Or.inl h
          · refine Or.inr ⟨M1, w3, v3, k1, k2, k3, fun a ha => (k4 a (by omega)).trans (hoff a (by omega)), fun a ha hb => ?_, ?_⟩
            · by_cases ea : a = y
              · subst ea; rw [k4 a (by omega)]; exact hat
              · rw [k5 a (by omega) hb, hoff a ea, hoff rr (by omega)]
            · rw [k6, hM0]
              constructor
              · rintro ⟨⟨h3, h4⟩, h5⟩
                refine ⟨h3, fun a ha hb => ?_⟩
                by_cases ea : a = y
                · subst ea; rw [k4 a (by omega)]; exact h4
                · exact h5 a (by omega) hb
              · rintro ⟨h3, h4⟩
                refine ⟨⟨h3, ?_⟩, fun a ha hb => h4 a (by omega) hb⟩
                have := h4 y (Nat.le_refl _) (by omega)
                rw [k4 y (by omega)] at this
                exact this
        by_cases e0 : w1 (y * 5 + c) = 0
        · rw [if_pos (lgE.mpr e0)]
          exact key _ (by rw [Int32.or_zero]; exact ⟨fun h => ⟨h, e0⟩, fun h => h.1⟩)
        · rw [if_neg (fun h => e0 (lgE.mp h))]
          exact key _ ⟨fun h => absurd h (or1 M), fun h => absurd h.2 e0⟩
      · refine Or.inl ?_
        obtain ⟨n1, rfl⟩ : ∃ n, n1 = n + 1 := ⟨n1 - 1, by omega⟩
        have hcl : D_X4_clearColumn_43 r (nI rr) (nI c) lbc yy (n1 + 1) (nI y + 1) (va_up q 0 1) (cs f w1 v1) = D_X4_clearColumn_j76 r (nI rr) (nI c) lbc yy (va_up q 0 1) (cs f w1 v1) := by
          rw [D_X4_clearColumn_43_s]
          split
          · rfl
          · rw [if_neg (by rw [vu_self]; decide)]
        split
        · obtain ⟨M1, h⟩ := r109 (R := R) (C := C) (rr := rr) (c := c) (v := v1) (w := w1) (s := s) (lb := lbr) n2 (y + 1) (M ||| 0) (by omega)
          exact ⟨M1, w1, v1, w1, v1, hcl, h⟩
        · obtain ⟨M1, h⟩ := r109 (R := R) (C := C) (rr := rr) (c := c) (v := v1) (w := w1) (s := s) (lb := lbr) n2 (y + 1) (M ||| 1) (by omega)
          exact ⟨M1, w1, v1, w1, v1, hcl, h⟩
theorem Sf_xr (hi : i < R) (hj : j < R) (hF : Sf R C w v) : Sf R C (xr C i j w) (xr R i j v) := ⟨⟨ng_xr hi hj hF.1.1, ng_xr hi hj hF.1.2⟩, zo_xr hi hj hF.2.1, zo_xr hi hj hF.2.2⟩
theorem Sf_tr (hi : i < R) (hF : Sf R C w v) : Sf R C (tr C i w) (tr R i v) := ⟨⟨ng_tr hF.1.1, ng_tr hF.1.2⟩, zo_tr hi hF.2.1, zo_tr hi hF.2.2⟩
theorem cj25 (hS : SH r R C) (hR : R ≤ 4) (hC : C ≤ 5) (hr : rr < R) (hc : c < C) : D_X4_bring_j25 r q (nI rr) (nI c) (cs f w v) = if 0 ≤ lg_cmp (w (rr * 5 + c)) 0 then cs f w v else cs f (tr C rr w) (tr R rr v) := by
  obtain ⟨a1, a2, a3, a4⟩ := hS
  unfold D_X4_bring_j25
  simp only [bnd1]
  rw [cget (by omega) (by omega), cs6, cpl (by omega), ctuR a2 hC (by omega), cs6, cp_tr (by omega), cs_s6, ctuR a4 (by omega) (by omega), cs7, cp_tr (by omega), cs_s7]
theorem br2 (hS : SH r R C) (hR : R ≤ 4) (hC : C ≤ 5) (hr : rr < R) (hc : c < C) (hF : Sf R C w v) (hnz : ¬ w (rr * 5 + c) = 0) : ∃ (w1 v1 : Nat → Int64) (s1 : Int32), D_X4_bring_j25 r q (nI rr) (nI c) (cs f w v) = cs f w1 v1 ∧ (∀ lb i2, D_X8_isCleared_j63 R C rr c lb i2 v w s = D_X8_isCleared_j102 R C rr c lb i2 v1 w1 s1) ∧ Sf R C w1 v1 ∧ 0 < (w1 (rr * 5 + c)).toInt ∧ na (w1 (rr * 5 + c)) = na (w (rr * 5 + c)) ∧ ∀ a, rr < a → a < R → w1 (a * 5 + c) = w (a * 5 + c) := by
  rw [cj25 hS hR hC hr hc]
  by_cases e : 0 ≤ lg_cmp (w (rr * 5 + c)) 0
  · refine ⟨w, v, s, if_pos e, fun lb i2 => ?_, hF, pos_of e hnz, rfl, fun a _ _ => rfl⟩
    rw [D_X8_isCleared_j63_s, if_pos e]
  · refine ⟨tr C rr w, tr R rr v, -s, if_neg e, fun lb i2 => ?_, Sf_tr hr hF, ?_, ?_, fun a h1 h2 => ?_⟩
    · rw [D_X8_isCleared_j63_s, if_neg e]
    · rw [tr_r hc hC]; exact pos_neg (hF.1.1 _ (by omega)) e
    · rw [tr_r hc hC, na_neg (hF.1.1 _ (by omega))]
    · unfold tr; rw [if_neg (by omega)]
/-- the least comes to its row -/
theorem br_eq (hS : SH r R C) (hR : R ≤ 4) (hC : C ≤ 5) (hr : rr ≤ m) (hm : m < R) (hc : c < C) (hF : Sf R C w v) (hnz : ¬ w (m * 5 + c) = 0) : ∃ (w1 v1 : Nat → Int64) (s1 : Int32), D_X4_bring r q (cs f w v) (nI m) (nI rr) (nI c) = cs f w1 v1 ∧ (∀ lb i2, (if m = rr then D_X8_isCleared_j63 R C rr c lb i2 v w s else D_X8_isCleared_j63 R C rr c lb i2 (xr R m rr v) (xr C m rr w) (-s)) = D_X8_isCleared_j102 R C rr c lb i2 v1 w1 s1) ∧ Sf R C w1 v1 ∧ 0 < (w1 (rr * 5 + c)).toInt ∧ na (w1 (rr * 5 + c)) = na (w (m * 5 + c)) ∧ ∀ a, rr < a → a < R → w1 (a * 5 + c) = if a = m then w (rr * 5 + c) else w (a * 5 + c) := by
  unfold D_X4_bring
  by_cases e : m = rr
  · subst e
    rw [if_pos rfl]
    obtain ⟨w1, v1, s1, h1, h2, h3, h4, h5, h6⟩ := br2 (q := q) (f := f) (s := s) hS hR hC hm hc hF hnz
    refine ⟨w1, v1, s1, h1, fun lb i2 => ?_, h3, h4, h5, fun a ha hb => ?_⟩
    · rw [if_pos rfl]; exact h2 lb i2
    · rw [if_neg (by omega)]; exact h6 a ha hb
  · have hS0 := hS
    obtain ⟨a1, a2, a3, a4⟩ := hS0
    rw [if_neg (by rw [neqP (by omega) (by omega)]; exact e)]
    simp only [bnd1]
    rw [cexR a2 hC (by omega) (by omega), cs6, cp_xr (by omega) (by omega), cs_s6, cexR a4 (by omega) (by omega) (by omega), cs7, cp_xr (by omega) (by omega), cs_s7]
    have hx : xr C m rr w (rr * 5 + c) = w (m * 5 + c) := xr_r hc hC
    obtain ⟨w1, v1, s1, h1, h2, h3, h4, h5, h6⟩ := br2 (q := q) (f := f) (s := -s) hS hR hC (show rr < R by omega) hc (Sf_xr hm (show rr < R by omega) hF) (by rw [hx]; exact hnz)
    refine ⟨w1, v1, s1, h1, fun lb i2 => ?_, h3, h4, by rw [h5, hx], fun a ha hb => ?_⟩
    · rw [if_neg e]; exact h2 lb i2
    · rw [h6 a ha hb]
      unfold xr
      by_cases ea : a = m
      · rw [if_pos ea, if_pos (by omega)]; congr 1; omega
      · rw [if_neg ea, if_neg (by omega), if_neg (by omega)]
end PRC
end
section
-- 52.prowd
/-- both sides have ended: great both, or the same -/
def Fn (R C : Nat) (q : Nat → Int32) (f : Nat → Nat → Int64) (CL : Int32 × (Nat → Int32) × (Nat → Nat → Int64)) (RF : Int32 × (Nat → Int64) × (Nat → Int64) × Int32 × Int32) : Prop :=
  ∃ (G xc xr s1 : Int32) (w1 v1 w2 v2 : Nat → Int64), (G = 0 ∨ G = 1) ∧ CL = (xc, va_up q 0 G, cs f w1 v1) ∧ RF = (xr, v2, w2, s1, G) ∧ (G = 0 → xc = xr ∧ (xr = 0 ∨ xr = 1) ∧ w2 = w1 ∧ v2 = v1 ∧ Sf R C w1 v1)
section PRD
variable {r q : Nat → Int32} {f : Nat → Nat → Int64} {w v : Nat → Int64} {R C i j rr c m : Nat} {s : Int32} {t : Int64}
/-- a pass: an end, or a next one -/
theorem pass_eq (hS : SH r R C) (hR : R ≤ 4) (hC : C ≤ 5) (hr : rr < R) (hc : c < C) (hq : q 0 = 0) (hF : Sf R C w v) {M : Int32} (hM : ¬ M = 0) {n1 n2 y : Nat} (hy : y + 1 < 1000000) :
    Fn R C q f (D_X4_clearColumn_2 r (nI rr) (nI c) (n1 + 2) (nI y) q (cs f w v)) (D_X8_isCleared_2 R C rr c (n2 + 2) M v w s 0) ∨
    (∃ (w1 v1 : Nat → Int64) (s1 M1 : Int32) (m : Nat), ¬ M1 = 0 ∧ Sf R C w1 v1 ∧ (rr ≤ m ∧ m < R ∧ ¬ w (m * 5 + c) = 0 ∧ ∀ i, rr ≤ i → i < R → w (i * 5 + c) ≠ 0 → na (w (m * 5 + c)) ≤ na (w (i * 5 + c))) ∧ 0 < (w1 (rr * 5 + c)).toInt ∧ na (w1 (rr * 5 + c)) = na (w (m * 5 + c)) ∧
      (∀ a, rr < a → a < R → w1 (a * 5 + c) = rmf (if a = m then w (rr * 5 + c) else w (a * 5 + c)) (w1 (rr * 5 + c))) ∧ (∃ a, rr < a ∧ a < R ∧ ¬ w1 (a * 5 + c) = 0) ∧
      D_X4_clearColumn_2 r (nI rr) (nI c) (n1 + 2) (nI y) q (cs f w v) = D_X4_clearColumn_2 r (nI rr) (nI c) (n1 + 1) (nI (y + 1)) q (cs f w1 v1) ∧ D_X8_isCleared_2 R C rr c (n2 + 2) M v w s 0 = D_X8_isCleared_2 R C rr c (n2 + 1) M1 v1 w1 s1 0) := by
  have hcl : D_X4_clearColumn_2 r (nI rr) (nI c) (n1 + 2) (nI y) q (cs f w v) = if 0 ≤ D_X8_least R C v w s 0 rr c then D_X4_clearColumn_43 r (nI rr) (nI c) (D_X4_clearColumn_2 r (nI rr) (nI c) (n1 + 1)) (nI y) (R - (rr + 1) + 1) (nI (rr + 1)) q (D_X4_bring r q (cs f w v) (D_X8_least R C v w s 0 rr c) (nI rr) (nI c)) else (0, q, cs f w v) := by
    rw [show n1 + 2 = (n1 + 1) + 1 from rfl, D_X4_clearColumn_2_s, if_neg (show ¬ (1000000 : Int32) ≤ nI y from nile (a := 1000000) (by omega) (by omega)), if_pos hq]
    simp only [bnd1]
    rw [le_eq (s := s) hS hR (by omega) hr, hS.1, s1, gapN (by omega) (by omega)]
  have hl := rle (C := C) (v := v) (s := s) hF.1.1 hR (show c < 5 by omega) hr
  have hrf : D_X8_isCleared_2 R C rr c (n2 + 2) M v w s 0 = if D_X8_least R C v w s 0 rr c = -1 then (0, v, w, s, 0) else (if (D_X8_least R C v w s 0 rr c).toNatClampNeg = rr then D_X8_isCleared_j63 R C rr c (D_X8_isCleared_2 R C rr c (n2 + 1)) 0 v w s else D_X8_isCleared_j63 R C rr c (D_X8_isCleared_2 R C rr c (n2 + 1)) 0 (xr R (D_X8_least R C v w s 0 rr c).toNatClampNeg rr v) (xr C (D_X8_least R C v w s 0 rr c).toNatClampNeg rr w) (-s)) := by
    rw [show n2 + 2 = (n2 + 1) + 1 from rfl, D_X8_isCleared_2_s, if_neg hM, if_pos rfl]
    rfl
  rw [hcl, hrf]
  generalize D_X8_least R C v w s 0 rr c = x at hl
  rcases hl with ⟨rfl, hz⟩ | ⟨m, rfl, hm1, hm2, hm3, hm4⟩
  · rw [if_neg (by decide), if_pos rfl]
    exact Or.inl ⟨0, 0, 0, s, w, v, w, v, Or.inl rfl, by rw [vq0 hq], rfl, fun _ => ⟨rfl, Or.inl rfl, rfl, rfl, hF⟩⟩
  · rw [if_pos (Int32.not_lt.mp (ilt0 (by omega))), if_neg (nI_m1 (by omega)), nI_clamp (by omega)]
    obtain ⟨w1, v1, s2, h1, h2, h3, h4, h5, h6⟩ := br_eq (q := q) (f := f) (s := s) hS hR hC hm1 hm2 hc hF hm3
    rw [h1, h2, D_X8_isCleared_j102_s]
    rcases L109 (r := r) (f := f) (s := s2) (lbc := D_X4_clearColumn_2 r (nI rr) (nI c) (n1 + 1)) (yy := nI y) (lbr := D_X8_isCleared_2 R C rr c (n2 + 1)) hS hR hC hr hc (R - (rr + 1) + 1) (R + 1 - (rr + 1) + 1) (rr + 1) 0 w1 v1 q (by omega) (by omega) (by omega) (by omega) hq h3 h4 with ⟨M1, w3, v3, w4, v4, k1, k2⟩ | ⟨M1, w3, v3, k1, k2, k3, k4, k5, k6⟩
    · rw [k1, k2, r2g, D_X4_clearColumn_j76_s, if_neg (by rw [vu_self]; decide)]
      refine Or.inl ⟨1, 0, 1, s2, w3, v3, w4, v4, Or.inr rfl, ?_, rfl, fun h => absurd h (by decide)⟩
      rw [D_X4_clearColumn_2_s]
      split
      · rfl
      · rw [if_neg (by rw [vu_self]; decide)]
    · rw [k1, k2, D_X4_clearColumn_j76_s, if_pos hq]
      simp only [bnd1]
      have hpv : w3 (rr * 5 + c) = w1 (rr * 5 + c) := k4 rr (by omega)
      rcases cb (r := r) (q := q) (f := f) (w := w3) (v := v3) (c := c) hS hR (by omega) hr with ⟨b1, b2⟩ | ⟨⟨a, b1, b2, b3⟩, b4⟩
      · rw [b2, if_neg (by decide)]
        have hM1 : M1 = 0 := k6.mpr ⟨rfl, fun a ha hb => b1 a ha hb⟩
        rw [hM1, D_X8_isCleared_2_s, if_pos rfl, show gap (nI rr) 0 = rr - 0 from gapN (b := 0) (by omega) (by omega)]
        obtain ⟨G, w5, v5, w6, v6, g1, g2, g3, g4⟩ := L164 (r := r) (f := f) (s := s2) hS hR hC hr hc (rr - 0 + 1) (rr + 1 - 0 + 1) 0 w3 v3 q (by omega) (by omega) (by omega) hq k3 (by rw [hpv]; exact h4)
        exact Or.inl ⟨G, 1, 1, s2, w5, v5, w6, v6, g1, g2, g3, fun h => ⟨rfl, Or.inr rfl, (g4 h).1, (g4 h).2.1, (g4 h).2.2⟩⟩
      · rw [b4, if_pos rfl]
        have hM1 : ¬ M1 = 0 := fun h => b3 ((k6.mp h).2 a b1 b2)
        refine Or.inr ⟨w3, v3, s2, M1, m, hM1, k3, ⟨hm1, hm2, hm3, hm4⟩, by rw [hpv]; exact h4, by rw [hpv, h5], fun a' ha hb => ?_, ⟨a, by omega, b2, b3⟩, by rw [s1], rfl⟩
        rw [k5 a' (by omega) hb, h6 a' ha hb, hpv]
/-- the least of the column's part is below 2 ^ K, or there is none -/
def Lt (R rr c K : Nat) (w : Nat → Int64) : Prop := (∀ i, rr ≤ i → i < R → w (i * 5 + c) = 0) ∨ ∃ i, rr ≤ i ∧ i < R ∧ ¬ w (i * 5 + c) = 0 ∧ na (w (i * 5 + c)) < 2 ^ K
theorem rmf_mod {x p : Int64} (hx : 0 ≤ x.toInt) (hp : 0 < p.toInt) : (rmf x p).toInt = x.toInt % p.toInt := by
  have h0 : ¬ p = 0 := nzp hp
  rcases rmf_rem (x := x) hp with ⟨e, _⟩ | ⟨e, h⟩
  · rw [e, rem_int h0, Int.tmod_eq_emod_of_nonneg hx]
  · rw [rem_int h0, Int.tmod_eq_emod_of_nonneg hx] at h
    have := Int.emod_nonneg x.toInt (show p.toInt ≠ 0 by omega)
    omega
theorem na_pos {x : Int64} (h : 0 ≤ x.toInt) : (na x : Int) = x.toInt := by unfold na; omega
/-- all passes: some sixty at the most -/
theorem all_eq (hS : SH r R C) (hR : R ≤ 4) (hC : C ≤ 5) (hr : rr < R) (hc : c < C) (hq : q 0 = 0) : ∀ K n1 n2 y : Nat, ∀ (w v : Nat → Int64) (s M : Int32), ¬ M = 0 → Sf R C w v → y + 2 * K + 3 < 1000000 → 2 * K + 2 ≤ n1 → 2 * K + 2 ≤ n2 → Lt R rr c K w →
    Fn R C q f (D_X4_clearColumn_2 r (nI rr) (nI c) n1 (nI y) q (cs f w v)) (D_X8_isCleared_2 R C rr c n2 M v w s 0) := by
  intro K
  induction K with
  | zero =>
    intro n1 n2 y w v s M hM hF hy h1 h2 hL
    obtain ⟨n1, rfl⟩ : ∃ n, n1 = n + 2 := ⟨n1 - 2, by omega⟩
    obtain ⟨n2, rfl⟩ : ∃ n, n2 = n + 2 := ⟨n2 - 2, by omega⟩
    rcases pass_eq (r := r) (f := f) (s := s) hS hR hC hr hc hq hF hM (n1 := n1) (n2 := n2) (y := y) (by omega) with h | ⟨w1, v1, s1, M1, m, a1, a2, ⟨b1, b2, b3, b4⟩, _⟩
    · exact h
    · rcases hL with h | ⟨i, h1, h2, h3, h4⟩
      · exact absurd (h m b1 b2) b3
      · exact absurd (na0.mp (show na (w (i * 5 + c)) = 0 by omega)) h3
  | succ K ih =>
    intro n1 n2 y w v s M hM hF hy h1 h2 hL
    obtain ⟨n1, rfl⟩ : ∃ n, n1 = n + 2 := ⟨n1 - 2, by omega⟩
    obtain ⟨n2, rfl⟩ : ∃ n, n2 = n + 2 := ⟨n2 - 2, by omega⟩
    rcases pass_eq (r := r) (f := f) (s := s) hS hR hC hr hc hq hF hM (n1 := n1) (n2 := n2) (y := y) (by omega) with h | ⟨w1, v1, s1, M1, m, a1, a2, ⟨b1, b2, b3, b4⟩, a3, a4, a5, ⟨a, a6, a7, a8⟩, a9, a10⟩
    · exact h
    · rw [a9, a10]
      obtain ⟨n1, rfl⟩ : ∃ n, n1 = n + 1 := ⟨n1 - 1, by omega⟩
      obtain ⟨n2, rfl⟩ : ∃ n, n2 = n + 1 := ⟨n2 - 1, by omega⟩
      -- the pivot now, P < 2 ^ (K + 1)
      have hP : na (w1 (rr * 5 + c)) < 2 ^ (K + 1) := by
        rw [a4]
        rcases hL with h | ⟨i, h1, h2, h3, h4⟩
        · exact absurd (h m b1 b2) b3
        · exact Nat.lt_of_le_of_lt (b4 i h1 h2 h3) h4
      rcases pass_eq (r := r) (f := f) (s := s1) hS hR hC hr hc hq a2 a1 (n1 := n1) (n2 := n2) (y := y + 1) (by omega) with h | ⟨w2, v2, s2, M2, m2, c1, c2, ⟨d1, d2, d3, d4⟩, c3, c4, c5, ⟨a', c6, c7, c8⟩, c9, c10⟩
      · exact h
      · rw [c9, c10]
        refine ih _ _ _ w2 v2 s2 M2 c1 c2 (by omega) (by omega) (by omega) (Or.inr ?_)
        -- all below are less than the pivot of their pass
        have hlt : ∀ b, rr < b → b < R → 0 ≤ (w1 (b * 5 + c)).toInt ∧ (w1 (b * 5 + c)).toInt < (w1 (rr * 5 + c)).toInt := fun b hb1 hb2 => by rw [a5 b hb1 hb2]; exact rmf_int a3
        have hlt2 : ∀ b, rr < b → b < R → 0 ≤ (w2 (b * 5 + c)).toInt ∧ (w2 (b * 5 + c)).toInt < (w2 (rr * 5 + c)).toInt := fun b hb1 hb2 => by rw [c5 b hb1 hb2]; exact rmf_int c3
        have e1 := na_pos (Int.le_of_lt a3)
        have e2 := na_pos (Int.le_of_lt c3)
        have hpow : 2 ^ (K + 1) = 2 ^ K * 2 := Nat.pow_succ 2 K
        have hm2 : m2 ≠ rr := by
          intro e
          have h5 := d4 a (by omega) a7 a8
          rw [e] at h5
          have h6 := hlt a a6 a7
          have h7 : na (w1 (a * 5 + c)) < na (w1 (rr * 5 + c)) := by
            have := na_pos h6.1
            omega
          omega
        have h5 := hlt m2 (by omega) d2
        have e3 := na_pos h5.1
        by_cases hK : na (w2 (rr * 5 + c)) < 2 ^ K
        · have h6 := hlt2 a' c6 c7
          have h7 := na_pos h6.1
          exact ⟨a', by omega, c7, c8, by omega⟩
        · -- the elder pivot is left with less
          have h6 : w2 (m2 * 5 + c) = rmf (w1 (rr * 5 + c)) (w2 (rr * 5 + c)) := by rw [c5 m2 (by omega) d2, if_pos rfl]
          have h7 := rmf_mod (Int.le_of_lt a3) c3
          have h8 : (w1 (rr * 5 + c)).toInt % (w2 (rr * 5 + c)).toInt = (w1 (rr * 5 + c)).toInt - (w2 (rr * 5 + c)).toInt := by
            rw [← Int.sub_emod_right, Int.emod_eq_of_lt (by omega) (by omega)]
          refine ⟨m2, by omega, d2, ?_, ?_⟩
          · intro e
            rw [h6] at e
            rw [e, h8, show (0 : Int64).toInt = 0 from rfl] at h7
            omega
          · have h9 : 0 ≤ (w2 (m2 * 5 + c)).toInt := (hlt2 m2 (by omega) d2).1
            have h10 := na_pos h9
            rw [h6] at h10
            rw [h6]
            omega
end PRD
end
section
-- 53.prowe
/-- a table of the class and one of the reference -/
def CT (r : Nat → Int32) (f : Nat → Nat → Int64) (i R C : Nat) (g : Nat → Int64) : Prop := r (2 * i) = nI R ∧ r (2 * i + 1) = nI C ∧ ∀ k, k < 20 → f i k = cp (R * 5) g (fun _ => 0) k
section PRE
variable {r q : Nat → Int32} {f : Nat → Nat → Int64} {w v g : Nat → Int64} {R C i j rr c m : Nat} {s : Int32} {t : Int64}
theorem col_eq (hS : SH r R C) (hR : R ≤ 4) (hC : C ≤ 5) (hr : rr < R) (hc : c < C) (hq : q 0 = 0) (hF : Sf R C w v) : Fn R C q f (D_X4_clearColumn r q (cs f w v) (nI rr) (nI c)) (D_X8_isCleared R C v w s 0 rr c) := by
  unfold D_X4_clearColumn D_X8_isCleared
  rw [show gap 1000000 0 = 1000000 - 0 from gapN (a := 1000000) (b := 0) (by omega) (by omega)]
  refine all_eq hS hR hC hr hc hq 30 (1000000 - 0 + 1) (1000000000 + 1) 0 w v s 1 (by decide) hF (by omega) (by omega) (by omega) ?_
  by_cases h : ∀ i, rr ≤ i → i < R → w (i * 5 + c) = 0
  · exact Or.inl h
  · have ⟨i, hi⟩ := Classical.not_forall.mp h
    have ⟨h1, h2⟩ := Classical.not_imp.mp hi
    have ⟨h3, h4⟩ := Classical.not_imp.mp h2
    have h5 := ng_int (hF.1.1 (i * 5 + c) (by omega))
    exact Or.inr ⟨i, h1, h3, h4, by unfold na; omega⟩
theorem wk_l (hS : SH r R C) (hR : R ≤ 4) (hC : C ≤ 5) : ∀ n1 n2 y x : Nat, ∀ (w v : Nat → Int64) (q : Nat → Int32) (s : Int32), x ≤ R → y ≤ C → C - y < n1 → C - y < n2 → q 0 = 0 → Sf R C w v →
    ∃ (G s1 : Int32) (w1 v1 w2 v2 : Nat → Int64), (G = 0 ∨ G = 1) ∧ D_X4_walk_28 r n1 (nI y) (nI x) q (cs f w v) = (r, va_up q 0 G, cs f w1 v1) ∧ D_X8_init_32 R C n2 y x w v s 0 = (v2, w2, s1, G) ∧ (G = 0 → w2 = w1 ∧ v2 = v1 ∧ Sf R C w1 v1) := by
  intro n1
  induction n1 with
  | zero => intro n2 y x w v q s _ _ h; omega
  | succ n1 ih =>
    intro n2 y x w v q s hx hy h1 h2 hq hF
    obtain ⟨n2, rfl⟩ : ∃ n, n2 = n + 1 := ⟨n2 - 1, by omega⟩
    rw [D_X4_walk_28_s, D_X8_init_32_s, hS.2.1, hS.1]
    by_cases e : C ≤ y
    · rw [if_pos (ile e (by omega)), if_pos e]
      exact ⟨0, s, w, v, w, v, Or.inl rfl, by rw [vq0 hq], rfl, fun _ => ⟨rfl, rfl, hF⟩⟩
    · rw [if_neg (nile e (by omega)), if_neg e]
      by_cases e2 : R ≤ x
      · rw [if_pos (ile e2 (by omega)), if_pos e2]
        exact ⟨0, s, w, v, w, v, Or.inl rfl, by rw [vq0 hq], rfl, fun _ => ⟨rfl, rfl, hF⟩⟩
      · rw [if_neg (nile e2 (by omega)), if_neg e2, if_pos hq, if_pos rfl]
        obtain ⟨G, xc, xr0, s1', w1, v1, w2, v2, hG, g1, g2, g3⟩ := col_eq (r := r) (f := f) (s := s) hS hR hC (show x < R by omega) (show y < C by omega) hq hF
        rw [g1, g2]
        simp only [bnd3, bnd5]
        obtain ⟨n1, rfl⟩ : ∃ n, n1 = n + 1 := ⟨n1 - 1, by omega⟩
        obtain ⟨n2, rfl⟩ : ∃ n, n2 = n + 1 := ⟨n2 - 1, by omega⟩
        rcases hG with rfl | rfl
        · obtain ⟨rfl, hx01, rfl, rfl, hF1⟩ := g3 rfl
          rw [vq0 hq]
          rcases hx01 with rfl | rfl
          · rw [if_pos rfl, if_pos rfl, s1]
            exact ih (n2 + 1) (y + 1) x w2 v2 q s1' (by omega) (by omega) (by omega) (by omega) hq hF1
          · rw [if_neg (by decide), if_neg (by decide), s1, s1]
            exact ih (n2 + 1) (y + 1) (x + 1) w2 v2 q s1' (by omega) (by omega) (by omega) (by omega) hq hF1
        · refine ⟨1, s1', w1, v1, w2, v2, Or.inr rfl, ?_, ?_, fun h => absurd h (by decide)⟩
          · have hcl : ∀ z1 z2 : Int32, D_X4_walk_28 r (n1 + 1) z1 z2 (va_up q 0 1) (cs f w1 v1) = (r, va_up q 0 1, cs f w1 v1) := by
              intro z1 z2
              rw [D_X4_walk_28_s]
              split
              · rfl
              · split
                · rfl
                · rw [if_neg (by rw [vu_self]; decide)]
            split
            · exact hcl _ _
            · exact hcl _ _
          · have hrf : ∀ z1 z2 : Nat, D_X8_init_32 R C (n2 + 1) z1 z2 w2 v2 s1' 1 = (v2, w2, s1', 1) := by
              intro z1 z2
              rw [D_X8_init_32_s]
              split
              · rfl
              · split
                · rfl
                · rw [if_neg (by decide)]
            split
            · exact hrf _ _
            · exact hrf _ _
theorem ng0 : ng 0 := ⟨by decide, by decide⟩
theorem ng1 : ng 1 := ⟨by decide, by decide⟩
theorem un_ng {n : Nat} : ∀ k, ng (un n (fun _ => 0) k) := by
  intro k
  unfold un
  split
  · exact ng1
  · exact ng0
theorem un_zo {n : Nat} : zo n n (un n (fun _ => 0)) := by
  intro k hk h
  unfold un
  rw [if_neg (by omega)]
theorem un_cp {n : Nat} (h : n ≤ 4) {u : Nat → Int64} : un n (zf 20 u) = cp 20 (un n (fun _ => 0)) u := by
  funext k
  unfold un zf cp
  by_cases e : k < 20
  · rw [if_pos e, if_pos e]
  · rw [if_neg e, if_neg e, if_neg (by omega)]
theorem cp_ng (hg : ∀ k, k < R * 5 → ng (g k)) : ∀ k, ng (cp (R * 5) g (fun _ => 0) k) := by
  intro k
  unfold cp
  by_cases e : k < R * 5
  · rw [if_pos e]; exact hg k e
  · rw [if_neg e]; exact ng0
theorem cp_zo (hz : zc C (R * 5) g) : zo R C (cp (R * 5) g (fun _ => 0)) := by
  intro k hk h
  unfold cp
  by_cases e : k < R * 5
  · rw [if_pos e]; exact hz k e (by omega)
  · rw [if_neg e]
/-- the row steps of a table -/
theorem walk_eq (hT : CT r f i R C g) (h6 : i ≠ 6) (h7 : i ≠ 7) (h1 : 1 ≤ R) (hR : R ≤ 4) (h2 : 1 ≤ C) (hC : C ≤ 5) (hg : ∀ k, k < R * 5 → ng (g k)) (hz : zc C (R * 5) g) :
    ∃ (G s1 : Int32) (w1 v1 w2 v2 : Nat → Int64), (G = 0 ∨ G = 1) ∧ D_X4_walk r q f i = (rs (rs r 6 R C) 7 R R, va_up q 0 G, cs f w1 v1) ∧ D_X8_init R C g = (v2, w2, s1, G) ∧ (G = 0 → w2 = w1 ∧ v2 = v1 ∧ Sf R C w1 v1) := by
  obtain ⟨a1, a2, a3⟩ := hT
  unfold D_X4_walk D_X8_init
  rw [cbl a1 a2]
  simp only [bnd3, bnd1]
  rw [rs_R' h6, a1, cun h1 hR]
  simp only [bnd3]
  have hSH : SH (rs (rs r 6 R C) 7 R R) R C := ⟨(rs_R' (by decide)).trans rs_R, (rs_C' (by decide)).trans rs_C, rs_R, rs_C⟩
  have hf : va_up (va_up f 6 (cp 20 (f i) (f 6))) 7 (un R (zf 20 (va_up f 6 (cp 20 (f i) (f 6)) 7))) = cs f (cp (R * 5) g (fun _ => 0)) (un R (fun _ => 0)) := by
    unfold cs
    rw [vu_ne (show (7 : Nat) ≠ 6 by decide), un_cp hR]
    congr 2
    funext k
    by_cases e : k < 20
    · rw [cpl e, cpl e, a3 k e]
    · unfold cp; rw [if_neg e, if_neg e]
  rw [hf, hSH.2.1, show gap (nI C) 0 = C - 0 from gapN (b := 0) (by omega) (by omega), rcp, run]
  obtain ⟨G, s1', w1, v1, w2, v2, hG, g1, g2, g3⟩ := wk_l (f := f) hSH hR hC (C - 0 + 1) (C + 1 - 0 + 1) 0 0 (cp (R * 5) g (fun _ => 0)) (un R (fun _ => 0)) (va_up q 0 0) 1 (by omega) (by omega) (by omega) (by omega) vu_self ⟨⟨fun k _ => cp_ng hg k, fun k _ => un_ng k⟩, cp_zo hz, un_zo⟩
  refine ⟨G, s1', w1, v1, w2, v2, hG, ?_, g2, g3⟩
  rw [vu2] at g1
  exact g1
end PRE
end
section
-- 54.pdia
/-! ===== The steps to the diagonal of both sides are the same ===== -/
theorem cp_xc {R i j : Nat} {w u : Nat → Int64} (hi : i < 5) (hj : j < 5) (hR : R ≤ 4) : xc R i j (cp 20 w u) = cp 20 (xc R i j w) u := by
  funext k
  unfold xc cp
  by_cases e : k < 20
  · simp only [if_pos e]
    split
    · rw [if_pos (by omega)]
    · split
      · rw [if_pos (by omega)]
      · rfl
  · simp only [if_neg e]
    rw [if_neg (by omega), if_neg (by omega)]
theorem cp_ac {R i j : Nat} {t : Int64} {w u : Nat → Int64} (hi : i < 5) (hj : j < 5) (hR : R ≤ 4) : ac R i j t (cp 20 w u) = cp 20 (ac R i j t w) u := by
  funext k
  unfold ac cp
  by_cases e : k < 20
  · simp only [if_pos e]
    split
    · rw [if_pos (by omega)]
    · rfl
  · simp only [if_neg e]
    rw [if_neg (by omega)]
/-- the grids 8, 9 and 10 are others, as far as they go -/
def ds (f : Nat → Nat → Int64) (w v u : Nat → Int64) : Nat → Nat → Int64 := va_up (va_up (va_up f 8 (cp 20 w (f 8))) 9 (cp 20 v (f 9))) 10 (cp 20 u (f 10))
/-- the shapes of the steps -/
def DH (r : Nat → Int32) (R C : Nat) : Prop := (r (2 * 8) = nI R ∧ r (2 * 8 + 1) = nI C) ∧ (r (2 * 9) = nI R ∧ r (2 * 9 + 1) = nI R) ∧ r (2 * 10) = nI C ∧ r (2 * 10 + 1) = nI C
def Nw (R : Nat) (w : Nat → Int64) : Prop := ∀ k, k < R * 5 → ng (w k)
/-- the diagonal and its changes: small enough, nothing beyond -/
def Sd (R C : Nat) (w v u : Nat → Int64) : Prop := (Nw R w ∧ Nw R v ∧ Nw C u) ∧ zo R C w ∧ zo R R v ∧ zo C C u
section PDG
variable {r q : Nat → Int32} {f : Nat → Nat → Int64} {w v u : Nat → Int64} {R C a b t : Nat} {x : Int64} {s1' s2' i3 : Int32}
theorem ds8 : ds f w v u 8 = cp 20 w (f 8) := (vu_ne (by decide)).trans ((vu_ne (by decide)).trans vu_self)
theorem ds9 : ds f w v u 9 = cp 20 v (f 9) := (vu_ne (by decide)).trans vu_self
theorem ds10 : ds f w v u 10 = cp 20 u (f 10) := vu_self
theorem ds_s8 {w1 : Nat → Int64} : va_up (ds f w v u) 8 (cp 20 w1 (f 8)) = ds f w1 v u := by
  funext j
  unfold ds va_up
  by_cases e : j = 8
  · subst e; simp
  · simp [e]
theorem ds_s9 {v1 : Nat → Int64} : va_up (ds f w v u) 9 (cp 20 v1 (f 9)) = ds f w v1 u := by
  funext j
  unfold ds va_up
  by_cases e : j = 9
  · subst e; simp
  · simp [e]
theorem ds_s10 {u1 : Nat → Int64} : va_up (ds f w v u) 10 (cp 20 u1 (f 10)) = ds f w v u1 := vu2
theorem vq1 (h : q 1 = 0) : va_up q 1 0 = q := by
  funext j
  unfold va_up
  split
  · next e => rw [e, h]
  · rfl
theorem zo_ac {i j : Nat} (hi : i < C) (h : zo R C w) : zo R C (ac R i j x w) := by
  intro k hk hb
  unfold ac
  rw [if_neg (by omega)]
  exact h k hk hb
theorem zo_xc {i j : Nat} (hi : i < C) (hj : j < C) (h : zo R C w) : zo R C (xc R i j w) := by
  intro k hk hb
  unfold xc
  rw [if_neg (by omega), if_neg (by omega)]
  exact h k hk hb
theorem ngw_xc {i j : Nat} (hi : i < 5) (hj : j < 5) (h : Nw R w) : Nw R (xc R i j w) := by
  intro k hk
  unfold xc
  split
  · exact h _ (by omega)
  · split
    · exact h _ (by omega)
    · exact h k hk
/-- a number by which lines are taken off -/
def tb9 (x : Int64) : Prop := -1000000001 ≤ x.toInt ∧ x.toInt ≤ 1000000001
theorem tb_fdv {y p : Int64} (hy : ng y) (hp : 0 < p.toInt) : tb9 (-(fdv y p)) := by
  have h1 := fdv_b hy hp
  have h2 := neg_b (t := fdv y p) (by omega) (by omega)
  unfold tb9
  omega
theorem mad_lo {y z : Int64} (hy : ng y) (hz : ng z) (hx : tb9 x) : -9223372036854775807 ≤ (y + x * z).toInt := by
  obtain ⟨h3, h4⟩ := mad_int hy hz hx.1 hx.2
  have := ng_int hy
  omega
theorem ar_lo2 {i j : Nat} (hj : j < R) (hw : Nw R w) (hx : tb9 x) : ∀ k, k < R * 5 → -9223372036854775807 ≤ (ar C i j x w k).toInt := by
  intro k hk
  unfold ar
  split
  · exact mad_lo (hw k hk) (hw _ (by omega)) hx
  · have := ng_int (hw k hk)
    omega
theorem ac_lo2 {i j : Nat} (hj : j < 5) (hw : Nw R w) (hx : tb9 x) : ∀ k, k < R * 5 → -9223372036854775807 ≤ (ac R i j x w k).toInt := by
  intro k hk
  unfold ac
  split
  · exact mad_lo (hw k hk) (hw _ (by omega)) hx
  · have := ng_int (hw k hk)
    omega
theorem look_eq (hv : Nw R v ∨ ¬ Nw R v) (hu : Nw C u ∨ ¬ Nw C u) (hw : Nw R w ∨ ¬ Nw R w) : ((Nw R w ∧ Nw R v ∧ Nw C u) ∧ D_X9_look R C u v w s1' s2' i3 0 = 0) ∨ (¬ (Nw R w ∧ Nw R v ∧ Nw C u) ∧ D_X9_look R C u v w s1' s2' i3 0 = 1) := by
  unfold D_X9_look
  simp only [bnd1]
  rcases rig (R := R) (C := C) (f := w) with ⟨h1, h2⟩ | ⟨⟨k, h1, h3⟩, h2⟩
  · rw [h2, if_pos rfl]
    rcases rig (R := R) (C := R) (f := v) with ⟨h3, h4⟩ | ⟨⟨k, h3, h5⟩, h4⟩
    · rw [h4, if_pos rfl]
      rcases rig (R := C) (C := C) (f := u) with ⟨h5, h6⟩ | ⟨⟨k, h5, h7⟩, h6⟩
      · rw [h6, if_pos rfl]; exact Or.inl ⟨⟨h1, h3, h5⟩, rfl⟩
      · rw [h6, if_neg (by decide)]; exact Or.inr ⟨fun h => h7 (h.2.2 k h5), rfl⟩
    · rw [h4, if_neg (by decide)]; exact Or.inr ⟨fun h => h5 (h.2.1 k h3), rfl⟩
  · rw [h2, if_neg (by decide)]; exact Or.inr ⟨fun h => h3 (h.1 k h1), rfl⟩
theorem ac_ng {i j : Nat} {k : Nat} (h : R ≤ k / 5 ∨ ¬ k % 5 = i) : ac R i j x w k = w k := by unfold ac; rw [if_neg (by omega)]
/-- a row is added so many times: the same on both sides -/
theorem addR_eq (hD : DH r R C) (hR : R ≤ 4) (hC : C ≤ 4) (ha : a < R) (hb : b < R) (hne : a ≠ b) (hF : Sd R C w v u) (hx : tb9 x) :
    ∃ G : Int32, (G = 0 ∨ G = 1) ∧ D_X1_addRow r q (ds f w v u) (nI a) (nI b) x = (va_up q 1 G, ds f (ar C a b x w) (ar R a b x v) u) ∧ D_X9_look R C u (ar R a b x v) (ar C a b x w) s1' s2' i3 0 = G ∧ (G = 0 → Sd R C (ar C a b x w) (ar R a b x v) u) := by
  obtain ⟨⟨d1, d2⟩, ⟨d3, d4⟩, d5, d6⟩ := hD
  obtain ⟨⟨hw, hv, hu⟩, z1, z2, z3⟩ := hF
  have aw := wt_all (R := R) (w := ar C a b x w) (show C ≤ 5 by omega) (ar_lo2 hb hw hx) (fun k hk e => by rw [ar_ng e]; exact hw k hk)
  have av := wt_all (R := R) (C := R) (w := ar R a b x v) (by omega) (ar_lo2 hb hv hx) (fun k hk e => by rw [ar_ng e]; exact hv k hk)
  have hz : Sd R C (ar C a b x w) (ar R a b x v) u ↔ Nw R (ar C a b x w) ∧ Nw R (ar R a b x v) ∧ Nw C u := ⟨fun h => h.1, fun h => ⟨h, zo_ar ha z1, zo_ar ha z2, z3⟩⟩
  rw [hz]
  generalize hw1 : ar C a b x w = w1 at aw ⊢
  generalize hv1 : ar R a b x v = v1 at av ⊢
  have hc1 : ((Nw R w1 ∧ Nw R v1 ∧ Nw C u) ∧ D_X1_addRow r q (ds f w v u) (nI a) (nI b) x = (va_up q 1 0, ds f w1 v1 u)) ∨ (¬ (Nw R w1 ∧ Nw R v1 ∧ Nw C u) ∧ D_X1_addRow r q (ds f w v u) (nI a) (nI b) x = (va_up q 1 1, ds f w1 v1 u)) := by
    unfold D_X1_addRow
    simp only [bnd1]
    rw [caddR d2 (by omega) (by omega) (by omega) hne, ds8, cp_ar (by omega) (by omega), ds_s8, caddR d4 (by omega) (by omega) (by omega) hne, ds9, cp_ar (by omega) (by omega), ds_s9, hw1, hv1]
    rcases ciw (q := q) (p := 1000000000) (f := ds f w1 v1 u) (i := 8) d1 d2 hR (by omega) with ⟨h1, h2⟩ | ⟨h1, h2⟩
    · rw [h2, if_neg (by decide)]
      have h1 : Nw R w1 := aw.mp (fun a b ha hb => by have := h1 a b ha hb; rw [ds8, cpl (by omega)] at this; exact this)
      rcases ciw (q := q) (p := 1000000000) (f := ds f w1 v1 u) (i := 9) d3 d4 hR (by omega) with ⟨h3, h4⟩ | ⟨h3, h4⟩
      · rw [h4, if_neg (by decide)]
        have h3 : Nw R v1 := av.mp (fun a b ha hb => by have := h3 a b ha hb; rw [ds9, cpl (by omega)] at this; exact this)
        exact Or.inl ⟨⟨h1, h3, hu⟩, rfl⟩
      · rw [h4, if_pos rfl]
        obtain ⟨a, b, ha, hb, h5⟩ := h3
        exact Or.inr ⟨fun h => h5 (by rw [ds9, cpl (by omega)]; exact av.mpr h.2.1 a b ha hb), rfl⟩
    · rw [h2, if_pos rfl]
      obtain ⟨a, b, ha, hb, h5⟩ := h1
      exact Or.inr ⟨fun h => h5 (by rw [ds8, cpl (by omega)]; exact aw.mpr h.1 a b ha hb), rfl⟩
  rcases look_eq (R := R) (C := C) (u := u) (v := v1) (w := w1) (s1' := s1') (s2' := s2') (i3 := i3) (Classical.em _) (Classical.em _) (Classical.em _) with ⟨e, h⟩ | ⟨e, h⟩
  · rcases hc1 with ⟨_, h1⟩ | ⟨e1, _⟩
    · exact ⟨0, Or.inl rfl, h1, h, fun _ => e⟩
    · exact absurd e e1
  · rcases hc1 with ⟨e1, _⟩ | ⟨_, h1⟩
    · exact absurd e1 e
    · exact ⟨1, Or.inr rfl, h1, h, fun h => absurd h (by decide)⟩
/-- a column likewise -/
theorem addC_eq (hD : DH r R C) (hR : R ≤ 4) (hC : C ≤ 4) (ha : a < C) (hb : b < C) (hne : a ≠ b) (hF : Sd R C w v u) (hx : tb9 x) :
    ∃ G : Int32, (G = 0 ∨ G = 1) ∧ D_X1_addColumn r q (ds f w v u) (nI a) (nI b) x = (va_up q 1 G, ds f (ac R a b x w) v (ac C a b x u)) ∧ D_X9_look R C (ac C a b x u) v (ac R a b x w) s1' s2' i3 0 = G ∧ (G = 0 → Sd R C (ac R a b x w) v (ac C a b x u)) := by
  obtain ⟨⟨d1, d2⟩, ⟨d3, d4⟩, d5, d6⟩ := hD
  obtain ⟨⟨hw, hv, hu⟩, z1, z2, z3⟩ := hF
  have aw := wt_all (R := R) (w := ac R a b x w) (show C ≤ 5 by omega) (ac_lo2 (by omega) hw hx) (fun k hk e => by rw [ac_ng (Or.inr (by omega))]; exact hw k hk)
  have au := wt_all (R := C) (C := C) (w := ac C a b x u) (by omega) (ac_lo2 (by omega) hu hx) (fun k hk e => by rw [ac_ng (Or.inr (by omega))]; exact hu k hk)
  have hz : Sd R C (ac R a b x w) v (ac C a b x u) ↔ Nw R (ac R a b x w) ∧ Nw R v ∧ Nw C (ac C a b x u) := ⟨fun h => h.1, fun h => ⟨h, zo_ac ha z1, z2, zo_ac ha z3⟩⟩
  rw [hz]
  generalize hw1 : ac R a b x w = w1 at aw ⊢
  generalize hu1 : ac C a b x u = u1 at au ⊢
  have hc1 : ((Nw R w1 ∧ Nw R v ∧ Nw C u1) ∧ D_X1_addColumn r q (ds f w v u) (nI a) (nI b) x = (va_up q 1 0, ds f w1 v u1)) ∨ (¬ (Nw R w1 ∧ Nw R v ∧ Nw C u1) ∧ D_X1_addColumn r q (ds f w v u) (nI a) (nI b) x = (va_up q 1 1, ds f w1 v u1)) := by
    unfold D_X1_addColumn
    simp only [bnd1]
    rw [caddC (by decide) d1 hR (by omega) (by omega) hne, ds8, cp_ac (by omega) (by omega) hR, ds_s8, caddC (by decide) d5 hC (by omega) (by omega) hne, ds10, cp_ac (by omega) (by omega) hC, ds_s10, hw1, hu1]
    rcases ciw (q := q) (p := 1000000000) (f := ds f w1 v u1) (i := 8) d1 d2 hR (by omega) with ⟨h1, h2⟩ | ⟨h1, h2⟩
    · rw [h2, if_neg (by decide)]
      have h1 : Nw R w1 := aw.mp (fun a b ha hb => by have := h1 a b ha hb; rw [ds8, cpl (by omega)] at this; exact this)
      rcases ciw (q := q) (p := 1000000000) (f := ds f w1 v u1) (i := 10) d5 d6 hC (by omega) with ⟨h3, h4⟩ | ⟨h3, h4⟩
      · rw [h4, if_neg (by decide)]
        have h3 : Nw C u1 := au.mp (fun a b ha hb => by have := h3 a b ha hb; rw [ds10, cpl (by omega)] at this; exact this)
        exact Or.inl ⟨⟨h1, hv, h3⟩, rfl⟩
      · rw [h4, if_pos rfl]
        obtain ⟨a, b, ha, hb, h5⟩ := h3
        exact Or.inr ⟨fun h => h5 (by rw [ds10, cpl (by omega)]; exact au.mpr h.2.2 a b ha hb), rfl⟩
    · rw [h2, if_pos rfl]
      obtain ⟨a, b, ha, hb, h5⟩ := h1
      exact Or.inr ⟨fun h => h5 (by rw [ds8, cpl (by omega)]; exact aw.mpr h.1 a b ha hb), rfl⟩
  rcases look_eq (R := R) (C := C) (u := u1) (v := v) (w := w1) (s1' := s1') (s2' := s2') (i3 := i3) (Classical.em _) (Classical.em _) (Classical.em _) with ⟨e, h⟩ | ⟨e, h⟩
  · rcases hc1 with ⟨_, h1⟩ | ⟨e1, _⟩
    · exact ⟨0, Or.inl rfl, h1, h, fun _ => e⟩
    · exact absurd e e1
  · rcases hc1 with ⟨e1, _⟩ | ⟨_, h1⟩
    · exact absurd e1 e
    · exact ⟨1, Or.inr rfl, h1, h, fun h => absurd h (by decide)⟩
end PDG
end
section
-- 55.pdib
/-- all ahead of a place are above it in size -/
def Fi (R C t : Nat) (w : Nat → Int64) (row col : Nat) : Prop := ∀ a b, t ≤ a → a < R → t ≤ b → b < C → (a < row ∨ a = row ∧ b < col) → w (a * 5 + b) = 0 ∨ na (w (row * 5 + col)) < na (w (a * 5 + b))
/-- the least so far, as both sides keep it -/
def IP (R C t : Nat) (w : Nat → Int64) (fr : Prop) (sz : Int64) (pl : Int32) (row col : Nat) : Prop := (pl = -1 ∧ (row = t ∧ col = t) ∧ (w (t * 5 + t) = 0 ∨ fr)) ∨ (pl = nI (row * 5 + col) ∧ (t ≤ row ∧ row < R ∧ t ≤ col ∧ col < C) ∧ ¬ w (row * 5 + col) = 0 ∧ sz = ab (w (row * 5 + col)) ∧ Fi R C t w row col)
section PDB
variable {r q : Nat → Int32} {f : Nat → Nat → Int64} {w v u : Nat → Int64} {R C a b t : Nat} {x : Int64} {i1 i2 i3 : Int32}
theorem cix {i j : Nat} : (nI i * 5) + nI j = nI (i * 5 + j) := by rw [show (5 : Int32) = nI 5 from rfl, nI_mul, nI_add]
theorem rless {x y : Int64} (hx : ng x) (hy : ng y) : (D_X9_isLess R C u v w i1 i2 i3 0 x y = 0 ∧ (x = 0 ∨ ¬ y = 0 ∧ ¬ x = 0 ∧ 0 ≤ lg_cmp (ab x) (ab y) ∧ na y ≤ na x)) ∨ (D_X9_isLess R C u v w i1 i2 i3 0 x y = 1 ∧ ¬ x = 0 ∧ (y = 0 ∨ ¬ y = 0 ∧ ¬ 0 ≤ lg_cmp (ab x) (ab y) ∧ na x < na y)) := by
  unfold D_X9_isLess
  simp only [nm]
  by_cases e1 : y = 0
  · rw [if_pos (lgE.mpr e1)]
    by_cases e2 : x = 0
    · rw [if_pos (lgE.mpr e2)]; exact Or.inl ⟨rfl, Or.inl e2⟩
    · rw [if_neg (fun h => e2 (lgE.mp h))]; exact Or.inr ⟨rfl, e2, Or.inl e1⟩
  · rw [if_neg (fun h => e1 (lgE.mp h))]
    by_cases e2 : x = 0
    · rw [if_pos (lgE.mpr e2)]; exact Or.inl ⟨rfl, Or.inl e2⟩
    · rw [if_neg (fun h => e2 (lgE.mp h))]
      have hl := ab_lt hx hy
      by_cases e3 : 0 ≤ lg_cmp (ab x) (ab y)
      · rw [if_pos e3]
        refine Or.inl ⟨rfl, Or.inr ⟨e1, e2, e3, ?_⟩⟩
        exact Nat.not_lt.mp (fun h => absurd (hl.mpr h) (Int32.not_lt.mpr e3))
      · rw [if_neg e3]
        exact Or.inr ⟨rfl, e2, Or.inr ⟨e1, e3, hl.mp (Int32.not_le.mp e3)⟩⟩
theorem fp_in (hD : DH r R C) (hR : R ≤ 4) (hC : C ≤ 4) (ht : t < R ∧ t < C) (hw : Nw R w) {i : Nat} (hi : t ≤ i ∧ i < R) {lbc : Int32 → Int64 → Int32 → Int32} {lbr : Nat → Nat → Nat → Int32 × (Nat → Int64) × (Nat → Int64) × (Nat → Int64) × Int32 × Int32 × Int32} : ∀ n1 n2 j row col : Nat, ∀ (sz : Int64) (pl : Int32), t ≤ j → j ≤ C → C - j < n1 → C - j < n2 → IP R C t w (i = t ∧ j = t) sz pl row col → MIf R C t w i j row col →
    ∃ (sz' : Int64) (pl' : Int32) (row' col' : Nat), IP R C t w False sz' pl' row' col' ∧ MIf R C t w i C row' col' ∧ D_X1_findLeastPlace_22 r q (ds f w v u) lbc (nI i) n1 (nI j) sz pl = lbc (nI (i + 1)) sz' pl' ∧ D_X9_isCleared_29 R C i3 u v w i1 i2 0 lbr i n2 j col row = lbr (i + 1) col' row' := by
  intro n1
  induction n1 with
  | zero => intro n2 j row col sz pl _ _ h; omega
  | succ n1 ih =>
    intro n2 j row col sz pl hj0 hj h1 h2 hI hM
    obtain ⟨n2, rfl⟩ : ∃ n, n2 = n + 1 := ⟨n2 - 1, by omega⟩
    rw [D_X1_findLeastPlace_22_s, D_X9_isCleared_29_s, hD.1.2]
    by_cases e : C ≤ j
    · rw [if_pos (ile e (by omega)), if_pos e, s1]
      have hjC : j = C := by omega
      refine ⟨sz, pl, row, col, ?_, hjC ▸ hM, rfl, rfl⟩
      rcases hI with ⟨h1, h2, h3⟩ | h
      · refine Or.inl ⟨h1, h2, ?_⟩
        rcases h3 with h3 | h3
        · exact Or.inl h3
        · omega
      · exact Or.inr h
    · rw [if_neg (nile e (by omega)), if_neg e]
      simp only [bnd1, nm]
      rw [cget (by omega) (by omega), ds8, cpl (by omega)]
      have hx := hw (i * 5 + j) (by omega)
      have hrc := hM.1
      have hy := hw (row * 5 + col) (by omega)
      have hset : ¬ w (i * 5 + j) = 0 → Fi R C t w i j → IP R C t w (i = t ∧ j + 1 = t) (ab (w (i * 5 + j))) (nI (i * 5 + j)) i j := fun h hf => Or.inr ⟨rfl, ⟨hi.1, hi.2, hj0, by omega⟩, h, rfl, hf⟩
      by_cases e0 : w (i * 5 + j) = 0
      · rw [if_pos (lgE.mpr (ab0.mpr e0))]
        have hL : D_X9_isLess R C u v w i1 i2 i3 0 (w (i * 5 + j)) (w (row * 5 + col)) = 0 := by
          rcases rless (R := R) (C := C) (u := u) (v := v) (w := w) (i1 := i1) (i2 := i2) (i3 := i3) hx hy with ⟨h, _⟩ | ⟨_, h, _⟩
          · exact h
          · exact absurd e0 h
        rw [hL, if_pos rfl, s1]
        refine ih n2 (j + 1) row col sz pl (by omega) (by omega) (by omega) (by omega) ?_ (MI_k hM (Or.inl e0))
        rcases hI with ⟨h1, h2, h3⟩ | h
        · refine Or.inl ⟨h1, h2, ?_⟩
          rcases h3 with h3 | ⟨h3, h4⟩
          · exact Or.inl h3
          · subst h3; subst h4; exact Or.inl e0
        · exact Or.inr h
      · rw [if_neg (fun h => e0 (ab0.mp (lgE.mp h)))]
        rcases hI with ⟨h1, ⟨h2, h3⟩, h4⟩ | ⟨h1, h2, h3, h4, h6⟩
        · rw [h1, if_pos (by decide), cix, s1]
          by_cases ez : w (row * 5 + col) = 0
          · have hL : D_X9_isLess R C u v w i1 i2 i3 0 (w (i * 5 + j)) (w (row * 5 + col)) = 1 := by
              rcases rless (R := R) (C := C) (u := u) (v := v) (w := w) (i1 := i1) (i2 := i2) (i3 := i3) hx hy with ⟨_, h⟩ | ⟨h, _⟩
              · rcases h with h | h
                · exact absurd h e0
                · exact absurd ez h.1
              · exact h
            rw [hL, if_neg (show ¬ (1 : Int32) = 0 by decide)]
            exact ih n2 (j + 1) i j _ _ (by omega) (by omega) (by omega) (by omega) (hset e0 (fun a b k1 k2 k3 k4 k5 => by
              by_cases en : w (a * 5 + b) = 0
              · exact Or.inl en
              · exact absurd ez (hM.2.1 a b k1 k2 k3 k4 k5 en).1)) (MI_n hM ⟨hi.1, hi.2, hj0, by omega⟩ e0 (Or.inl ez))
          · -- the first place itself
            have hit : i = t ∧ j = t := h4.resolve_left (by rw [h2, h3] at ez; exact ez)
            have heq : i * 5 + j = row * 5 + col := by omega
            have hL : D_X9_isLess R C u v w i1 i2 i3 0 (w (i * 5 + j)) (w (row * 5 + col)) = 0 := by
              rcases rless (R := R) (C := C) (u := u) (v := v) (w := w) (i1 := i1) (i2 := i2) (i3 := i3) hx hy with ⟨h, _⟩ | ⟨_, _, h⟩
              · exact h
              · rcases h with h | h
                · exact absurd h ez
                · have h5 := h.2.2
                  rw [heq] at h5
                  exact absurd h5 (Nat.lt_irrefl _)
            rw [hL, if_pos (show (0 : Int32) = 0 from rfl)]
            exact ih n2 (j + 1) row col _ _ (by omega) (by omega) (by omega) (by omega) (Or.inr ⟨by rw [heq], hrc, ez, by rw [heq], fun a b m1 _ m3 _ m5 => by omega⟩) (MI_k hM (Or.inr ⟨ez, by rw [heq]; exact Nat.le_refl _⟩))
        · rw [h1, if_neg (ilt0 (by omega)), h4]
          rcases rless (R := R) (C := C) (u := u) (v := v) (w := w) (i1 := i1) (i2 := i2) (i3 := i3) hx hy with ⟨k1, k2⟩ | ⟨k1, _, k2⟩
          · rcases k2 with k2 | ⟨_, _, k3, k4⟩
            · exact absurd k2 e0
            · rw [k1, if_pos k3, if_pos (show (0 : Int32) = 0 from rfl), s1]
              exact ih n2 (j + 1) row col _ _ (by omega) (by omega) (by omega) (by omega) (Or.inr ⟨rfl, h2, h3, rfl, h6⟩) (MI_k hM (Or.inr ⟨h3, k4⟩))
          · rcases k2 with k2 | ⟨_, k3, k4⟩
            · exact absurd k2 h3
            · rw [k1, if_neg k3, if_neg (show ¬ (1 : Int32) = 0 by decide), cix, s1]
              exact ih n2 (j + 1) i j _ _ (by omega) (by omega) (by omega) (by omega) (hset e0 (fun a b m1 m2 m3 m4 m5 => by
                by_cases en : w (a * 5 + b) = 0
                · exact Or.inl en
                · exact Or.inr (Nat.lt_of_lt_of_le k4 (hM.2.1 a b m1 m2 m3 m4 m5 en).2))) (MI_n hM ⟨hi.1, hi.2, hj0, by omega⟩ e0 (Or.inr k4))
theorem fp_out (hD : DH r R C) (hR : R ≤ 4) (hC : C ≤ 4) (ht : t < R ∧ t < C) (hw : Nw R w) {lbr : (Nat → Int64) → (Nat → Int64) → (Nat → Int64) → Int32 → Int32 → Int32 → Int32 × (Nat → Int64) × (Nat → Int64) × (Nat → Int64) × Int32 × Int32 × Int32} : ∀ n1 n2 i row col : Nat, ∀ (sz : Int64) (pl : Int32), t ≤ i → i ≤ R → R - i < n1 → R - i < n2 → IP R C t w (i = t) sz pl row col → MIf R C t w i t row col →
    ∃ (sz' : Int64) (row' col' : Nat), IP R C t w False sz' (D_X1_findLeastPlace_7 r q (ds f w v u) (nI t) n1 (nI i) sz pl) row' col' ∧ MIf R C t w R t row' col' ∧ D_X9_isCleared_14 R C i3 t lbr u v w i1 i2 0 n2 i col row = D_X9_isCleared_14 R C i3 t lbr u v w i1 i2 0 1 R col' row' := by
  intro n1
  induction n1 with
  | zero => intro n2 i row col sz pl _ _ h; omega
  | succ n1 ih =>
    intro n2 i row col sz pl hi0 hi h1 h2 hI hM
    obtain ⟨n2, rfl⟩ : ∃ n, n2 = n + 1 := ⟨n2 - 1, by omega⟩
    rw [D_X1_findLeastPlace_7_s, hD.1.1]
    by_cases e : R ≤ i
    · have hiR : i = R := by omega
      rw [if_pos (ile e (by omega))]
      refine ⟨sz, row, col, ?_, hiR ▸ hM, ?_⟩
      · rcases hI with ⟨h1, h2, h3⟩ | h
        · refine Or.inl ⟨h1, h2, ?_⟩
          rcases h3 with h3 | h3
          · exact Or.inl h3
          · omega
        · exact Or.inr h
      · rw [hiR, D_X9_isCleared_14_s, D_X9_isCleared_14_s (nn := 0), if_pos (Nat.le_refl _), if_pos (Nat.le_refl _)]
    · rw [if_neg (nile e (by omega)), hD.1.2, gapN (by omega) (by omega), D_X9_isCleared_14_s, if_neg e]
      obtain ⟨sz', pl', row', col', g1, g2, g3, g4⟩ := fp_in (r := r) (q := q) (f := f) (v := v) (u := u) (i1 := i1) (i2 := i2) (i3 := i3) hD hR hC ht hw ⟨hi0, by omega⟩ (lbc := D_X1_findLeastPlace_7 r q (ds f w v u) (nI t) n1) (lbr := D_X9_isCleared_14 R C i3 t lbr u v w i1 i2 0 n2) (C - t + 1) (C + 1 - t + 1) t row col sz pl (Nat.le_refl _) (by omega) (by omega) (by omega) (by
        rcases hI with ⟨h1, h2, h3⟩ | h
        · exact Or.inl ⟨h1, h2, h3.elim Or.inl (fun h => Or.inr ⟨h, rfl⟩)⟩
        · exact Or.inr h) hM
      rw [g3, g4]
      exact ih n2 (i + 1) row' col' sz' pl' (by omega) (by omega) (by omega) (by omega) (by
        rcases g1 with ⟨h1, h2, h3⟩ | h
        · exact Or.inl ⟨h1, h2, h3.elim Or.inl (fun h => h.elim)⟩
        · exact Or.inr h) (MI_r g2 rfl)
/-- the least of the block from t, t -/
theorem fp_eq (hD : DH r R C) (hR : R ≤ 4) (hC : C ≤ 4) (ht : t < R ∧ t < C) (hw : Nw R w) {lbr : (Nat → Int64) → (Nat → Int64) → (Nat → Int64) → Int32 → Int32 → Int32 → Int32 × (Nat → Int64) × (Nat → Int64) × (Nat → Int64) × Int32 × Int32 × Int32} :
    (D_X1_findLeastPlace r q (ds f w v u) (nI t) = -1 ∧ (∀ a b, t ≤ a → a < R → t ≤ b → b < C → w (a * 5 + b) = 0) ∧ D_X9_isCleared_14 R C i3 t lbr u v w i1 i2 0 (R + 1 - t + 1) t t t = D_X9_isCleared_14 R C i3 t lbr u v w i1 i2 0 1 R t t ∧ w (t * 5 + t) = 0) ∨
    (∃ row col : Nat, (t ≤ row ∧ row < R ∧ t ≤ col ∧ col < C) ∧ ¬ w (row * 5 + col) = 0 ∧ (∀ a b, t ≤ a → a < R → t ≤ b → b < C → ¬ w (a * 5 + b) = 0 → na (w (row * 5 + col)) ≤ na (w (a * 5 + b))) ∧ D_X1_findLeastPlace r q (ds f w v u) (nI t) = nI (row * 5 + col) ∧ D_X9_isCleared_14 R C i3 t lbr u v w i1 i2 0 (R + 1 - t + 1) t t t = D_X9_isCleared_14 R C i3 t lbr u v w i1 i2 0 1 R col row ∧ Fi R C t w row col) := by
  unfold D_X1_findLeastPlace
  rw [hD.1.1, gapN (by omega) (by omega)]
  obtain ⟨sz', row, col, g1, g2, g3⟩ := fp_out (r := r) (q := q) (f := f) (v := v) (u := u) (i1 := i1) (i2 := i2) (i3 := i3) hD hR hC ht hw (lbr := lbr) (R - t + 1) (R + 1 - t + 1) t t t 0 (-1) (Nat.le_refl _) (by omega) (by omega) (by omega) (Or.inl ⟨rfl, ⟨rfl, rfl⟩, Or.inr rfl⟩) (MI_0 ht.1 ht.2)
  rcases g1 with ⟨h1, ⟨h2, h3⟩, h4⟩ | ⟨h1, h2, h3, _, h6⟩
  · subst h2; subst h3
    have h4 := h4.resolve_right id
    refine Or.inl ⟨h1, fun a b ha ha2 hb hb2 => ?_, g3, h4⟩
    by_cases e : w (a * 5 + b) = 0
    · exact e
    · exact absurd h4 (g2.2.1 a b ha ha2 hb hb2 (Or.inl ha2) e).1
  · exact Or.inr ⟨row, col, h2, h3, fun a b ha ha2 hb hb2 hn => (g2.2.1 a b ha ha2 hb hb2 (Or.inl ha2) hn).2, h1, g3, h6⟩
end PDB
end
section
-- 56.pdic
section PDC
variable {r q : Nat → Int32} {f : Nat → Nat → Int64} {w v u : Nat → Int64} {R C a b t m c0 : Nat} {x : Int64} {i1 i2 i3 : Int32}
theorem nI_div5 {k : Nat} (h : k < 20) : nI k / 5 = nI (k / 5) := (by decide +kernel : ∀ k, k < 20 → nI k / 5 = nI (k / 5)) k h
theorem Sd_xr {i j : Nat} (hi : i < R) (hj : j < R) (hF : Sd R C w v u) : Sd R C (xr C i j w) (xr R i j v) u := ⟨⟨ng_xr hi hj hF.1.1, ng_xr hi hj hF.1.2.1, hF.1.2.2⟩, zo_xr hi hj hF.2.1, zo_xr hi hj hF.2.2.1, hF.2.2.2⟩
theorem Sd_xc {i j : Nat} (hC : C ≤ 4) (hi : i < C) (hj : j < C) (hF : Sd R C w v u) : Sd R C (xc R i j w) v (xc C i j u) := ⟨⟨ngw_xc (by omega) (by omega) hF.1.1, hF.1.2.1, ngw_xc (by omega) (by omega) hF.1.2.2⟩, zo_xc hi hj hF.2.1, hF.2.2.1, zo_xc hi hj hF.2.2.2⟩
theorem Sd_tr {i : Nat} (hi : i < R) (hF : Sd R C w v u) : Sd R C (tr C i w) (tr R i v) u := ⟨⟨ng_tr hF.1.1, ng_tr hF.1.2.1, hF.1.2.2⟩, zo_tr hi hF.2.1, zo_tr hi hF.2.2.1, hF.2.2.2⟩
/-- what stands where, once the least has come to t, t -/
def Bt (R C t m c0 : Nat) (w w1 : Nat → Int64) : Prop := 0 < (w1 (t * 5 + t)).toInt ∧ na (w1 (t * 5 + t)) = na (w (m * 5 + c0)) ∧
  ∃ s : Int, (s = 1 ∨ s = -1) ∧ ∀ a b, t ≤ a → a < R → t ≤ b → b < C → (w1 (a * 5 + b)).toInt = (if a = t then s else 1) * (w ((if a = t then m else if a = m then t else a) * 5 + (if b = t then c0 else if b = c0 then t else b))).toInt
/-- the diagonal ahead of t stays -/
def Fj (t : Nat) (w w1 : Nat → Int64) : Prop := ∀ j, j < t → w1 (j * 5 + j) = w (j * 5 + j)
theorem Fj_xr {i j : Nat} (hi : t ≤ i) (hj : t ≤ j) (ht : t ≤ 4) : Fj t w (xr C i j w) := by
  intro k hk
  unfold xr
  rw [if_neg (by omega), if_neg (by omega)]
theorem Fj_xc {i j : Nat} (hi : t ≤ i) (hj : t ≤ j) (ht : t ≤ 4) : Fj t w (xc R i j w) := by
  intro k hk
  unfold xc
  rw [if_neg (by omega), if_neg (by omega)]
theorem Fj_tr (ht : t ≤ 4) : Fj t w (tr C t w) := by
  intro k hk
  unfold tr
  rw [if_neg (by omega)]
theorem Fj_t {w1 w2 : Nat → Int64} (h1 : Fj t w w1) (h2 : Fj t w1 w2) : Fj t w w2 := fun j hj => (h2 j hj).trans (h1 j hj)
theorem dj50 (hD : DH r R C) (hR : R ≤ 4) (hC : C ≤ 4) (ht : t < R ∧ t < C) : D_X1_bring_j50 r q (nI t) (ds f w v u) = if 0 ≤ lg_cmp (w (t * 5 + t)) 0 then ds f w v u else ds f (tr C t w) (tr R t v) u := by
  obtain ⟨⟨d1, d2⟩, ⟨d3, d4⟩, d5, d6⟩ := hD
  unfold D_X1_bring_j50
  simp only [bnd1]
  rw [cget (by omega) (by omega), ds8, cpl (by omega), ctuR d2 (by omega) (by omega), ds8, cp_tr (by omega), ds_s8, ctuR d4 (by omega) (by omega), ds9, cp_tr (by omega), ds_s9]
theorem dbr_eq (hD : DH r R C) (hR : R ≤ 4) (hC : C ≤ 4) (hm : t ≤ m ∧ m < R ∧ t ≤ c0 ∧ c0 < C) (hF : Sd R C w v u) (hnz : ¬ w (m * 5 + c0) = 0) :
    ∃ (w1 v1 u1 : Nat → Int64) (j1 j2 : Int32), D_X1_bring r q (ds f w v u) (nI m) (nI c0) (nI t) = ds f w1 v1 u1 ∧ D_X9_bring R C u v w i1 i2 i3 0 t m c0 = (u1, v1, w1, j1, j2) ∧ Sd R C w1 v1 u1 ∧ Bt R C t m c0 w w1 ∧ Fj t w w1 := by
  have hD0 := hD
  obtain ⟨⟨d1, d2⟩, ⟨d3, d4⟩, d5, d6⟩ := hD0
  have ht : t < R ∧ t < C := ⟨by omega, by omega⟩
  -- the rows
  have hA : ∃ (wa va : Nat → Int64) (ja : Int32), D_X1_bring r q (ds f w v u) (nI m) (nI c0) (nI t) = D_X1_bring_j25 r q (nI c0) (nI t) (ds f wa va u) ∧ D_X9_bring R C u v w i1 i2 i3 0 t m c0 = D_X9_bring_j32 R C u i2 t c0 va wa ja ∧ Sd R C wa va u ∧ Fj t w wa ∧ ∀ a b, t ≤ a → a < R → b < C → wa (a * 5 + b) = w ((if a = t then m else if a = m then t else a) * 5 + b) := by
    unfold D_X1_bring D_X9_bring
    by_cases e : m = t
    · rw [if_pos (by rw [e]), if_pos e]
      refine ⟨w, v, i1, rfl, rfl, hF, fun j _ => rfl, fun a b h1 h2 h3 => ?_⟩
      by_cases e1 : a = t
      · rw [if_pos e1, e1, e]
      · rw [if_neg e1, if_neg (by omega)]
    · rw [if_neg (by rw [neqP (by omega) (by omega)]; exact e), if_neg e]
      simp only [bnd1]
      rw [cexR d2 (by omega) (by omega) (by omega), ds8, cp_xr (by omega) (by omega), ds_s8, cexR d4 (by omega) (by omega) (by omega), ds9, cp_xr (by omega) (by omega), ds_s9]
      refine ⟨xr C m t w, xr R m t v, -i1, rfl, rfl, Sd_xr hm.2.1 ht.1 hF, Fj_xr hm.1 (Nat.le_refl _) (by omega), fun a b h1 h2 h3 => ?_⟩
      unfold xr
      by_cases e1 : a = m
      · rw [if_pos (by omega), if_neg (by omega), if_pos e1]; congr 1; omega
      · by_cases e2 : a = t
        · rw [if_neg (by omega), if_pos (by omega), if_pos e2]; congr 1; omega
        · rw [if_neg (by omega), if_neg (by omega), if_neg e2, if_neg e1]
  obtain ⟨wa, va, ja, a1, a2, a3, a5, a4⟩ := hA
  -- the columns
  have hB : ∃ (wb ub : Nat → Int64) (jb : Int32), D_X1_bring_j25 r q (nI c0) (nI t) (ds f wa va u) = D_X1_bring_j50 r q (nI t) (ds f wb va ub) ∧ D_X9_bring_j32 R C u i2 t c0 va wa ja = D_X9_bring_j64 R C t va ja ub wb jb ∧ Sd R C wb va ub ∧ Fj t w wb ∧ ∀ a b, a < R → t ≤ b → b < C → wb (a * 5 + b) = wa (a * 5 + (if b = t then c0 else if b = c0 then t else b)) := by
    rw [D_X1_bring_j25_s, D_X9_bring_j32_s]
    by_cases e : c0 = t
    · rw [if_pos (by rw [e]), if_pos e]
      refine ⟨wa, u, i2, rfl, rfl, a3, a5, fun a b h1 h2 h3 => ?_⟩
      by_cases e1 : b = t
      · rw [if_pos e1, e1, e]
      · rw [if_neg e1, if_neg (by omega)]
    · rw [if_neg (by rw [neqP (by omega) (by omega)]; exact e), if_neg e]
      simp only [bnd1]
      rw [cexC (by decide) d1 hR (by omega) (by omega), ds8, cp_xc (by omega) (by omega) hR, ds_s8, cexC (by decide) d5 hC (by omega) (by omega), ds10, cp_xc (by omega) (by omega) hC, ds_s10]
      refine ⟨xc R c0 t wa, xc C c0 t u, -i2, rfl, rfl, Sd_xc hC hm.2.2.2 ht.2 a3, Fj_t a5 (Fj_xc hm.2.2.1 (Nat.le_refl _) (by omega)), fun a b h1 h2 h3 => ?_⟩
      unfold xc
      by_cases e1 : b = c0
      · rw [if_pos (by omega), if_neg (by omega), if_pos e1]; congr 1; omega
      · by_cases e2 : b = t
        · rw [if_neg (by omega), if_pos (by omega), if_pos e2]; congr 1; omega
        · rw [if_neg (by omega), if_neg (by omega), if_neg e2, if_neg e1]
  obtain ⟨wb, ub, jb, b1, b2, b3, b5, b4⟩ := hB
  have hp : ∀ a b, t ≤ a → a < R → t ≤ b → b < C → wb (a * 5 + b) = w ((if a = t then m else if a = m then t else a) * 5 + (if b = t then c0 else if b = c0 then t else b)) := by
    intro a b h1 h2 h3 h4
    rw [b4 a b h2 h3 h4]
    exact a4 a _ h1 h2 (by (repeat' split) <;> omega)
  have hpt : wb (t * 5 + t) = w (m * 5 + c0) := by
    rw [hp t t (Nat.le_refl _) ht.1 (Nat.le_refl _) ht.2, if_pos rfl, if_pos rfl]
  rw [a1, a2, b1, b2, dj50 hD hR hC ht, D_X9_bring_j64_s]
  by_cases e : 0 ≤ lg_cmp (wb (t * 5 + t)) 0
  · rw [if_pos e, if_pos e]
    refine ⟨wb, va, ub, ja, jb, rfl, rfl, b3, ⟨pos_of e (by rw [hpt]; exact hnz), by rw [hpt], 1, Or.inl rfl, fun a b h1 h2 h3 h4 => ?_⟩, b5⟩
    rw [hp a b h1 h2 h3 h4, ite_self, Int.one_mul]
  · rw [if_neg e, if_neg e]
    have hb0 := b3.1.1 (t * 5 + t) (by omega)
    refine ⟨tr C t wb, tr R t va, ub, -ja, jb, rfl, rfl, Sd_tr ht.1 b3, ⟨?_, ?_, -1, Or.inr rfl, fun a b h1 h2 h3 h4 => ?_⟩, Fj_t b5 (Fj_tr (by omega))⟩
    · rw [tr_r ht.2 (by omega)]; exact pos_neg hb0 e
    · rw [tr_r ht.2 (by omega), na_neg hb0, hpt]
    · rw [← hp a b h1 h2 h3 h4]
      unfold tr
      by_cases e1 : a = t
      · rw [if_pos (by omega), if_pos e1, neg_int (b3.1.1 _ (by omega))]; omega
      · rw [if_neg (by omega), if_neg e1, Int.one_mul]
end PDC
end
section
-- 57.pdid
section PDD
variable {r q : Nat → Int32} {f : Nat → Nat → Int64} {w v u : Nat → Int64} {R C a b t m c0 : Nat} {x : Int64} {i1 i2 i3 : Int32} {p0 yy : Int32}
abbrev Lb : Type := Int32 → (Nat → Int32) → (Nat → Nat → Int64) → Int32 × (Nat → Int32) × (Nat → Nat → Int64)
variable {lbc : Lb}
theorem g158 (h : ¬ q 1 = 0) : D_X1_clearCross_j158 r p0 lbc yy q f = lbc (yy + 1) q f := by rw [D_X1_clearCross_j158_s, if_neg h]
theorem g158b (h : ¬ q 1 = 0) : D_X1_clearCross_j158_1 r p0 lbc yy q f = lbc (yy + 1) q f := by rw [D_X1_clearCross_j158_1_s, if_neg h]
theorem g103 (h : ¬ q 1 = 0) {n : Nat} {z : Int32} : D_X1_clearCross_103 r p0 lbc yy (n + 1) z q f = lbc (yy + 1) q f := by
  rw [D_X1_clearCross_103_s]
  split
  · exact g158 h
  · first | exact g158 h | (rw [if_neg h]; exact g158 h)
theorem g103b (h : ¬ q 1 = 0) {n : Nat} {z : Int32} : D_X1_clearCross_103_1 r p0 lbc yy (n + 1) z q f = lbc (yy + 1) q f := by
  rw [D_X1_clearCross_103_1_s]
  split
  · exact g158b h
  · first | exact g158b h | (rw [if_neg h]; exact g158b h)
theorem g43 (h : ¬ q 1 = 0) {n : Nat} {z : Int32} : D_X1_clearCross_43 r p0 lbc yy (n + 1) z q f = lbc (yy + 1) q f := by
  rw [D_X1_clearCross_43_s]
  split
  · exact g103 h
  · first | exact g103b h | (rw [if_neg h]; exact g103b h)
theorem r80g {n y : Nat} : D_X9_takeOff_80 R C i1 i2 i3 t v (n + 1) y u w 1 = (u, v, w, 1) := by
  rw [D_X9_takeOff_80_s]
  split
  · rfl
  · rw [if_neg (by decide)]
theorem r4g {n y : Nat} : D_X9_takeOff_4 R C u i1 i2 i3 t (n + 1) y v w 1 = (u, v, w, 1) := by
  rw [D_X9_takeOff_4_s]
  split
  · exact r80g
  · rw [if_neg (by decide)]; exact r80g
theorem fdv_mad {y p z : Int64} (hy : ng y) (hx : ng x) (hz : ng z) (hp : 0 < p.toInt) : (z + -(fdv x p) * y).toInt = z.toInt - (fdv x p).toInt * y.toInt := by
  have h1 := fdv_b hx hp
  have h2 := neg_b (t := fdv x p) (by omega) (by omega)
  rw [(mad_int (t := -(fdv x p)) hz hy (by omega) (by omega)).1, h2, Int.neg_mul]
  omega
/-- the rows below t -/
theorem LR (hD : DH r R C) (hR : R ≤ 4) (hC : C ≤ 4) (ht : t < R ∧ t < C) : ∀ n1 n2 y : Nat, ∀ (w v : Nat → Int64) (q : Nat → Int32), t + 1 ≤ y → y ≤ R → R - y < n1 → R - y < n2 → q 1 = 0 → Sd R C w v u → 0 < (w (t * 5 + t)).toInt →
    (∃ (w1 v1 w2 v2 u2 : Nat → Int64), D_X1_clearCross_43 r (nI t) lbc yy n1 (nI y) q (ds f w v u) = lbc (yy + 1) (va_up q 1 1) (ds f w1 v1 u) ∧ D_X9_takeOff_4 R C u i1 i2 i3 t n2 y v w 0 = (u2, v2, w2, 1)) ∨
    (∃ (w1 v1 : Nat → Int64) (Q : Nat → Int), D_X1_clearCross_43 r (nI t) lbc yy n1 (nI y) q (ds f w v u) = D_X1_clearCross_103 r (nI t) lbc yy (C - (t + 1) + 1) (nI (t + 1)) q (ds f w1 v1 u) ∧ D_X9_takeOff_4 R C u i1 i2 i3 t n2 y v w 0 = D_X9_takeOff_80 R C i1 i2 i3 t v1 (C + 1 - (t + 1) + 1) (t + 1) u w1 0 ∧ Sd R C w1 v1 u ∧ (∀ a b, a < y → b < C → w1 (a * 5 + b) = w (a * 5 + b)) ∧ (∀ a b, y ≤ a → a < R → b < C → (w1 (a * 5 + b)).toInt = (w (a * 5 + b)).toInt - Q a * (w (t * 5 + b)).toInt) ∧ ∀ a, y ≤ a → a < R → 0 ≤ (w1 (a * 5 + t)).toInt ∧ (w1 (a * 5 + t)).toInt < (w (t * 5 + t)).toInt) := by
  intro n1
  induction n1 with
  | zero => intro n2 y w v q _ _ h; omega
  | succ n1 ih =>
    intro n2 y w v q hy0 hy h1 h2 hq hF hp
    obtain ⟨n2, rfl⟩ : ∃ n, n2 = n + 1 := ⟨n2 - 1, by omega⟩
    by_cases e : R ≤ y
    · rw [D_X1_clearCross_43_s, D_X9_takeOff_4_s, hD.1.1, if_pos (ile e (by omega)), if_pos e, hD.1.2, s1, gapN (by omega) (by omega), D_X9_takeOff_j76_s]
      exact Or.inr ⟨w, v, fun _ => 0, rfl, rfl, hF, fun a b _ _ => rfl, fun a b h1 h2 => absurd h2 (by omega), fun a h1 h2 => absurd h2 (by omega)⟩
    · have hx := hF.1.1 (y * 5 + t) (by omega)
      obtain ⟨G, hG, g1, g2, g3⟩ := addR_eq (r := r) (q := q) (f := f) (a := y) (b := t) (x := -(fdv (w (y * 5 + t)) (w (t * 5 + t)))) (s1' := i1) (s2' := i2) (i3 := i3) hD hR hC (by omega) ht.1 (by omega) hF (tb_fdv hx hp)
      rw [D_X1_clearCross_43_s, D_X9_takeOff_4_s, hD.1.1, if_neg (nile e (by omega)), if_pos hq, if_neg e, if_pos rfl]
      simp only [bnd1]
      rw [cget (by omega) (by omega), cget (by omega) (by omega), ds8, cpl (by omega), cpl (by omega), cdd (nzp hp), g1, g2]
      simp only [bnd2]
      rcases hG with rfl | rfl
      · rw [vq1 hq, s1]
        have hat : ∀ b, b < C → (ar C y t (-(fdv (w (y * 5 + t)) (w (t * 5 + t)))) w (y * 5 + b)).toInt = (w (y * 5 + b)).toInt - (fdv (w (y * 5 + t)) (w (t * 5 + t))).toInt * (w (t * 5 + b)).toInt := fun b hb => by
          rw [ar_at hb (by omega)]
          exact fdv_mad (hF.1.1 _ (by omega)) hx (hF.1.1 _ (by omega)) hp
        have hoff : ∀ a b, b < C → a ≠ y → ar C y t (-(fdv (w (y * 5 + t)) (w (t * 5 + t)))) w (a * 5 + b) = w (a * 5 + b) := fun a b hb ha => ar_off (by omega) ha
        have hrm : ar C y t (-(fdv (w (y * 5 + t)) (w (t * 5 + t)))) w (y * 5 + t) = rmf (w (y * 5 + t)) (w (t * 5 + t)) := by rw [ar_at ht.2 (by omega)]; rfl
        have htt : ar C y t (-(fdv (w (y * 5 + t)) (w (t * 5 + t)))) w (t * 5 + t) = w (t * 5 + t) := hoff t t ht.2 (by omega)
        rcases ih n2 (y + 1) _ _ q (by omega) (by omega) (by omega) (by omega) hq (g3 rfl) (by rw [htt]; exact hp) with h | ⟨w3, v3, Q, k1, k2, k3, k4, k5, k6⟩
        · exact Or.inl h
        · refine Or.inr ⟨w3, v3, fun a => if a = y then (fdv (w (y * 5 + t)) (w (t * 5 + t))).toInt else Q a, k1, k2, k3, fun a b ha hb => ?_, fun a b ha hb hc => ?_, fun a ha hb => ?_⟩
          · rw [k4 a b (by omega) hb, hoff a b hb (by omega)]
          · show (w3 (a * 5 + b)).toInt = (w (a * 5 + b)).toInt - (if a = y then (fdv (w (y * 5 + t)) (w (t * 5 + t))).toInt else Q a) * (w (t * 5 + b)).toInt
            by_cases ea : a = y
            · rw [if_pos ea, ea, k4 y b (by omega) hc, hat b hc]
            · rw [if_neg ea, k5 a b (by omega) hb hc, hoff a b hc ea, hoff t b hc (by omega)]
          · by_cases ea : a = y
            · rw [ea, k4 y t (by omega) ht.2, hrm]
              exact rmf_int hp
            · have h5 := k6 a (by omega) hb
              rw [htt] at h5
              exact h5
      · refine Or.inl ?_
        obtain ⟨n1, rfl⟩ : ∃ n, n1 = n + 1 := ⟨n1 - 1, by omega⟩
        obtain ⟨n2, rfl⟩ : ∃ n, n2 = n + 1 := ⟨n2 - 1, by omega⟩
        rw [g43 (by rw [vu_self]; decide), r4g]
        exact ⟨_, _, _, _, _, rfl, rfl⟩
/-- the columns behind t -/
theorem LC (hD : DH r R C) (hR : R ≤ 4) (hC : C ≤ 4) (ht : t < R ∧ t < C) : ∀ n1 n2 y : Nat, ∀ (w u : Nat → Int64) (q : Nat → Int32), t + 1 ≤ y → y ≤ C → C - y < n1 → C - y < n2 → q 1 = 0 → Sd R C w v u → 0 < (w (t * 5 + t)).toInt →
    (∃ (w1 u1 w2 v2 u2 : Nat → Int64), D_X1_clearCross_103 r (nI t) lbc yy n1 (nI y) q (ds f w v u) = lbc (yy + 1) (va_up q 1 1) (ds f w1 v u1) ∧ D_X9_takeOff_80 R C i1 i2 i3 t v n2 y u w 0 = (u2, v2, w2, 1)) ∨
    (∃ (w1 u1 : Nat → Int64) (K : Nat → Int), D_X1_clearCross_103 r (nI t) lbc yy n1 (nI y) q (ds f w v u) = D_X1_clearCross_j158 r (nI t) lbc yy q (ds f w1 v u1) ∧ D_X9_takeOff_80 R C i1 i2 i3 t v n2 y u w 0 = (u1, v, w1, 0) ∧ Sd R C w1 v u1 ∧ (∀ a b, a < R → b < y → w1 (a * 5 + b) = w (a * 5 + b)) ∧ (∀ a b, a < R → y ≤ b → b < C → (w1 (a * 5 + b)).toInt = (w (a * 5 + b)).toInt - K b * (w (a * 5 + t)).toInt) ∧ ∀ b, y ≤ b → b < C → 0 ≤ (w1 (t * 5 + b)).toInt ∧ (w1 (t * 5 + b)).toInt < (w (t * 5 + t)).toInt) := by
  intro n1
  induction n1 with
  | zero => intro n2 y w u q _ _ h; omega
  | succ n1 ih =>
    intro n2 y w u q hy0 hy h1 h2 hq hF hp
    obtain ⟨n2, rfl⟩ : ∃ n, n2 = n + 1 := ⟨n2 - 1, by omega⟩
    by_cases e : C ≤ y
    · rw [D_X1_clearCross_103_s, D_X9_takeOff_80_s, hD.1.2, if_pos (ile e (by omega)), if_pos e]
      exact Or.inr ⟨w, u, fun _ => 0, rfl, rfl, hF, fun a b _ _ => rfl, fun a b _ h1 h2 => absurd h2 (by omega), fun a h1 h2 => absurd h2 (by omega)⟩
    · have hx := hF.1.1 (t * 5 + y) (by omega)
      obtain ⟨G, hG, g1, g2, g3⟩ := addC_eq (r := r) (q := q) (f := f) (a := y) (b := t) (x := -(fdv (w (t * 5 + y)) (w (t * 5 + t)))) (s1' := i1) (s2' := i2) (i3 := i3) hD hR hC (by omega) ht.2 (by omega) hF (tb_fdv hx hp)
      rw [D_X1_clearCross_103_s, D_X9_takeOff_80_s, hD.1.2, if_neg (nile e (by omega)), if_pos hq, if_neg e, if_pos rfl]
      simp only [bnd1]
      rw [cget (by omega) (by omega), cget (by omega) (by omega), ds8, cpl (by omega), cpl (by omega), cdd (nzp hp), g1, g2]
      simp only [bnd2]
      have hac : ∀ a b, a < R → b < 5 → ac R y t (-(fdv (w (t * 5 + y)) (w (t * 5 + t)))) w (a * 5 + b) = if b = y then w (a * 5 + y) + -(fdv (w (t * 5 + y)) (w (t * 5 + t))) * w (a * 5 + t) else w (a * 5 + b) := fun a b ha hb => by
        unfold ac
        by_cases e : b = y
        · rw [if_pos (by omega), if_pos e, e, show (a * 5 + y) / 5 = a by omega]
        · rw [if_neg (by omega), if_neg e]
      rcases hG with rfl | rfl
      · rw [vq1 hq, s1]
        have hat : ∀ a, a < R → (ac R y t (-(fdv (w (t * 5 + y)) (w (t * 5 + t)))) w (a * 5 + y)).toInt = (w (a * 5 + y)).toInt - (fdv (w (t * 5 + y)) (w (t * 5 + t))).toInt * (w (a * 5 + t)).toInt := fun a ha => by
          rw [hac a y ha (by omega), if_pos rfl]
          exact fdv_mad (hF.1.1 _ (by omega)) hx (hF.1.1 _ (by omega)) hp
        have hoff : ∀ a b, a < R → b < C → b ≠ y → ac R y t (-(fdv (w (t * 5 + y)) (w (t * 5 + t)))) w (a * 5 + b) = w (a * 5 + b) := fun a b ha hb he => by rw [hac a b ha (by omega), if_neg he]
        have hrm : ac R y t (-(fdv (w (t * 5 + y)) (w (t * 5 + t)))) w (t * 5 + y) = rmf (w (t * 5 + y)) (w (t * 5 + t)) := by rw [hac t y ht.1 (by omega), if_pos rfl]; rfl
        have htt : ac R y t (-(fdv (w (t * 5 + y)) (w (t * 5 + t)))) w (t * 5 + t) = w (t * 5 + t) := hoff t t ht.1 ht.2 (by omega)
        rcases ih n2 (y + 1) _ _ q (by omega) (by omega) (by omega) (by omega) hq (g3 rfl) (by rw [htt]; exact hp) with h | ⟨w3, u3, K, k1, k2, k3, k4, k5, k6⟩
        · exact Or.inl h
        · refine Or.inr ⟨w3, u3, fun b => if b = y then (fdv (w (t * 5 + y)) (w (t * 5 + t))).toInt else K b, k1, k2, k3, fun a b ha hb => ?_, fun a b ha hb hc => ?_, fun b ha hb => ?_⟩
          · rw [k4 a b ha (by omega), hoff a b ha (by omega) (by omega)]
          · show (w3 (a * 5 + b)).toInt = (w (a * 5 + b)).toInt - (if b = y then (fdv (w (t * 5 + y)) (w (t * 5 + t))).toInt else K b) * (w (a * 5 + t)).toInt
            by_cases ea : b = y
            · rw [if_pos ea, ea, k4 a y ha (by omega), hat a ha]
            · rw [if_neg ea, k5 a b ha (by omega) hc, hoff a b ha hc ea, hoff a t ha ht.2 (by omega)]
          · by_cases ea : b = y
            · rw [ea, k4 t y ht.1 (by omega), hrm]
              exact rmf_int hp
            · have h5 := k6 b (by omega) hb
              rw [htt] at h5
              exact h5
      · refine Or.inl ?_
        obtain ⟨n1, rfl⟩ : ∃ n, n1 = n + 1 := ⟨n1 - 1, by omega⟩
        obtain ⟨n2, rfl⟩ : ∃ n, n2 = n + 1 := ⟨n2 - 1, by omega⟩
        rw [g103 (by rw [vu_self]; decide), r80g]
        exact ⟨_, _, _, _, _, rfl, rfl⟩
end PDD
end
section
-- 58.pdie
/-- a pass, in whole numbers: the least comes to t, t; lines are taken off; a line may be added at its end -/
def Ps (R C t : Nat) (w w3 : Nat → Int64) : Prop := ∃ (m c0 : Nat) (s : Int) (Q K : Nat → Int) (B W1 W2 : Nat → Nat → Int), (t ≤ m ∧ m < R ∧ t ≤ c0 ∧ c0 < C) ∧ (s = 1 ∨ s = -1) ∧ ¬ w (m * 5 + c0) = 0 ∧ (∀ a b, t ≤ a → a < R → t ≤ b → b < C → ¬ w (a * 5 + b) = 0 → na (w (m * 5 + c0)) ≤ na (w (a * 5 + b))) ∧ Fi R C t w m c0 ∧
  (∀ a b, t ≤ a → a < R → t ≤ b → b < C → B a b = (if a = t then s else 1) * (w ((if a = t then m else if a = m then t else a) * 5 + (if b = t then c0 else if b = c0 then t else b))).toInt) ∧ 0 < B t t ∧
  (∀ b, t ≤ b → b < C → W1 t b = B t b) ∧ (∀ a b, t < a → a < R → t ≤ b → b < C → W1 a b = B a b - Q a * B t b) ∧ (∀ a, t < a → a < R → 0 ≤ W1 a t ∧ W1 a t < B t t) ∧
  (∀ a, t ≤ a → a < R → W2 a t = W1 a t) ∧ (∀ a b, t ≤ a → a < R → t < b → b < C → W2 a b = W1 a b - K b * W1 a t) ∧ (∀ b, t < b → b < C → 0 ≤ W2 t b ∧ W2 t b < B t t) ∧
  (((∀ a b, t ≤ a → a < R → t ≤ b → b < C → (w3 (a * 5 + b)).toInt = W2 a b) ∧ ((∃ a, t < a ∧ a < R ∧ W2 a t ≠ 0) ∨ ∃ b, t < b ∧ b < C ∧ W2 t b ≠ 0)) ∨
   ((∀ a, t < a → a < R → W2 a t = 0) ∧ (∀ b, t < b → b < C → W2 t b = 0) ∧ ∃ i j, t < i ∧ i < R ∧ t < j ∧ j < C ∧ W2 i j % W2 t t ≠ 0 ∧ ∀ a b, t ≤ a → a < R → t ≤ b → b < C → (w3 (a * 5 + b)).toInt = if a = t then W2 t b + W2 i b else W2 a b))
/-- both sides have ended: great both, or the same -/
def FdD (R C t : Nat) (w : Nat → Int64) (q : Nat → Int32) (f : Nat → Nat → Int64) (CL : Int32 × (Nat → Int32) × (Nat → Nat → Int64)) (RF : Int32 × (Nat → Int64) × (Nat → Int64) × (Nat → Int64) × Int32 × Int32 × Int32) : Prop :=
  ∃ (G xc xr j1 j2 : Int32) (w1 v1 u1 w2 v2 u2 : Nat → Int64), (G = 0 ∨ G = 1) ∧ CL = (xc, va_up q 1 G, ds f w1 v1 u1) ∧ RF = (xr, u2, v2, w2, j1, j2, G) ∧ (G = 1 → xr = 0) ∧ (G = 0 → xc = xr ∧ (xr = 0 ∨ xr = 1) ∧ w2 = w1 ∧ v2 = v1 ∧ u2 = u1 ∧ Sd R C w1 v1 u1 ∧ Fj t w w1 ∧ (xr = 1 → ¬ w1 (t * 5 + t) = 0) ∧ (xr = 0 → ∀ a b, t ≤ a → a < R → t ≤ b → b < C → w1 (a * 5 + b) = 0))
section PDE
variable {r q : Nat → Int32} {f : Nat → Nat → Int64} {w v u : Nat → Int64} {R C a b t m c0 : Nat} {x : Int64} {i1 i2 i3 : Int32}
theorem cc41 (hD : DH r R C) (hR : R ≤ 4) (hC : C ≤ 4) (ht : t < R ∧ t < C) : ∀ n1 n2 y : Nat, y ≤ C → C - y < n1 → C - y < n2 → ((∀ b, y ≤ b → b < C → w (t * 5 + b) = 0) ∧ D_X1_isCrossClear_41 r q (ds f w v u) (nI t) n1 (nI y) = 1 ∧ D_X9_isAlone_41 C w t n2 y = 1) ∨ ((∃ b, y ≤ b ∧ b < C ∧ ¬ w (t * 5 + b) = 0) ∧ D_X1_isCrossClear_41 r q (ds f w v u) (nI t) n1 (nI y) = 0 ∧ D_X9_isAlone_41 C w t n2 y = 0) := by
  intro n1
  induction n1 with
  | zero => intro n2 y _ h; omega
  | succ n1 ih =>
    intro n2 y hy h1 h2
    obtain ⟨n2, rfl⟩ : ∃ n, n2 = n + 1 := ⟨n2 - 1, by omega⟩
    rw [D_X1_isCrossClear_41_s, D_X9_isAlone_41_s, hD.1.2]
    by_cases e : C ≤ y
    · rw [if_pos (ile e (by omega)), if_pos e]
      exact Or.inl ⟨fun b h1 h2 => absurd h2 (by omega), rfl, rfl⟩
    · rw [if_neg (nile e (by omega)), if_neg e]
      simp only [bnd1]
      rw [cget (by omega) (by omega), ds8, cpl (by omega)]
      by_cases e0 : w (t * 5 + y) = 0
      · rw [if_pos (lgE.mpr e0), if_pos (lgE.mpr e0), s1]
        rcases ih n2 (y + 1) (by omega) (by omega) (by omega) with ⟨k1, k2⟩ | ⟨⟨b, k1, k2, k3⟩, k4⟩
        · refine Or.inl ⟨fun b h3 h4 => ?_, k2⟩
          by_cases e1 : b = y
          · rw [e1]; exact e0
          · exact k1 b (by omega) h4
        · exact Or.inr ⟨⟨b, by omega, k2, k3⟩, k4⟩
      · rw [if_neg (fun h => e0 (lgE.mp h)), if_neg (fun h => e0 (lgE.mp h))]
        exact Or.inr ⟨⟨y, Nat.le_refl _, by omega, e0⟩, rfl, rfl⟩
theorem cc4 (hD : DH r R C) (hR : R ≤ 4) (hC : C ≤ 4) (ht : t < R ∧ t < C) : ∀ n1 n2 y : Nat, y ≤ R → R - y < n1 → R - y < n2 → (((∀ a, y ≤ a → a < R → w (a * 5 + t) = 0) ∧ ∀ b, t + 1 ≤ b → b < C → w (t * 5 + b) = 0) ∧ D_X1_isCrossClear_4 r q (ds f w v u) (nI t) n1 (nI y) = 1 ∧ D_X9_isAlone_4 R C w t n2 y = 1) ∨ (((∃ a, y ≤ a ∧ a < R ∧ ¬ w (a * 5 + t) = 0) ∨ ∃ b, t + 1 ≤ b ∧ b < C ∧ ¬ w (t * 5 + b) = 0) ∧ D_X1_isCrossClear_4 r q (ds f w v u) (nI t) n1 (nI y) = 0 ∧ D_X9_isAlone_4 R C w t n2 y = 0) := by
  intro n1
  induction n1 with
  | zero => intro n2 y _ h; omega
  | succ n1 ih =>
    intro n2 y hy h1 h2
    obtain ⟨n2, rfl⟩ : ∃ n, n2 = n + 1 := ⟨n2 - 1, by omega⟩
    rw [D_X1_isCrossClear_4_s, D_X9_isAlone_4_s, hD.1.1]
    by_cases e : R ≤ y
    · rw [if_pos (ile e (by omega)), if_pos e, hD.1.2, s1, gapN (by omega) (by omega)]
      rcases cc41 (r := r) (q := q) (f := f) (w := w) (v := v) (u := u) hD hR hC ht (C - (t + 1) + 1) (C + 1 - (t + 1) + 1) (t + 1) (by omega) (by omega) (by omega) with ⟨k1, k2⟩ | ⟨k1, k2⟩
      · exact Or.inl ⟨⟨fun a h1 h2 => absurd h2 (by omega), k1⟩, k2⟩
      · exact Or.inr ⟨Or.inr k1, k2⟩
    · rw [if_neg (nile e (by omega)), if_neg e]
      simp only [bnd1]
      rw [cget (by omega) (by omega), ds8, cpl (by omega)]
      by_cases e0 : w (y * 5 + t) = 0
      · rw [if_pos (lgE.mpr e0), if_pos (lgE.mpr e0), s1]
        rcases ih n2 (y + 1) (by omega) (by omega) (by omega) with ⟨⟨k1, k2⟩, k3⟩ | ⟨k1, k4⟩
        · refine Or.inl ⟨⟨fun b h3 h4 => ?_, k2⟩, k3⟩
          by_cases e1 : b = y
          · rw [e1]; exact e0
          · exact k1 b (by omega) h4
        · refine Or.inr ⟨?_, k4⟩
          rcases k1 with ⟨b, k1, k2, k3⟩ | k1
          · exact Or.inl ⟨b, by omega, k2, k3⟩
          · exact Or.inr k1
      · rw [if_neg (fun h => e0 (lgE.mp h)), if_neg (fun h => e0 (lgE.mp h))]
        exact Or.inr ⟨Or.inl ⟨y, Nat.le_refl _, by omega, e0⟩, rfl, rfl⟩
/-- the cross: clear on both sides, or on none -/
theorem cc_eq (hD : DH r R C) (hR : R ≤ 4) (hC : C ≤ 4) (ht : t < R ∧ t < C) : (((∀ a, t + 1 ≤ a → a < R → w (a * 5 + t) = 0) ∧ ∀ b, t + 1 ≤ b → b < C → w (t * 5 + b) = 0) ∧ D_X1_isCrossClear r q (ds f w v u) (nI t) = 1 ∧ D_X9_isAlone R C u v w i1 i2 i3 0 t = 1) ∨ (((∃ a, t + 1 ≤ a ∧ a < R ∧ ¬ w (a * 5 + t) = 0) ∨ ∃ b, t + 1 ≤ b ∧ b < C ∧ ¬ w (t * 5 + b) = 0) ∧ D_X1_isCrossClear r q (ds f w v u) (nI t) = 0 ∧ D_X9_isAlone R C u v w i1 i2 i3 0 t = 0) := by
  unfold D_X1_isCrossClear D_X9_isAlone
  rw [hD.1.1, s1, gapN (by omega) (by omega)]
  exact cc4 hD hR hC ht _ _ (t + 1) (by omega) (by omega) (by omega)
theorem cdv {p y : Int64} (hp : p ≠ 0) : D_X5_divides p y = if lg_cmp (y - y / p * p) 0 = 0 then 1 else 0 := by
  unfold D_X5_divides
  rw [if_neg (fun h => hp (lgE.mp h))]
/-- the first row with one that is not divided -/
theorem dv19 (hD : DH r R C) (hR : R ≤ 4) (hC : C ≤ 4) (ht : t < R ∧ t < C) (hp : w (t * 5 + t) ≠ 0) {i : Nat} (hi : i < R) {lc : Int32 → Int32} {lr : Nat → Int32 × (Nat → Int64) × (Nat → Int64) × Int32} : ∀ n1 n2 y : Nat, y ≤ C → C - y < n1 → C - y < n2 → (D_X1_findUndividedRow_19 r q (ds f w v u) (nI t) lc (nI i) n1 (nI y) = lc (nI (i + 1)) ∧ D_X9_isDividing_19 R C u v w i1 i2 i3 0 t lr i n2 y = lr (i + 1)) ∨ ((∃ j, y ≤ j ∧ j < C ∧ ¬ w (i * 5 + j) - w (i * 5 + j) / w (t * 5 + t) * w (t * 5 + t) = 0) ∧ D_X1_findUndividedRow_19 r q (ds f w v u) (nI t) lc (nI i) n1 (nI y) = nI i ∧ D_X9_isDividing_19 R C u v w i1 i2 i3 0 t lr i n2 y = (0, ar R t i 1 v, ar C t i 1 w, D_X9_look R C u (ar R t i 1 v) (ar C t i 1 w) i1 i2 i3 0)) := by
  intro n1
  induction n1 with
  | zero => intro n2 y _ h; omega
  | succ n1 ih =>
    intro n2 y hy h1 h2
    obtain ⟨n2, rfl⟩ : ∃ n, n2 = n + 1 := ⟨n2 - 1, by omega⟩
    rw [D_X1_findUndividedRow_19_s, D_X9_isDividing_19_s, hD.1.2]
    by_cases e : C ≤ y
    · rw [if_pos (ile e (by omega)), if_pos e, s1]
      exact Or.inl ⟨rfl, rfl⟩
    · rw [if_neg (nile e (by omega)), if_neg e]
      simp only [bnd1]
      rw [cget (by omega) (by omega), cget (by omega) (by omega), ds8, cpl (by omega), cpl (by omega), cdv hp]
      by_cases e0 : lg_cmp (w (i * 5 + y) - w (i * 5 + y) / w (t * 5 + t) * w (t * 5 + t)) 0 = 0
      · rw [if_pos e0, if_pos e0, if_neg (show ¬ (1 : Int32) = 0 by decide), s1]
        rcases ih n2 (y + 1) (by omega) (by omega) (by omega) with h | ⟨⟨j, k1, k2, k3⟩, k4⟩
        · exact Or.inl h
        · exact Or.inr ⟨⟨j, by omega, k2, k3⟩, k4⟩
      · rw [if_neg e0, if_neg e0, if_pos (show (0 : Int32) = 0 from rfl)]
        exact Or.inr ⟨⟨y, Nat.le_refl _, by omega, fun h => e0 (lgE.mpr h)⟩, rfl, rfl⟩
theorem dv4 (hD : DH r R C) (hR : R ≤ 4) (hC : C ≤ 4) (ht : t < R ∧ t < C) (hp : w (t * 5 + t) ≠ 0) : ∀ n1 n2 y : Nat, t + 1 ≤ y → y ≤ R → R - y < n1 → R - y < n2 → (D_X1_findUndividedRow_4 r q (ds f w v u) (nI t) n1 (nI y) = -1 ∧ D_X9_isDividing_4 R C u v w i1 i2 i3 0 t n2 y = (1, v, w, 0)) ∨ (∃ i j, t < i ∧ i < R ∧ t < j ∧ j < C ∧ ¬ w (i * 5 + j) - w (i * 5 + j) / w (t * 5 + t) * w (t * 5 + t) = 0 ∧ D_X1_findUndividedRow_4 r q (ds f w v u) (nI t) n1 (nI y) = nI i ∧ D_X9_isDividing_4 R C u v w i1 i2 i3 0 t n2 y = (0, ar R t i 1 v, ar C t i 1 w, D_X9_look R C u (ar R t i 1 v) (ar C t i 1 w) i1 i2 i3 0)) := by
  intro n1
  induction n1 with
  | zero => intro n2 y _ _ h; omega
  | succ n1 ih =>
    intro n2 y hy0 hy h1 h2
    obtain ⟨n2, rfl⟩ : ∃ n, n2 = n + 1 := ⟨n2 - 1, by omega⟩
    rw [D_X1_findUndividedRow_4_s, D_X9_isDividing_4_s, hD.1.1]
    by_cases e : R ≤ y
    · rw [if_pos (ile e (by omega)), if_pos e]
      exact Or.inl ⟨rfl, rfl⟩
    · rw [if_neg (nile e (by omega)), if_neg e, hD.1.2, s1, gapN (by omega) (by omega)]
      rcases dv19 (r := r) (q := q) (f := f) (v := v) (u := u) (i1 := i1) (i2 := i2) (i3 := i3) hD hR hC ht hp (show y < R by omega) (lc := D_X1_findUndividedRow_4 r q (ds f w v u) (nI t) n1) (lr := D_X9_isDividing_4 R C u v w i1 i2 i3 0 t n2) (C - (t + 1) + 1) (C + 1 - (t + 1) + 1) (t + 1) (by omega) (by omega) (by omega) with ⟨k1, k2⟩ | ⟨⟨j, k1, k2, k3⟩, k4, k5⟩
      · rw [k1, k2]
        exact ih n2 (y + 1) (by omega) (by omega) (by omega) (by omega)
      · exact Or.inr ⟨y, j, by omega, by omega, by omega, k2, k3, k4, k5⟩
theorem dv_eq (hD : DH r R C) (hR : R ≤ 4) (hC : C ≤ 4) (ht : t < R ∧ t < C) (hp : w (t * 5 + t) ≠ 0) : (D_X1_findUndividedRow r q (ds f w v u) (nI t) = -1 ∧ D_X9_isDividing R C u v w i1 i2 i3 0 t = (1, v, w, 0)) ∨ (∃ i j, t < i ∧ i < R ∧ t < j ∧ j < C ∧ ¬ w (i * 5 + j) - w (i * 5 + j) / w (t * 5 + t) * w (t * 5 + t) = 0 ∧ D_X1_findUndividedRow r q (ds f w v u) (nI t) = nI i ∧ D_X9_isDividing R C u v w i1 i2 i3 0 t = (0, ar R t i 1 v, ar C t i 1 w, D_X9_look R C u (ar R t i 1 v) (ar C t i 1 w) i1 i2 i3 0)) := by
  unfold D_X1_findUndividedRow D_X9_isDividing
  rw [hD.1.1, s1, gapN (by omega) (by omega)]
  exact dv4 hD hR hC ht hp _ _ (t + 1) (Nat.le_refl _) (by omega) (by omega) (by omega)
end PDE
end
section
-- 59.pdif
section PDF
variable {r q : Nat → Int32} {f : Nat → Nat → Int64} {w v u : Nat → Int64} {R C a b t m c0 : Nat} {x : Int64} {i1 i2 i3 : Int32}
theorem rem_emod {y p : Int64} (hp : 0 < p.toInt) (h : ¬ y - y / p * p = 0) : y.toInt % p.toInt ≠ 0 := by
  intro e
  refine h (Int64.toInt_inj.mp ?_)
  rw [rem_int (nzp hp), show (0 : Int64).toInt = 0 from rfl]
  have h1 : y.toInt.tmod p.toInt = 0 ↔ y.toInt % p.toInt = 0 := by
    rw [← Int.dvd_iff_tmod_eq_zero, Int.dvd_iff_emod_eq_zero]
  exact h1.mpr e
theorem tb91 : tb9 1 := ⟨by decide, by decide⟩
theorem add_i {y z : Int64} (hy : ng y) (hz : ng z) : (y + 1 * z).toInt = y.toInt + z.toInt := by
  rw [(mad_int hy hz (by decide) (by decide)).1, show (1 : Int64).toInt = 1 from rfl, Int.one_mul]
theorem d2g {n : Nat} {y : Int32} (h : ¬ q 1 = 0) : D_X1_clearCross_2 r (nI t) (n + 1) y q f = (0, q, f) := by
  rw [D_X1_clearCross_2_s]
  split
  · rfl
  · first | rfl | rw [if_neg h]
theorem r0g {n : Nat} : D_X9_isCleared_0 R C i3 t (n + 1) u v w i1 i2 1 = (0, u, v, w, i1, i2, 1) := by
  rw [D_X9_isCleared_0_s, if_neg (by decide)]
/-- a pass: an end, or a next one -/
theorem dpass_eq (hD : DH r R C) (hR : R ≤ 4) (hC : C ≤ 4) (ht : t < R ∧ t < C) (hq : q 1 = 0) (hF : Sd R C w v u) {n1 n2 y : Nat} (hy : y + 1 < 1000000) :
    FdD R C t w q f (D_X1_clearCross_2 r (nI t) (n1 + 2) (nI y) q (ds f w v u)) (D_X9_isCleared_0 R C i3 t (n2 + 2) u v w i1 i2 0) ∨
    (∃ (w1 v1 u1 : Nat → Int64) (j1 j2 : Int32), Ps R C t w w1 ∧ Fj t w w1 ∧ Sd R C w1 v1 u1 ∧ D_X1_clearCross_2 r (nI t) (n1 + 2) (nI y) q (ds f w v u) = D_X1_clearCross_2 r (nI t) (n1 + 1) (nI (y + 1)) q (ds f w1 v1 u1) ∧ D_X9_isCleared_0 R C i3 t (n2 + 2) u v w i1 i2 0 = D_X9_isCleared_0 R C i3 t (n2 + 1) u1 v1 w1 j1 j2 0) := by
  have hcl : D_X1_clearCross_2 r (nI t) (n1 + 2) (nI y) q (ds f w v u) = if 0 ≤ D_X1_findLeastPlace r q (ds f w v u) (nI t) then D_X1_clearCross_43 r (nI t) (D_X1_clearCross_2 r (nI t) (n1 + 1)) (nI y) (R - (t + 1) + 1) (nI (t + 1)) q (D_X1_bring r q (ds f w v u) (D_X1_findLeastPlace r q (ds f w v u) (nI t) / 5) (D_X1_findLeastPlace r q (ds f w v u) (nI t) - D_X1_findLeastPlace r q (ds f w v u) (nI t) / 5 * 5) (nI t)) else (0, q, ds f w v u) := by
    rw [show n1 + 2 = (n1 + 1) + 1 from rfl, D_X1_clearCross_2_s, if_neg (show ¬ (1000000 : Int32) ≤ nI y from nile (a := 1000000) (by omega) (by omega)), if_pos hq]
    simp only [bnd1]
    rw [hD.1.1, s1, gapN (by omega) (by omega)]
  have hrf : D_X9_isCleared_0 R C i3 t (n2 + 2) u v w i1 i2 0 = D_X9_isCleared_14 R C i3 t (D_X9_isCleared_0 R C i3 t (n2 + 1)) u v w i1 i2 0 (R + 1 - t + 1) t t t := by
    rw [show n2 + 2 = (n2 + 1) + 1 from rfl, D_X9_isCleared_0_s, if_pos rfl]
  rw [hcl, hrf]
  rcases fp_eq (r := r) (q := q) (f := f) (v := v) (u := u) (i1 := i1) (i2 := i2) (i3 := i3) hD hR hC ht hF.1.1 (lbr := D_X9_isCleared_0 R C i3 t (n2 + 1)) with ⟨h1, h2, h3, h4⟩ | ⟨m, c0, h1, h2, h3, h4, h5, h6⟩
  · rw [h1, if_neg (by decide), h3, D_X9_isCleared_14_s, if_pos (Nat.le_refl _), if_pos (lgE.mpr h4)]
    exact Or.inl ⟨0, 0, 0, i1, i2, w, v, u, w, v, u, Or.inl rfl, by rw [vq1 hq], rfl, fun h => absurd h (by decide), fun _ => ⟨rfl, Or.inl rfl, rfl, rfl, rfl, hF, fun j _ => rfl, fun h => absurd h (by decide), fun _ => h2⟩⟩
  · have e1 : nI (m * 5 + c0) / 5 = nI m := by rw [nI_div5 (by omega), show (m * 5 + c0) / 5 = m by omega]
    have e2 : nI (m * 5 + c0) - nI m * 5 = nI c0 := by
      rw [show (5 : Int32) = nI 5 from rfl, nI_mul, nI_sub (by omega), show m * 5 + c0 - m * 5 = c0 by omega]
    rw [h4, if_pos (Int32.not_lt.mp (ilt0 (by omega))), e1, e2, h5, D_X9_isCleared_14_s, if_pos (Nat.le_refl _), if_neg (fun h => h2 (lgE.mp h))]
    obtain ⟨wb, vb, ub, jb1, jb2, b1, b2, b3, ⟨b4, b5, s, b6, b7⟩, b8⟩ := dbr_eq (r := r) (q := q) (f := f) (i1 := i1) (i2 := i2) (i3 := i3) hD hR hC h1 hF h2
    rw [b1, b2]
    simp only [bnd5]
    have htk : D_X9_takeOff R C ub vb wb jb1 jb2 i3 0 t = D_X9_takeOff_4 R C ub jb1 jb2 i3 t (R + 1 - (t + 1) + 1) (t + 1) vb wb 0 := rfl
    rw [htk]
    rcases LR (r := r) (f := f) (u := ub) (i1 := jb1) (i2 := jb2) (i3 := i3) (yy := nI y) (lbc := D_X1_clearCross_2 r (nI t) (n1 + 1)) hD hR hC ht (R - (t + 1) + 1) (R + 1 - (t + 1) + 1) (t + 1) wb vb q (Nat.le_refl _) (by omega) (by omega) (by omega) hq b3 b4 with ⟨w1, v1, w2, v2, u2, k1, k2⟩ | ⟨wr, vr, Q, k1, k2, k3, k4, k5, k6⟩
    · rw [k1, k2]
      simp only [bnd4]
      rw [if_neg (by decide), d2g (by rw [vu_self]; decide)]
      exact Or.inl ⟨1, 0, 0, jb1, jb2, w1, v1, ub, w2, v2, u2, Or.inr rfl, rfl, rfl, fun _ => rfl, fun h => absurd h (by decide)⟩
    · rw [k1, k2]
      have hptr : wr (t * 5 + t) = wb (t * 5 + t) := k4 t t (by omega) ht.2
      rcases LC (r := r) (f := f) (v := vr) (i1 := jb1) (i2 := jb2) (i3 := i3) (yy := nI y) (lbc := D_X1_clearCross_2 r (nI t) (n1 + 1)) hD hR hC ht (C - (t + 1) + 1) (C + 1 - (t + 1) + 1) (t + 1) wr ub q (Nat.le_refl _) (by omega) (by omega) (by omega) hq k3 (by rw [hptr]; exact b4) with ⟨w1, u1, w2, v2, u2, l1, l2⟩ | ⟨wc, uc, K, l1, l2, l3, l4, l5, l6⟩
      · rw [l1, l2]
        simp only [bnd4]
        rw [if_neg (by decide), d2g (by rw [vu_self]; decide)]
        exact Or.inl ⟨1, 0, 0, jb1, jb2, w1, vr, u1, w2, v2, u2, Or.inr rfl, rfl, rfl, fun _ => rfl, fun h => absurd h (by decide)⟩
      · rw [l1, l2]
        simp only [bnd4]
        rw [if_pos trivial, D_X1_clearCross_j158_s, if_pos hq]
        simp only [bnd1]
        have hptc : wc (t * 5 + t) = wb (t * 5 + t) := by rw [l4 t t ht.1 (by omega), hptr]
        have hpc : 0 < (wc (t * 5 + t)).toInt := by rw [hptc]; exact b4
        have hFj : Fj t w wc := Fj_t b8 (fun j hj => (l4 j j (by omega) (by omega)).trans (k4 j j (by omega) (by omega)))
        have nz : ∀ z : Int64, ¬ z = 0 → z.toInt ≠ 0 := fun z h e => h (Int64.toInt_inj.mp e)
        -- the facts of this pass
        have hPs : ∀ w3 : Nat → Int64, (((∀ a b, t ≤ a → a < R → t ≤ b → b < C → (w3 (a * 5 + b)).toInt = (wc (a * 5 + b)).toInt) ∧ ((∃ a, t < a ∧ a < R ∧ (wc (a * 5 + t)).toInt ≠ 0) ∨ ∃ b, t < b ∧ b < C ∧ (wc (t * 5 + b)).toInt ≠ 0)) ∨ ((∀ a, t < a → a < R → (wc (a * 5 + t)).toInt = 0) ∧ (∀ b, t < b → b < C → (wc (t * 5 + b)).toInt = 0) ∧ ∃ i j, t < i ∧ i < R ∧ t < j ∧ j < C ∧ (wc (i * 5 + j)).toInt % (wc (t * 5 + t)).toInt ≠ 0 ∧ ∀ a b, t ≤ a → a < R → t ≤ b → b < C → (w3 (a * 5 + b)).toInt = if a = t then (wc (t * 5 + b)).toInt + (wc (i * 5 + b)).toInt else (wc (a * 5 + b)).toInt)) → Ps R C t w w3 := by
          intro w3 h
          refine ⟨m, c0, s, Q, K, fun a b => (wb (a * 5 + b)).toInt, fun a b => (wr (a * 5 + b)).toInt, fun a b => (wc (a * 5 + b)).toInt, h1, b6, h2, h3, h6, b7, b4, fun b hb1 hb2 => ?_, fun a b ha1 ha2 hb1 hb2 => ?_, fun a ha1 ha2 => ?_, fun a ha1 ha2 => ?_, fun a b ha1 ha2 hb1 hb2 => ?_, fun b hb1 hb2 => ?_, h⟩
          · show (wr (t * 5 + b)).toInt = (wb (t * 5 + b)).toInt
            rw [k4 t b (by omega) hb2]
          · exact k5 a b (by omega) ha2 hb2
          · exact k6 a (by omega) ha2
          · show (wc (a * 5 + t)).toInt = (wr (a * 5 + t)).toInt
            rw [l4 a t ha2 (by omega)]
          · exact l5 a b ha2 (by omega) hb2
          · have := l6 b (by omega) hb2
            rw [hptr] at this
            exact this
        rcases cc_eq (r := r) (q := q) (f := f) (w := wc) (v := vr) (u := uc) (i1 := jb1) (i2 := jb2) (i3 := i3) hD hR hC ht with ⟨⟨c1, c2⟩, c3, c4⟩ | ⟨c1, c3, c4⟩
        · rw [c3, c4, if_neg (show ¬ (1 : Int32) = 0 by decide), if_neg (show ¬ (1 : Int32) = 0 by decide)]
          rcases dv_eq (r := r) (q := q) (f := f) (w := wc) (v := vr) (u := uc) (i1 := jb1) (i2 := jb2) (i3 := i3) hD hR hC ht (nzp hpc) with ⟨g1, g2⟩ | ⟨i, j, g1, g2, g3, g4, g5, g6, g7⟩
          · rw [g1, g2, if_neg (by decide)]
            simp only [bnd4]
            rw [if_pos trivial]
            exact Or.inl ⟨0, 1, 1, jb1, jb2, wc, vr, uc, wc, vr, uc, Or.inl rfl, by rw [vq1 hq], rfl, fun h => absurd h (by decide), fun _ => ⟨rfl, Or.inr rfl, rfl, rfl, rfl, l3, hFj, fun _ => nzp hpc, fun h => absurd h (by decide)⟩⟩
          · obtain ⟨G, hG, a1, a2, a3⟩ := addR_eq (r := r) (q := q) (f := f) (a := t) (b := i) (x := 1) (s1' := jb1) (s2' := jb2) (i3 := i3) hD hR hC ht.1 g2 (by omega) l3 tb91
            rw [g6, g7, if_pos (Int32.not_lt.mp (ilt0 (by omega))), a1, a2]
            simp only [bnd2, bnd4]
            rw [if_neg (by decide)]
            rcases hG with rfl | rfl
            · refine Or.inr ⟨ar C t i 1 wc, ar R t i 1 vr, uc, jb1, jb2, hPs _ (Or.inr ⟨fun a ha1 ha2 => ?_, fun b hb1 hb2 => ?_, i, j, g1, g2, g3, g4, rem_emod hpc g5, fun a b ha1 ha2 hb1 hb2 => ?_⟩), Fj_t hFj (fun j hj => ar_off (by omega) (by omega)), a3 rfl, by rw [vq1 hq, s1], rfl⟩
              · rw [c1 a (by omega) ha2]; rfl
              · rw [c2 b (by omega) hb2]; rfl
              · by_cases ea : a = t
                · rw [if_pos ea, ea, ar_at hb2 (by omega), add_i (l3.1.1 _ (by omega)) (l3.1.1 _ (by omega))]
                · rw [if_neg ea, ar_off (by omega) ea]
            · rw [d2g (by rw [vu_self]; decide), r0g]
              exact Or.inl ⟨1, 0, 0, jb1, jb2, _, _, _, _, _, _, Or.inr rfl, rfl, rfl, fun _ => rfl, fun h => absurd h (by decide)⟩
        · rw [c3, c4, if_pos (show (0 : Int32) = 0 from rfl), if_pos (show (0 : Int32) = 0 from rfl)]
          refine Or.inr ⟨wc, vr, uc, jb1, jb2, hPs _ (Or.inl ⟨fun a b _ _ _ _ => rfl, ?_⟩), hFj, l3, by rw [s1], rfl⟩
          rcases c1 with ⟨a, ha1, ha2, ha3⟩ | ⟨b, hb1, hb2, hb3⟩
          · exact Or.inl ⟨a, by omega, ha2, nz _ ha3⟩
          · exact Or.inr ⟨b, by omega, hb2, nz _ hb3⟩
end PDF
end
