/-! ===== isSound, digest ===== -/
section PF2
variable {R C x : Nat} {F : Nat → Int64} {rec : Nat → Int32 → Int64}
theorem bt2 : ∀ S, S < 8 → ∀ j, j < 3 → (nI S) >>> ((nI (j + 1)) &&& 31) = nI (S / 2 ^ (j + 1)) := by decide +kernel
theorem bt4 : ∀ p, p < 6 → (nI p - nI p / 2 * 2 = 0 ↔ p % 2 = 0) := by decide +kernel
theorem bt5 : ∀ S, S < 8 → ∀ j, j < 3 → ¬ S / 2 ^ j % 2 = 1 → (nI S) ||| (1 <<< ((nI j) &&& 31)) = nI (S + 2 ^ j) := by decide +kernel
/-- the side of a place in a sequence; the sum over the places that are left -/
def sgd (S j : Nat) : Int64 := if pc5 (S / 2 ^ (j + 1)) % 2 = 0 then 1 else -1
def bsum (F : Nat → Int64) (S x : Nat) (rec : Nat → Int64) : Nat → Int64
  | 0 => 0
  | j + 1 => if S / 2 ^ j % 2 = 1 then bsum F S x rec j else bsum F S x rec j + sgd S j * F (x * 5 + j) * rec (S + 2 ^ j)
theorem bs15 (hC : C ≤ 3) {S : Nat} (hS : S < 8) : ∀ n j : Nat, j ≤ C → C - j < n → D_bs_step_15 C F x (nI S) rec n j (bsum F S x (fun T => rec (x + 1) (nI T)) j) = bsum F S x (fun T => rec (x + 1) (nI T)) C := by
  intro n
  induction n with
  | zero => intro j _ h; omega
  | succ n ih =>
    intro j hj hn
    rw [D_bs_step_15_s]
    by_cases e : C ≤ j
    · rw [if_pos e, show j = C by omega]
    · rw [if_neg e, fmb S (by omega) j (by omega)]
      have hst : bsum F S x (fun T => rec (x + 1) (nI T)) (j + 1) = if S / 2 ^ j % 2 = 1 then bsum F S x (fun T => rec (x + 1) (nI T)) j else bsum F S x (fun T => rec (x + 1) (nI T)) j + sgd S j * F (x * 5 + j) * rec (x + 1) (nI (S + 2 ^ j)) := rfl
      by_cases b : S / 2 ^ j % 2 = 1
      · rw [if_pos b] at hst
        rw [b, if_pos (show nI 1 = 1 from rfl), ← hst]
        exact ih (j + 1) (by omega) (by omega)
      · rw [if_neg b] at hst
        have hd : S / 2 ^ (j + 1) < 8 := Nat.lt_of_le_of_lt (Nat.div_le_self _ _) hS
        rw [if_neg (show ¬ nI (S / 2 ^ j % 2) = 1 by rw [show S / 2 ^ j % 2 = 0 by omega]; decide)]
        dsimp only [nm]
        rw [bt2 S hS j (by omega), fbc _ (by omega)]
        have hp := pcl5 (S / 2 ^ (j + 1)) (by omega)
        by_cases c : pc5 (S / 2 ^ (j + 1)) % 2 = 0
        · rw [if_pos ((bt4 _ (by omega)).mpr c), D_bs_step_j56_s, t64a, bt5 S hS j (by omega) b]
          have hs : sgd S j = 1 := if_pos c
          rw [hs] at hst
          rw [← hst]
          exact ih (j + 1) (by omega) (by omega)
        · rw [if_neg (fun h => c ((bt4 _ (by omega)).mp h)), D_bs_step_j56_s, t64b, bt5 S hS j (by omega) b]
          have hs : sgd S j = -1 := if_neg c
          rw [hs] at hst
          rw [← hst]
          exact ih (j + 1) (by omega) (by omega)
theorem bsv_st (hC : C ≤ 3) {S n : Nat} (hS : S < 8) (hx : ¬ x = R) : bsv R C F (n + 1) x (nI S) = bsum F S x (fun T => bsv R C F n (x + 1) (nI T)) C := by
  show D_bs_step R C F x (nI S) (bsv R C F n) = _
  rw [D_bs_step_s, if_neg hx]
  exact bs15 hC hS (C + 1 - 0 + 1) 0 (by omega) (by omega)
theorem bsv_R {n : Nat} {y : Int32} : bsv R C F (n + 1) R y = 1 := if_pos rfl
/-- by sequences: the determinant -/
theorem seq_dt (hR1 : 1 ≤ R) (hR : R ≤ 3) : bsv R R F 4 0 0 = dtn R F := by
  show bsv R R F (3 + 1) 0 (nI 0) = dtn R F
  rcases (show R = 1 ∨ R = 2 ∨ R = 3 by omega) with rfl | rfl | rfl
  · rw [bsv_st (by decide) (by decide) (by decide)]
    have h1 : ∀ y : Int32, bsv 1 1 F 3 1 y = 1 := fun y => bsv_R
    simp [bsum, sgd, pc5, dtn, h1]
  · have h2 : ∀ y : Int32, bsv 2 2 F 2 2 y = 1 := fun y => bsv_R
    have r1 : bsv 2 2 F 3 1 (nI 1) = F 6 := by
      rw [bsv_st (by decide) (by decide) (by decide)]
      simp [bsum, sgd, pc5, h2]
    have r2 : bsv 2 2 F 3 1 (nI 2) = -F 5 := by
      rw [bsv_st (by decide) (by decide) (by decide)]
      simp [bsum, sgd, pc5, h2]
      grind
    rw [bsv_st (by decide) (by decide) (by decide)]
    simp [bsum, sgd, pc5, dtn, dt2, r1, r2]
    grind
  · have h3 : ∀ y : Int32, bsv 3 3 F 1 3 y = 1 := fun y => bsv_R
    have q3 : bsv 3 3 F 2 2 (nI 3) = F 12 := by
      rw [bsv_st (by decide) (by decide) (by decide)]
      simp [bsum, sgd, pc5, h3]
    have q5 : bsv 3 3 F 2 2 (nI 5) = -F 11 := by
      rw [bsv_st (by decide) (by decide) (by decide)]
      simp [bsum, sgd, pc5, h3]
      grind
    have q6 : bsv 3 3 F 2 2 (nI 6) = F 10 := by
      rw [bsv_st (by decide) (by decide) (by decide)]
      simp [bsum, sgd, pc5, h3]
    have r1 : bsv 3 3 F 3 1 (nI 1) = F 6 * F 12 - F 7 * F 11 := by
      rw [bsv_st (by decide) (by decide) (by decide)]
      simp [bsum, sgd, pc5, q3, q5, q6]
      grind
    have r2 : bsv 3 3 F 3 1 (nI 2) = F 7 * F 10 - F 5 * F 12 := by
      rw [bsv_st (by decide) (by decide) (by decide)]
      simp [bsum, sgd, pc5, q3, q5, q6]
      grind
    have r4 : bsv 3 3 F 3 1 (nI 4) = F 5 * F 11 - F 6 * F 10 := by
      rw [bsv_st (by decide) (by decide) (by decide)]
      simp [bsum, sgd, pc5, q3, q5, q6]
      grind
    rw [bsv_st (by decide) (by decide) (by decide)]
    simp [bsum, sgd, pc5, dtn, dt3, r1, r2, r4]
    grind
end PF2
section PF3
variable {r q r1 q1 : Nat → Int32} {f f1 : Nat → Nat → Int64} {r' : Nat → Nat} {f' : Nat → Nat → Int64} {q' Q : Nat → Int32} {R C K x y : Nat} {G w v u : Nat → Int64} {s t : Int32}
theorem cs_5 {X : Nat → Int64} : va_up (cs f w v) 5 X = cs (va_up f 5 X) w v := by
  funext i
  unfold cs
  by_cases e5 : i = 5
  · subst e5
    rw [vu_self, vu_ne (show 5 ≠ 7 by decide), vu_ne (show 5 ≠ 6 by decide), vu_self]
  · rw [vu_ne e5]
    by_cases e7 : i = 7
    · subst e7
      rw [vu_self, vu_self, vu_ne (show 7 ≠ 5 by decide)]
    · rw [vu_ne e7, vu_ne e7]
      by_cases e6 : i = 6
      · subst e6
        rw [vu_self, vu_self, vu_ne (show 6 ≠ 5 by decide)]
      · rw [vu_ne e6, vu_ne e6, vu_ne e5]
theorem fd10 (h6 : r (2 * 6) = nI R) (hR : R ≤ 4) {s : Int64} : ∀ n k : Nat, k ≤ R → R - k < n → D_X4_findDeterminant_10 r q (cs f w v) n (nI k) (dp w s k) = dp w s R := by
  intro n
  induction n with
  | zero => intro k _ h; omega
  | succ n ih =>
    intro k hk hn
    rw [D_X4_findDeterminant_10_s, h6]
    by_cases e : R ≤ k
    · rw [if_pos (ile e (by omega)), show k = R by omega]
    · rw [if_neg (nile e (by omega)), bnd1_e, cget (by omega) (by omega), cs6, cpl (by omega), s1]
      exact ih (k + 1) (by omega) (by omega)
theorem mxi_cp (hC : C ≤ 5) : mxi R C (cp (R * 5) G (fun _ => 0)) = mxi R C G := by
  funext a b
  unfold mxi
  by_cases e : a < R ∧ b < C
  · rw [if_pos e, if_pos e]
    unfold cp
    rw [if_pos (by omega)]
  · rw [if_neg e, if_neg e]
/-- by the row steps -/
theorem srow (h : Rl r q f r' f' q') (hR3 : r' 0 ≤ 3) (hC3 : r' 1 ≤ 3) (hF : Sf (r' 0) (r' 1) w v) {s : Int32} (hJ : Jr (r' 0) (r' 1) (cp (r' 0 * 5) (f' 0) (fun _ => 0)) x y w v s) (he : r' 1 ≤ y ∨ r' 0 ≤ x) (hx : x ≤ r' 0) (hy : y ≤ r' 1) : ∃ r2 f2, D_X5_isSoundByRowSteps (rs (rs r 6 (r' 0) (r' 1)) 7 (r' 0) (r' 0)) (va_up q 0 0) (cs f w v) 0 = (1, r2, va_up q 0 0, f2) ∧ Rl r2 (va_up q 0 0) f2 r' f' q' := by
  have hT := h.1 0 (by decide)
  have hb : 1 ≤ r' 0 ∧ r' 0 ≤ 4 ∧ 1 ≤ r' 1 ∧ r' 1 ≤ 4 := hT.2.1
  have hR1 : Rl (rs (rs r 6 (r' 0) (r' 1)) 7 (r' 0) (r' 0)) (va_up q 0 0) (cs f w v) r' f' q' := Rl_walk h
  have hT1 := hR1.1 0 (by decide)
  have t1 : (rs (rs r 6 (r' 0) (r' 1)) 7 (r' 0) (r' 0)) (2 * 0) = nI (r' 0) := hT1.1.1
  have t2 : (rs (rs r 6 (r' 0) (r' 1)) 7 (r' 0) (r' 0)) (2 * 0 + 1) = nI (r' 1) := hT1.1.2.1
  have h6 : (rs (rs r 6 (r' 0) (r' 1)) 7 (r' 0) (r' 0)) (2 * 6) = nI (r' 0) := (rs_R' (by decide)).trans rs_R
  have h6c : (rs (rs r 6 (r' 0) (r' 1)) 7 (r' 0) (r' 0)) (2 * 6 + 1) = nI (r' 1) := (rs_C' (by decide)).trans rs_C
  generalize hr1 : rs (rs r 6 (r' 0) (r' 1)) 7 (r' 0) (r' 0) = r1 at hR1 t1 t2 h6 h6c ⊢
  have h7 : r1 (2 * 7) = nI (r' 0) := by rw [← hr1]; exact rs_R
  have h7c : r1 (2 * 7 + 1) = nI (r' 0) := by rw [← hr1]; exact rs_C
  obtain ⟨j1, j2, j3, j4, j5⟩ := hJ
  obtain ⟨q1', q2', q3', q4'⟩ := ech_rows j3 he hx hy
  unfold D_X5_isSoundByRowSteps
  rw [cbp (Rj := r' 0) (Cj := r' 0) (Ck := r' 1) (by decide) (by decide) h7 h7c t2 hb.1 hb.2.1 hb.2.2.1 (by omega) hb.2.1, bnd3_e, bnd1_e]
  have hX : ∀ k, k < 20 → pd (r' 0) (r' 0) 0 (r' 1) (cs f w v 7) (cs f w v 0) (zf 20 (cs f w v 5)) k = w k := fun k hk => by
    by_cases e : k / 5 < r' 0 ∧ k % 5 < r' 1
    · have hd := j2 (k / 5) (k % 5) e.1 e.2
      rw [show k / 5 * 5 + k % 5 = k by omega] at hd
      rw [pd_p e, ← hd]
      refine dot_cg _ (fun m hm => by rw [cs7, cpl (by omega)]) (fun m hm => ?_)
      exact hT1.1.2.2 (m * 5 + k % 5) (by omega)
    · rw [pd_n e, hF.2.1 k hk (by omega)]
      unfold zf
      rw [if_pos hk]
  generalize pd (r' 0) (r' 0) 0 (r' 1) (cs f w v 7) (cs f w v 0) (zf 20 (cs f w v 5)) = X at hX ⊢
  have hR2 : Rl (rs r1 5 (r' 0) (r' 1)) (va_up q 0 0) (va_up (cs f w v) 5 X) r' f' q' := Rl_keep hR1 (fun i hi => ro (by omega)) ⟨rfl, rfl, rfl⟩
  have hT2 := hR2.1 0 (by decide)
  have k1 : (rs r1 5 (r' 0) (r' 1)) (2 * 0) = nI (r' 0) := hT2.1.1
  have k2 : (rs r1 5 (r' 0) (r' 1)) (2 * 0 + 1) = nI (r' 1) := hT2.1.2.1
  have hv : ∀ k, k < r' 0 * 5 → va_up (cs f w v) 5 X 0 k = f' 0 k := fun k hk => tb_v hT2 hk
  have z5 : zc (r' 1) 20 (va_up (cs f w v) 5 X 5) := fun k hk e => by rw [vu_self, hX k hk]; exact hF.2.1 k hk (Or.inr e)
  have z6 : zc (r' 1) 20 (va_up (cs f w v) 5 X 6) := fun k hk e => by rw [vu_ne (show 6 ≠ 5 by decide), cs6, cpl hk]; exact hF.2.1 k hk (Or.inr e)
  rcases cisl (r := rs r1 5 (r' 0) (r' 1)) (q := va_up q 0 0) (f := va_up (cs f w v) 5 X) (i := 5) (j := 6) (R := r' 0) (C := r' 1) (Rj := r' 0) (Cj := r' 1) rs_R rs_C ((rs_R' (by decide)).trans h6) ((rs_C' (by decide)).trans h6c) hb.2.1 (by omega) hb.2.1 (by omega) z5 z6 with ⟨c1, _⟩ | ⟨_, c2⟩
  · rw [c1, if_neg one0, bnd1_e, bnd1_e]
    have hbq : ∀ j, j < r' 0 * 5 → Bq 20 (f' 0 j) := tb_b hT
    have hZ : Zq (mxi (r' 0) (r' 1) (f' 0)) (mxi (r' 0) (r' 1) w) := by rw [mxi_cp (by omega)] at j1; exact j1
    have e1 : D_X0_findRank (rs r1 5 (r' 0) (r' 1)) (va_up q 0 0) (va_up (cs f w v) 5 X) 0 = nI x := (rank_eq (i := 0) hb.1 hb.2.1 hb.2.2.1 (by omega) k1 k2 hv hbq).trans (rko (ech_div hb.1 hR3 hC3 hbq hZ j3 he hx hy) (by omega))
    have e2 : D_X4_countFilledRows (rs r1 5 (r' 0) (r' 1)) (va_up q 0 0) (va_up (cs f w v) 5 X) = nI x := by
      rw [cs_5]
      exact (cfr (s := 0) (t := 0) ((rs_R' (by decide)).trans h6) ((rs_C' (by decide)).trans h6c) hb.2.1 (by omega)).trans (r8 hx q2' q3')
    rw [e1, e2, if_pos rfl, k1, k2]
    by_cases c : r' 0 = r' 1
    · rw [if_pos (congrArg nI c), bnd1_e, bnd1_e]
      have k2' : (rs r1 5 (r' 0) (r' 1)) (2 * 0 + 1) = nI (r' 0) := k2.trans (congrArg nI c.symm)
      have e3 : D_X0_byFirstRow (rs r1 5 (r' 0) (r' 1)) (va_up q 0 0) (va_up (cs f w v) 5 X) 0 = dtn (r' 0) (f' 0) := bfr_dt (i := 0) k1 k2' hb.1 hb.2.1 hv
      have e4 : D_X4_findDeterminant (rs r1 5 (r' 0) (r' 1)) (va_up q 0 0) (va_up (cs f w v) 5 X) = dtn (r' 0) (f' 0) := by
        unfold D_X4_findDeterminant
        have e5 : D_X0_byFirstRow (rs r1 5 (r' 0) (r' 1)) (va_up q 0 0) (va_up (cs f w v) 5 X) 7 = dtn (r' 0) v := bfr_dt (i := 7) ((rs_R' (by decide)).trans h7) ((rs_C' (by decide)).trans h7c) hb.1 hb.2.1 (fun k hk => by rw [vu_ne (show 7 ≠ 5 by decide), cs7, cpl (by omega)])
        have h6' : (rs r1 5 (r' 0) (r' 1)) (2 * 6) = nI (r' 0) := (rs_R' (by decide)).trans h6
        rw [e5, bnd1_e, h6', cs_5, show gap (nI (r' 0)) 0 = r' 0 - 0 from gapN (b := 0) (by omega) (by omega)]
        refine (fd10 (r := rs r1 5 (r' 0) (r' 1)) (s := dtn (r' 0) v) h6' hb.2.1 (r' 0 - 0 + 1) 0 (by omega) (by omega)).trans ?_
        rw [dp_dt hb.1 hR3 (fun a b g1 g2 g3 => q4' a b g1 g2 (by omega)), j5 c, ← Int64.mul_assoc, Sg_sq j4, Int64.one_mul]
        exact dtn_cg hb.1 hb.2.1 (fun k hk => if_pos hk)
      rw [e3, e4, if_pos (lgE.mpr rfl)]
      exact ⟨_, _, rfl, hR2⟩
    · rw [if_neg (fun e => c (nI_inj (by omega) (by omega) e))]
      exact ⟨_, _, rfl, hR2⟩
  · refine absurd ⟨rfl, rfl, fun k hk => ?_⟩ c2
    rw [vu_self, vu_ne (show 6 ≠ 5 by decide), cs6, cpl (by omega)]
    exact hX k (by omega)
/-- products of DIVISORS and of the diagonal, in 64 bits -/
theorem mul_eq {a b c : Int64} (h : a.toInt * b.toInt = c.toInt) : a * b = c := by
  refine Int64.toInt_inj.mp ?_
  have h1 := Int64.toInt_lt c
  have h2 := Int64.le_toInt c
  rw [Int64.toInt_mul, h]
  exact Int.bmod_eq_of_le (by omega) (by omega)
theorem sd54 (hR1 : 1 ≤ R) (hR : R ≤ 3) (hC : C ≤ 3) (h1 : r (2 * 0) = nI R) (h2 : r (2 * 0 + 1) = nI C) (hv : ∀ k, k < R * 5 → f 0 k = G k) (hG : ∀ j, j < R * 5 → Bq 20 (G j)) (h8 : ∀ k, k < 20 → f 8 k = w k) (hD : ∀ k, k ≤ min R C → (D_X7_divisor R C G (nI k)).toInt = dlt (mxi R C w) k) : ∀ n k : Nat, k ≤ R → R - k < n → D_X5_isSoundBySteps_54 0 r q f n (nI k) = (1, r, q, f) := by
  intro n
  induction n with
  | zero => intro k _ h; omega
  | succ n ih =>
    intro k hk hn
    rw [D_X5_isSoundBySteps_54_s, h1, h2]
    by_cases e : R ≤ k
    · rw [if_pos (ile e (by omega))]
    · rw [if_neg (nile e (by omega))]
      by_cases e2 : C ≤ k
      · rw [if_pos (ile e2 (by omega))]
      · rw [if_neg (nile e2 (by omega)), bnd1_e, bnd1_e, bnd1_e, s1, (divs_eq (i := 0) hR1 (by omega) (by omega) h1 h2 hv hG (show k ≤ 5 by omega)).1, (divs_eq (i := 0) hR1 (by omega) (by omega) h1 h2 hv hG (show k + 1 ≤ 5 by omega)).1, cget (by omega) (by omega), h8 _ (by omega)]
        have hm : D_X7_divisor R C G (nI k) * w (k * 5 + k) = D_X7_divisor R C G (nI (k + 1)) := by
          refine mul_eq ?_
          rw [hD k (by omega), hD (k + 1) (by omega)]
          show _ = dlt (mxi R C w) k * mxi R C w k k
          rw [mxi_p ⟨by omega, by omega⟩]
        rw [if_pos (lgE.mpr hm)]
        exact ih (k + 1) (by omega) (by omega)
end PF3
