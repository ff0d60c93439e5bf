section PF5
variable {r q : Nat → Int32} {f : Nat → Nat → Int64} {r' : Nat → Nat} {f' : Nat → Nat → Int64} {q' : Nat → Int32} {i a : Nat}
theorem mix_in (h : TB r f i (r' (2 * i)) (r' (2 * i + 1)) (f' i)) (ha : a < r' (2 * i)) {lbc : Int32 → Int64 → Int64} {lbr : Nat → Int64 → Int64 × (Nat → Int32)} : ∀ n1 n2 k : Nat, ∀ s : Int64, k ≤ r' (2 * i + 1) → r' (2 * i + 1) - k < n1 → r' (2 * i + 1) - k < n2 → ∃ V, D_X3_mix_37 r q f i lbc (nI a) n1 (nI k) s = lbc (nI (a + 1)) V ∧ D_X10_digest_74 r' f' i lbr a n2 k s = lbr (a + 1) V := by
  have hb := h.2.1
  intro n1
  induction n1 with
  | zero => intro n2 k s _ h; omega
  | succ n1 ih =>
    intro n2 k s hk h1 h2
    obtain ⟨n2, rfl⟩ : ∃ m, n2 = m + 1 := ⟨n2 - 1, by omega⟩
    rw [D_X3_mix_37_s, D_X10_digest_74_s, h.1.2.1]
    by_cases e : r' (2 * i + 1) ≤ k
    · rw [if_pos (ile e (by omega)), if_pos e, s1]
      exact ⟨s, rfl, rfl⟩
    · rw [if_neg (nile e (by omega)), if_neg e, bnd1_e, cget (by omega) (by omega), tb_v h (by omega), s1]
      exact ih n2 (k + 1) _ (by omega) (by omega) (by omega)
theorem mix_out (h : TB r f i (r' (2 * i)) (r' (2 * i + 1)) (f' i)) {lbr : Nat → Int64 → Int64 × (Nat → Int32)} : ∀ n1 n2 k : Nat, ∀ s : Int64, k ≤ r' (2 * i) → r' (2 * i) - k < n1 → r' (2 * i) - k < n2 → D_X10_digest_61 r' f' lbr i n2 k s = lbr (i + 1) (D_X3_mix_25 r q f i n1 (nI k) s) := by
  have hb := h.2.1
  intro n1
  induction n1 with
  | zero => intro n2 k s _ h; omega
  | succ n1 ih =>
    intro n2 k s hk h1 h2
    obtain ⟨n2, rfl⟩ : ∃ m, n2 = m + 1 := ⟨n2 - 1, by omega⟩
    rw [D_X3_mix_25_s, D_X10_digest_61_s, h.1.1, h.1.2.1]
    by_cases e : r' (2 * i) ≤ k
    · rw [if_pos (ile e (by omega)), if_pos e]
    · rw [if_neg (nile e (by omega)), if_neg e, show gap (nI (r' (2 * i + 1))) 0 = r' (2 * i + 1) - 0 from gapN (b := 0) (by omega) (by omega)]
      obtain ⟨V, g1, g2⟩ := mix_in (q := q) h (show k < r' (2 * i) by omega) (lbc := D_X3_mix_25 r q f i n1) (lbr := D_X10_digest_61 r' f' lbr i n2) (r' (2 * i + 1) - 0 + 1) (r' (2 * i + 1) + 1 - 0 + 1) 0 s (by omega) (by omega) (by omega)
      refine (g2.trans ?_).trans (congrArg (lbr (i + 1)) g1.symm)
      exact ih n2 (k + 1) V (by omega) (by omega) (by omega)
theorem dgs_l (h : Rl r q f r' f' q') : ∀ n1 n2 k : Nat, ∀ s : Int64, k ≤ 4 → 4 - k < n1 → 4 - k < n2 → (D_X5_digest_30 r q f n1 (nI k) s).1 = (D_X10_digest_120 r' f' q' n2 k s).1 := by
  intro n1
  induction n1 with
  | zero => intro n2 k s _ h; omega
  | succ n1 ih =>
    intro n2 k s hk h1 h2
    obtain ⟨n2, rfl⟩ : ∃ m, n2 = m + 1 := ⟨n2 - 1, by omega⟩
    rw [D_X5_digest_30_s, D_X10_digest_120_s]
    by_cases e : 4 ≤ k
    · rw [if_pos (show (3 : Int32) < nI k from nI_lt (a := 3) (by omega) (by omega)), if_pos e]
      obtain ⟨r2, q2, f2, e1⟩ := first_1 h
      rw [e1, bnd4_e, bnd1_e, now_1 h, if_neg one0, if_neg one0]
    · rw [if_neg (show ¬ (3 : Int32) < nI k from nI_nlt (a := 3) (by omega) (by omega)), if_neg e, bnd1_e, bnd1_e, s1, house_eq h (ilt0 (by omega)) (show nI k ≤ (3 : Int32) from ile (b := 3) (by omega) (by omega)) (t := 0)]
      exact ih n2 (k + 1) _ (by omega) (by omega) (by omega)
theorem dgs_o (h : Rl r q f r' f' q') : ∀ n1 n2 k : Nat, ∀ s : Int64, k ≤ 4 → 4 - k < n1 → 4 - k < n2 → (D_X5_digest_6 r q f n1 (nI k) s).1 = (D_X10_digest_21 r' f' q' n2 k s).1 := by
  intro n1
  induction n1 with
  | zero => intro n2 k s _ h; omega
  | succ n1 ih =>
    intro n2 k s hk h1 h2
    obtain ⟨n2, rfl⟩ : ∃ m, n2 = m + 1 := ⟨n2 - 1, by omega⟩
    rw [D_X5_digest_6_s, D_X10_digest_21_s]
    by_cases e : 4 ≤ k
    · rw [if_pos (show (4 : Int32) ≤ nI k from ile (a := 4) e (by omega)), if_pos e]
      have hg : gap1 3 0 = 4 := by decide +kernel
      rw [hg]
      exact dgs_l h (4 + 1) (4 + 1 - 0 + 1) 0 s (by omega) (by omega) (by omega)
    · have hT := h.1 k (by omega)
      have hb := hT.2.1
      rw [if_neg (show ¬ (4 : Int32) ≤ nI k from nile (a := 4) e (by omega)), if_neg e, bnd1_e, nI_clamp (show k < 2 ^ 31 by omega), s1]
      unfold D_X3_mix
      rw [hT.1.1, hT.1.2.1, show gap (nI (r' (2 * k))) 0 = r' (2 * k) - 0 from gapN (b := 0) (by omega) (by omega)]
      rw [mix_out (q := q) hT (lbr := D_X10_digest_21 r' f' q' n2) (r' (2 * k) - 0 + 1) (r' (2 * k) + 1 - 0 + 1) 0 _ (by omega) (by omega) (by omega)]
      exact ih n2 (k + 1) _ (by omega) (by omega) (by omega)
theorem an_digest (h : Rl r q f r' f' q') : (D_X5_digest r q f).1 = (D_X10_digest r' f' q').1 := by
  unfold D_X5_digest D_X10_digest
  rw [show gap 4 0 = 4 from gapN (a := 4) (b := 0) (by omega) (by omega)]
  exact dgs_o h (4 + 1) (4 + 1 - 0 + 1) 0 8032 (by omega) (by omega) (by omega)
end PF5
