/-- both sides have ended: great both, or the same -/
def Fn (R C : Nat) (q : Nat → Int32) (f : Nat → Nat → Int64) (CL : Int32 × (Nat → Int32) × (Nat → Nat → Int64)) (RF : Int32 × (Nat → Int64) × (Nat → Int64) × Int32 × Int32) : Prop :=
  ∃ (G xc xr s1 : Int32) (w1 v1 w2 v2 : Nat → Int64), (G = 0 ∨ G = 1) ∧ CL = (xc, va_up q 0 G, cs f w1 v1) ∧ RF = (xr, v2, w2, s1, G) ∧ (G = 0 → xc = xr ∧ (xr = 0 ∨ xr = 1) ∧ w2 = w1 ∧ v2 = v1 ∧ Sf R C w1 v1)
section PRD
variable {r q : Nat → Int32} {f : Nat → Nat → Int64} {w v : Nat → Int64} {R C i j rr c m : Nat} {s : Int32} {t : Int64}
/-- a pass: an end, or a next one -/
theorem pass_eq (hS : SH r R C) (hR : R ≤ 4) (hC : C ≤ 5) (hr : rr < R) (hc : c < C) (hq : q 0 = 0) (hF : Sf R C w v) {M : Int32} (hM : ¬ M = 0) {n1 n2 y : Nat} (hy : y + 1 < 1000000) :
    Fn R C q f (D_X4_clearColumn_2 r (nI rr) (nI c) (n1 + 2) (nI y) q (cs f w v)) (D_X8_isCleared_2 R C rr c (n2 + 2) M v w s 0) ∨
    (∃ (w1 v1 : Nat → Int64) (s1 M1 : Int32) (m : Nat), ¬ M1 = 0 ∧ Sf R C w1 v1 ∧ (rr ≤ m ∧ m < R ∧ ¬ w (m * 5 + c) = 0 ∧ ∀ i, rr ≤ i → i < R → w (i * 5 + c) ≠ 0 → na (w (m * 5 + c)) ≤ na (w (i * 5 + c))) ∧ 0 < (w1 (rr * 5 + c)).toInt ∧ na (w1 (rr * 5 + c)) = na (w (m * 5 + c)) ∧
      (∀ a, rr < a → a < R → w1 (a * 5 + c) = rmf (if a = m then w (rr * 5 + c) else w (a * 5 + c)) (w1 (rr * 5 + c))) ∧ (∃ a, rr < a ∧ a < R ∧ ¬ w1 (a * 5 + c) = 0) ∧
      D_X4_clearColumn_2 r (nI rr) (nI c) (n1 + 2) (nI y) q (cs f w v) = D_X4_clearColumn_2 r (nI rr) (nI c) (n1 + 1) (nI (y + 1)) q (cs f w1 v1) ∧ D_X8_isCleared_2 R C rr c (n2 + 2) M v w s 0 = D_X8_isCleared_2 R C rr c (n2 + 1) M1 v1 w1 s1 0) := by
  have hcl : D_X4_clearColumn_2 r (nI rr) (nI c) (n1 + 2) (nI y) q (cs f w v) = if 0 ≤ D_X8_least R C v w s 0 rr c then D_X4_clearColumn_43 r (nI rr) (nI c) (D_X4_clearColumn_2 r (nI rr) (nI c) (n1 + 1)) (nI y) (R - (rr + 1) + 1) (nI (rr + 1)) q (D_X4_bring r q (cs f w v) (D_X8_least R C v w s 0 rr c) (nI rr) (nI c)) else (0, q, cs f w v) := by
    rw [show n1 + 2 = (n1 + 1) + 1 from rfl, D_X4_clearColumn_2_s, if_neg (show ¬ (1000000 : Int32) ≤ nI y from nile (a := 1000000) (by omega) (by omega)), if_pos hq]
    simp only [bnd1]
    rw [le_eq (s := s) hS hR (by omega) hr, hS.1, s1, gapN (by omega) (by omega)]
  have hl := rle (C := C) (v := v) (s := s) hF.1.1 hR (show c < 5 by omega) hr
  have hrf : D_X8_isCleared_2 R C rr c (n2 + 2) M v w s 0 = if D_X8_least R C v w s 0 rr c = -1 then (0, v, w, s, 0) else (if (D_X8_least R C v w s 0 rr c).toNatClampNeg = rr then D_X8_isCleared_j63 R C rr c (D_X8_isCleared_2 R C rr c (n2 + 1)) 0 v w s else D_X8_isCleared_j63 R C rr c (D_X8_isCleared_2 R C rr c (n2 + 1)) 0 (xr R (D_X8_least R C v w s 0 rr c).toNatClampNeg rr v) (xr C (D_X8_least R C v w s 0 rr c).toNatClampNeg rr w) (-s)) := by
    rw [show n2 + 2 = (n2 + 1) + 1 from rfl, D_X8_isCleared_2_s, if_neg hM, if_pos rfl]
    rfl
  rw [hcl, hrf]
  generalize D_X8_least R C v w s 0 rr c = x at hl
  rcases hl with ⟨rfl, hz⟩ | ⟨m, rfl, hm1, hm2, hm3, hm4⟩
  · rw [if_neg (by decide), if_pos rfl]
    exact Or.inl ⟨0, 0, 0, s, w, v, w, v, Or.inl rfl, by rw [vq0 hq], rfl, fun _ => ⟨rfl, Or.inl rfl, rfl, rfl, hF⟩⟩
  · rw [if_pos (Int32.not_lt.mp (ilt0 (by omega))), if_neg (nI_m1 (by omega)), nI_clamp (by omega)]
    obtain ⟨w1, v1, s2, h1, h2, h3, h4, h5, h6⟩ := br_eq (q := q) (f := f) (s := s) hS hR hC hm1 hm2 hc hF hm3
    rw [h1, h2, D_X8_isCleared_j102_s]
    rcases L109 (r := r) (f := f) (s := s2) (lbc := D_X4_clearColumn_2 r (nI rr) (nI c) (n1 + 1)) (yy := nI y) (lbr := D_X8_isCleared_2 R C rr c (n2 + 1)) hS hR hC hr hc (R - (rr + 1) + 1) (R + 1 - (rr + 1) + 1) (rr + 1) 0 w1 v1 q (by omega) (by omega) (by omega) (by omega) hq h3 h4 with ⟨M1, w3, v3, w4, v4, k1, k2⟩ | ⟨M1, w3, v3, k1, k2, k3, k4, k5, k6⟩
    · rw [k1, k2, r2g, D_X4_clearColumn_j76_s, if_neg (by rw [vu_self]; decide)]
      refine Or.inl ⟨1, 0, 1, s2, w3, v3, w4, v4, Or.inr rfl, ?_, rfl, fun h => absurd h (by decide)⟩
      rw [D_X4_clearColumn_2_s]
      split
      · rfl
      · rw [if_neg (by rw [vu_self]; decide)]
    · rw [k1, k2, D_X4_clearColumn_j76_s, if_pos hq]
      simp only [bnd1]
      have hpv : w3 (rr * 5 + c) = w1 (rr * 5 + c) := k4 rr (by omega)
      rcases cb (r := r) (q := q) (f := f) (w := w3) (v := v3) (c := c) hS hR (by omega) hr with ⟨b1, b2⟩ | ⟨⟨a, b1, b2, b3⟩, b4⟩
      · rw [b2, if_neg (by decide)]
        have hM1 : M1 = 0 := k6.mpr ⟨rfl, fun a ha hb => b1 a ha hb⟩
        rw [hM1, D_X8_isCleared_2_s, if_pos rfl, show gap (nI rr) 0 = rr - 0 from gapN (b := 0) (by omega) (by omega)]
        obtain ⟨G, w5, v5, w6, v6, g1, g2, g3, g4⟩ := L164 (r := r) (f := f) (s := s2) hS hR hC hr hc (rr - 0 + 1) (rr + 1 - 0 + 1) 0 w3 v3 q (by omega) (by omega) (by omega) hq k3 (by rw [hpv]; exact h4)
        exact Or.inl ⟨G, 1, 1, s2, w5, v5, w6, v6, g1, g2, g3, fun h => ⟨rfl, Or.inr rfl, (g4 h).1, (g4 h).2.1, (g4 h).2.2⟩⟩
      · rw [b4, if_pos rfl]
        have hM1 : ¬ M1 = 0 := fun h => b3 ((k6.mp h).2 a b1 b2)
        refine Or.inr ⟨w3, v3, s2, M1, m, hM1, k3, ⟨hm1, hm2, hm3, hm4⟩, by rw [hpv]; exact h4, by rw [hpv, h5], fun a' ha hb => ?_, ⟨a, by omega, b2, b3⟩, by rw [s1], rfl⟩
        rw [k5 a' (by omega) hb, h6 a' ha hb, hpv]
/-- the least of the column's part is below 2 ^ K, or there is none -/
def Lt (R rr c K : Nat) (w : Nat → Int64) : Prop := (∀ i, rr ≤ i → i < R → w (i * 5 + c) = 0) ∨ ∃ i, rr ≤ i ∧ i < R ∧ ¬ w (i * 5 + c) = 0 ∧ na (w (i * 5 + c)) < 2 ^ K
theorem rmf_mod {x p : Int64} (hx : 0 ≤ x.toInt) (hp : 0 < p.toInt) : (rmf x p).toInt = x.toInt % p.toInt := by
  have h0 : ¬ p = 0 := nzp hp
  rcases rmf_rem (x := x) hp with ⟨e, _⟩ | ⟨e, h⟩
  · rw [e, rem_int h0, Int.tmod_eq_emod_of_nonneg hx]
  · rw [rem_int h0, Int.tmod_eq_emod_of_nonneg hx] at h
    have := Int.emod_nonneg x.toInt (show p.toInt ≠ 0 by omega)
    omega
theorem na_pos {x : Int64} (h : 0 ≤ x.toInt) : (na x : Int) = x.toInt := by unfold na; omega
/-- all passes: some sixty at the most -/
theorem all_eq (hS : SH r R C) (hR : R ≤ 4) (hC : C ≤ 5) (hr : rr < R) (hc : c < C) (hq : q 0 = 0) : ∀ K n1 n2 y : Nat, ∀ (w v : Nat → Int64) (s M : Int32), ¬ M = 0 → Sf R C w v → y + 2 * K + 3 < 1000000 → 2 * K + 2 ≤ n1 → 2 * K + 2 ≤ n2 → Lt R rr c K w →
    Fn R C q f (D_X4_clearColumn_2 r (nI rr) (nI c) n1 (nI y) q (cs f w v)) (D_X8_isCleared_2 R C rr c n2 M v w s 0) := by
  intro K
  induction K with
  | zero =>
    intro n1 n2 y w v s M hM hF hy h1 h2 hL
    obtain ⟨n1, rfl⟩ : ∃ n, n1 = n + 2 := ⟨n1 - 2, by omega⟩
    obtain ⟨n2, rfl⟩ : ∃ n, n2 = n + 2 := ⟨n2 - 2, by omega⟩
    rcases pass_eq (r := r) (f := f) (s := s) hS hR hC hr hc hq hF hM (n1 := n1) (n2 := n2) (y := y) (by omega) with h | ⟨w1, v1, s1, M1, m, a1, a2, ⟨b1, b2, b3, b4⟩, _⟩
    · exact h
    · rcases hL with h | ⟨i, h1, h2, h3, h4⟩
      · exact absurd (h m b1 b2) b3
      · exact absurd (na0.mp (show na (w (i * 5 + c)) = 0 by omega)) h3
  | succ K ih =>
    intro n1 n2 y w v s M hM hF hy h1 h2 hL
    obtain ⟨n1, rfl⟩ : ∃ n, n1 = n + 2 := ⟨n1 - 2, by omega⟩
    obtain ⟨n2, rfl⟩ : ∃ n, n2 = n + 2 := ⟨n2 - 2, by omega⟩
    rcases pass_eq (r := r) (f := f) (s := s) hS hR hC hr hc hq hF hM (n1 := n1) (n2 := n2) (y := y) (by omega) with h | ⟨w1, v1, s1, M1, m, a1, a2, ⟨b1, b2, b3, b4⟩, a3, a4, a5, ⟨a, a6, a7, a8⟩, a9, a10⟩
    · exact h
    · rw [a9, a10]
      obtain ⟨n1, rfl⟩ : ∃ n, n1 = n + 1 := ⟨n1 - 1, by omega⟩
      obtain ⟨n2, rfl⟩ : ∃ n, n2 = n + 1 := ⟨n2 - 1, by omega⟩
      -- the pivot now, P < 2 ^ (K + 1)
      have hP : na (w1 (rr * 5 + c)) < 2 ^ (K + 1) := by
        rw [a4]
        rcases hL with h | ⟨i, h1, h2, h3, h4⟩
        · exact absurd (h m b1 b2) b3
        · exact Nat.lt_of_le_of_lt (b4 i h1 h2 h3) h4
      rcases pass_eq (r := r) (f := f) (s := s1) hS hR hC hr hc hq a2 a1 (n1 := n1) (n2 := n2) (y := y + 1) (by omega) with h | ⟨w2, v2, s2, M2, m2, c1, c2, ⟨d1, d2, d3, d4⟩, c3, c4, c5, ⟨a', c6, c7, c8⟩, c9, c10⟩
      · exact h
      · rw [c9, c10]
        refine ih _ _ _ w2 v2 s2 M2 c1 c2 (by omega) (by omega) (by omega) (Or.inr ?_)
        -- all below are less than the pivot of their pass
        have hlt : ∀ b, rr < b → b < R → 0 ≤ (w1 (b * 5 + c)).toInt ∧ (w1 (b * 5 + c)).toInt < (w1 (rr * 5 + c)).toInt := fun b hb1 hb2 => by rw [a5 b hb1 hb2]; exact rmf_int a3
        have hlt2 : ∀ b, rr < b → b < R → 0 ≤ (w2 (b * 5 + c)).toInt ∧ (w2 (b * 5 + c)).toInt < (w2 (rr * 5 + c)).toInt := fun b hb1 hb2 => by rw [c5 b hb1 hb2]; exact rmf_int c3
        have e1 := na_pos (Int.le_of_lt a3)
        have e2 := na_pos (Int.le_of_lt c3)
        have hpow : 2 ^ (K + 1) = 2 ^ K * 2 := Nat.pow_succ 2 K
        have hm2 : m2 ≠ rr := by
          intro e
          have h5 := d4 a (by omega) a7 a8
          rw [e] at h5
          have h6 := hlt a a6 a7
          have h7 : na (w1 (a * 5 + c)) < na (w1 (rr * 5 + c)) := by
            have := na_pos h6.1
            omega
          omega
        have h5 := hlt m2 (by omega) d2
        have e3 := na_pos h5.1
        by_cases hK : na (w2 (rr * 5 + c)) < 2 ^ K
        · have h6 := hlt2 a' c6 c7
          have h7 := na_pos h6.1
          exact ⟨a', by omega, c7, c8, by omega⟩
        · -- the elder pivot is left with less
          have h6 : w2 (m2 * 5 + c) = rmf (w1 (rr * 5 + c)) (w2 (rr * 5 + c)) := by rw [c5 m2 (by omega) d2, if_pos rfl]
          have h7 := rmf_mod (Int.le_of_lt a3) c3
          have h8 : (w1 (rr * 5 + c)).toInt % (w2 (rr * 5 + c)).toInt = (w1 (rr * 5 + c)).toInt - (w2 (rr * 5 + c)).toInt := by
            rw [← Int.sub_emod_right, Int.emod_eq_of_lt (by omega) (by omega)]
          refine ⟨m2, by omega, d2, ?_, ?_⟩
          · intro e
            rw [h6] at e
            rw [e, h8, show (0 : Int64).toInt = 0 from rfl] at h7
            omega
          · have h9 : 0 ≤ (w2 (m2 * 5 + c)).toInt := (hlt2 m2 (by omega) d2).1
            have h10 := na_pos h9
            rw [h6] at h10
            rw [h6]
            omega
end PRD
