/-! ===== What is answered: minor, divisor, rank ===== -/
section PAO
variable {r q r1 q1 : Nat → Int32} {f f1 : Nat → Nat → Int64} {r' : Nat → Nat} {f' : Nat → Nat → Int64} {q' Q : Nat → Int32} {R C i n m a b : Nat} {x x' y z p u v t : Int32}
theorem tb_b {g : Nat → Int64} (h : TB r f i R C g) : ∀ j, j < R * 5 → Bq 20 (g j) := fun j hj => sm_b (h.2.2.1 j hj)
set_option maxHeartbeats 4000000 in
set_option maxRecDepth 100000 in
theorem an_minor (h : Rl r q f r' f' q') : AW cs2 (D_X5_minor r q f y z u) (D_X10_minor r' f' q' y z u) := by
  unfold D_X5_minor D_X10_minor
  rcases ntb (r := r) (q := q) (f := f) (p := y) with ⟨n, hn, rfl, h1, h2, h3⟩ | ⟨E, x1, x2, h1, h2⟩
  · rw [h1, h2]
    dsimp only [bnd2, bnd1, nm]
    rw [if_pos rfl, if_neg one0, h3]
    have hT := h.1 n hn
    have hb := hT.2.1
    have hE : ("java/lang/IllegalArgumentException", (2 : Int32)) ∈ cs2 := List.mem_cons_of_mem _ List.mem_cons_self
    have hj0 : ∀ {z u : Int32}, D_X5_minor_j44 r q f z u n 0 = ("java/lang/IllegalArgumentException", 0, r, q, f) := fun {z u} => by
      unfold D_X5_minor_j44
      rw [bnd1_e, ia0, if_neg e_ne2]
    rw [hT.1.1, hT.1.2.1, fpw _ (by omega), fpw _ (by omega)]
    by_cases a1 : z < 1
    · rw [if_pos a1, if_pos a1, hj0]; exact aw_e hE
    · rw [if_neg a1, if_neg a1]
      rcases shq (R := r' (2 * n)) (by omega) a1 with ⟨b1, b2, x, b3, b4, rfl⟩ | ⟨b1, b2⟩
      · rw [if_neg b2]
        by_cases a2 : u < 1
        · rw [if_pos a2, if_pos a2, hj0]; exact aw_e hE
        · rw [if_neg a2, if_neg a2, if_pos b1]
          rcases shq (R := r' (2 * n + 1)) (by omega) a2 with ⟨d1, d2, w, d3, d4, rfl⟩ | ⟨d1, d2⟩
          · rw [if_neg d2, if_pos d1]
            have x32 := p32 (show r' (2 * n) ≤ 5 by omega) b4
            have w32 := p32 (show r' (2 * n + 1) ≤ 5 by omega) d4
            unfold D_X5_minor_j44
            rw [bnd1_e, ia1, if_pos rfl]
            dsimp only [nm]
            rw [fbc x x32, fbc w w32, nI_clamp (show x < 2 ^ 31 by omega), nI_clamp (show w < 2 ^ 31 by omega)]
            have p1 := pcl5 x x32
            have p2 := pcl5 w w32
            by_cases c : pc5 x = pc5 w
            · have c2 := congrArg nI c
              rw [if_pos c2, if_pos c2]
              unfold D_X5_minor_j63
              rw [bnd1_e, ia1, if_pos rfl, bnd1_e, min_eq (R := r' (2 * n)) (C := r' (2 * n + 1)) (G := f' n) hb.2.1 (by omega) (fun k hk => tb_v hT hk) b3 b4 d4 c]
              exact aw_v rfl
            · have c2 : ¬ nI (pc5 x) = nI (pc5 w) := fun h => c (nI_inj (by omega) (by omega) h)
              rw [if_neg c2, if_neg c2]
              unfold D_X5_minor_j63
              rw [bnd1_e, ia0, if_neg e_ne2]
              exact aw_e hE
          · rw [if_pos d2, hj0, if_neg d1]; exact aw_e hE
      · rw [if_pos b2, hj0, if_neg b1, ite_self]; exact aw_e hE
  · rw [h1, h2]
    dsimp only [bnd2, bnd1]
    rw [if_neg x1, if_pos rfl, x2]
    exact aw_e List.mem_cons_self
set_option maxHeartbeats 4000000 in
set_option maxRecDepth 100000 in
theorem an_divisor (h : Rl r q f r' f' q') : AW cs2 (D_X5_divisor r q f y z) (D_X10_divisor r' f' q' y z) := by
  unfold D_X5_divisor D_X10_divisor
  rcases ntb (r := r) (q := q) (f := f) (p := y) with ⟨n, hn, rfl, h1, h2, h3⟩ | ⟨E, x1, x2, h1, h2⟩
  · rw [h1, h2]
    dsimp only [bnd2, bnd1, nm]
    rw [if_pos rfl, if_neg one0, h3]
    have hT := h.1 n hn
    have hb := hT.2.1
    have hE : ("java/lang/IllegalArgumentException", (2 : Int32)) ∈ cs2 := List.mem_cons_of_mem _ List.mem_cons_self
    have hj0 : ∀ {z : Int32}, D_X5_divisor_j31 r q f z n 0 = ("java/lang/IllegalArgumentException", 0, r, q, f) := fun {z} => by
      unfold D_X5_divisor_j31
      rw [bnd1_e, ia0, if_neg e_ne2]
    by_cases a1 : z < 0
    · rw [if_pos a1, if_pos a1, hj0]; exact aw_e hE
    · rw [if_neg a1, if_neg a1, hT.1.1, hT.1.2.1]
      obtain ⟨k, hk, rfl⟩ := nI_of a1
      have hmin : (if nI (r' (2 * n + 1)) < nI (r' (2 * n)) then nI (r' (2 * n + 1)) else nI (r' (2 * n))) = nI (min (r' (2 * n)) (r' (2 * n + 1))) := by
        by_cases c : r' (2 * n + 1) < r' (2 * n)
        · rw [if_pos (nI_lt c (by omega)), Nat.min_eq_right (by omega)]
        · rw [if_neg (nI_nlt (by omega) (by omega)), Nat.min_eq_left (by omega)]
      rw [hmin]
      by_cases c : k ≤ min (r' (2 * n)) (r' (2 * n + 1))
      · rw [if_neg (nI_nlt (by omega) (by omega)), if_neg (nI_nlt (by omega) (by omega)), if_pos (ile c (by omega))]
        unfold D_X5_divisor_j31
        rw [bnd1_e, ia1, if_pos rfl, bnd1_e, (divs_eq (R := r' (2 * n)) (C := r' (2 * n + 1)) (G := f' n) hb.1 hb.2.1 (by omega) hT.1.1 hT.1.2.1 (fun k hk => tb_v hT hk) (tb_b hT) (by omega)).1]
        exact aw_v rfl
      · rw [if_neg (nile c hk)]
        by_cases c1 : r' (2 * n) < k
        · rw [if_pos (nI_lt c1 hk), hj0]; exact aw_e hE
        · rw [if_neg (nI_nlt (by omega) (by omega)), if_pos (nI_lt (by omega) hk), hj0]; exact aw_e hE
  · rw [h1, h2]
    dsimp only [bnd2, bnd1]
    rw [if_neg x1, if_pos rfl, x2]
    exact aw_e List.mem_cons_self
/-- rows that are not 0 -/
theorem cfr_in {w v0 : Nat → Int64} {lbc : Int32 → Int32 → Int32} {lbr : Nat → Nat → Int32} (hC2 : r (2 * 6 + 1) = nI C) (hC : C ≤ 5) (ha : a < 4) {s : Nat} : ∀ n1 n2 k : Nat, ∀ x : Int32, k ≤ C → C - k < n1 → C - k < n2 → (x = 0 ∨ x = 1) → ∃ S, S ≤ s + 1 ∧ D_X4_countFilledRows_20 r q (cs f w v0) lbc (nI a) (nI s) n1 (nI k) x = lbc (nI (a + 1)) (nI S) ∧ D_X8_rank_20 C w lbr a s n2 k x = lbr (a + 1) S := by
  intro n1
  induction n1 with
  | zero => intro n2 k x _ h; omega
  | succ n1 ih =>
    intro n2 k x hk h1 h2 hx
    obtain ⟨n2, rfl⟩ : ∃ m, n2 = m + 1 := ⟨n2 - 1, by omega⟩
    rw [D_X4_countFilledRows_20_s, D_X8_rank_20_s, hC2]
    by_cases e : C ≤ k
    · rw [if_pos (ile e (by omega)), if_pos e]
      rcases hx with rfl | rfl
      · rw [if_pos rfl, if_pos rfl, s1, Int32.add_zero]
        exact ⟨s, by omega, rfl, rfl⟩
      · rw [if_neg one0, if_neg one0, s1, s1]
        exact ⟨s + 1, Nat.le_refl _, rfl, rfl⟩
    · rw [if_neg (nile e (by omega)), if_neg e, bnd1_e, cget ha (by omega), cs6, cpl (by omega), s1]
      by_cases z : lg_cmp (w (a * 5 + k)) 0 = 0
      · rw [if_pos z, if_pos z]
        rcases hx with rfl | rfl
        · rw [if_pos rfl]
          exact ih n2 (k + 1) 0 (by omega) (by omega) (by omega) (Or.inl rfl)
        · rw [if_neg one0]
          exact ih n2 (k + 1) 1 (by omega) (by omega) (by omega) (Or.inr rfl)
      · rw [if_neg z, if_neg z]
        rcases hx with rfl | rfl
        · rw [if_pos rfl]
          exact ih n2 (k + 1) 1 (by omega) (by omega) (by omega) (Or.inr rfl)
        · rw [if_neg one0]
          exact ih n2 (k + 1) 1 (by omega) (by omega) (by omega) (Or.inr rfl)
theorem cfr_l {w v0 : Nat → Int64} (hR2 : r (2 * 6) = nI R) (hC2 : r (2 * 6 + 1) = nI C) (hR : R ≤ 4) (hC : C ≤ 5) : ∀ n1 n2 k s : Nat, k ≤ R → R - k < n1 → R - k < n2 → D_X4_countFilledRows_4 r q (cs f w v0) n1 (nI k) (nI s) = D_X8_rank_4 R C w n2 k s := by
  intro n1
  induction n1 with
  | zero => intro n2 k s _ h; omega
  | succ n1 ih =>
    intro n2 k s hk h1 h2
    obtain ⟨n2, rfl⟩ : ∃ m, n2 = m + 1 := ⟨n2 - 1, by omega⟩
    rw [D_X4_countFilledRows_4_s, D_X8_rank_4_s, hR2, hC2]
    by_cases e : R ≤ k
    · rw [if_pos (ile e (by omega)), if_pos e]
    · rw [if_neg (nile e (by omega)), if_neg e, show gap (nI C) 0 = C - 0 from gapN (b := 0) (by omega) (by omega)]
      obtain ⟨S, _, g1, g2⟩ := cfr_in (q := q) (f := f) (w := w) (v0 := v0) (lbc := D_X4_countFilledRows_4 r q (cs f w v0) n1) (lbr := D_X8_rank_4 R C w n2) hC2 hC (show k < 4 by omega) (s := s) (C - 0 + 1) (C + 1 - 0 + 1) 0 0 (by omega) (by omega) (by omega) (Or.inl rfl)
      refine g1.trans (Eq.trans ?_ g2.symm)
      exact ih n2 (k + 1) S (by omega) (by omega) (by omega)
theorem cfr {w v0 : Nat → Int64} {s t : Int32} (hR2 : r (2 * 6) = nI R) (hC2 : r (2 * 6 + 1) = nI C) (hR : R ≤ 4) (hC : C ≤ 5) : D_X4_countFilledRows r q (cs f w v0) = D_X8_rank R C v0 w s t := by
  unfold D_X4_countFilledRows D_X8_rank
  rw [hR2, show gap (nI R) 0 = R - 0 from gapN (b := 0) (by omega) (by omega)]
  exact cfr_l hR2 hC2 hR hC (R - 0 + 1) (R + 1 - 0 + 1) 0 0 (by omega) (by omega) (by omega)
set_option maxHeartbeats 4000000 in
set_option maxRecDepth 100000 in
theorem an_rank (h : Rl r q f r' f' q') : AW cs3 (D_X5_rank r q f y z) (D_X10_rank r' f' q' y z) := by
  unfold D_X5_rank D_X10_rank
  rcases ntb (r := r) (q := q) (f := f) (p := y) with ⟨n, hn, rfl, h1, h2, h3⟩ | ⟨E, x1, x2, h1, h2⟩
  · rw [h1, h2]
    dsimp only [bnd2, bnd1]
    rw [if_pos rfl, if_neg one0, h3]
    have hT := h.1 n hn
    have hb := hT.2.1
    have hE : ("java/lang/IllegalArgumentException", (2 : Int32)) ∈ cs3 := List.mem_cons_of_mem _ List.mem_cons_self
    by_cases a0 : z = 0
    · subst a0
      rw [if_pos rfl, if_neg (show ¬ (0 : Int32) < 0 by decide), if_pos (show (0 : Int32) ≤ 1 by decide), if_pos rfl]
      unfold D_X5_rank_j20
      rw [bnd1_e, ia1, if_pos rfl, if_pos rfl, bnd1_e, rank_eq (R := r' (2 * n)) (C := r' (2 * n + 1)) (G := f' n) hb.1 hb.2.1 hb.2.2.1 (by omega) hT.1.1 hT.1.2.1 (fun k hk => tb_v hT hk) (tb_b hT)]
      exact aw_v rfl
    · by_cases a1 : z = 1
      · subst a1
        rw [if_neg a0, if_pos rfl, if_neg (show ¬ (1 : Int32) < 0 by decide), if_pos (show (1 : Int32) ≤ 1 by decide), if_neg a0]
        unfold D_X5_rank_j20
        rw [bnd1_e, ia1, if_pos rfl, if_neg a0]
        obtain ⟨G, s1, w1, v1, w2, v2, hG, e1, e2, e3⟩ := walk_eq (q := q) hT.1 (show n ≠ 6 by omega) (show n ≠ 7 by omega) hb.1 hb.2.1 hb.2.2.1 (by omega) (fun k hk => sm_ng (hT.2.2.1 k hk)) hT.2.2.2
        rw [e1, e2]
        dsimp only [bnd3, bnd4]
        rcases hG with rfl | rfl
        · obtain ⟨rfl, rfl, hS⟩ := e3 rfl
          rw [if_pos (show va_up q 0 0 0 = 0 from vu_self), th3_000]
          unfold D_X5_rank_j55
          rw [bnd1_e, is1, if_pos rfl, bnd1_e, if_pos rfl, cfr (R := r' (2 * n)) (C := r' (2 * n + 1)) (s := s1) (t := 0) ((rs_R' (by decide)).trans rs_R) ((rs_C' (by decide)).trans rs_C) hb.2.1 (by omega)]
          exact aw_v rfl
        · rw [if_neg (show ¬ va_up q 0 1 0 = 0 by rw [vu_self]; decide), th3_001]
          unfold D_X5_rank_j55
          rw [bnd1_e, is0, if_neg e_ne3, if_neg one0]
          exact aw_e (List.mem_cons_of_mem _ (List.mem_cons_of_mem _ List.mem_cons_self))
      · have hj0 : D_X5_rank_j20 r q f z n 0 = ("java/lang/IllegalArgumentException", 0, r, q, f) := by
          unfold D_X5_rank_j20
          rw [bnd1_e, ia0, if_neg e_ne2]
        rw [if_neg a0, if_neg a1, hj0]
        by_cases b0 : z < 0
        · rw [if_pos b0]; exact aw_e hE
        · rw [if_neg b0]
          have b1 : ¬ z ≤ 1 := fun hz => by
            obtain ⟨k, hk, rfl⟩ := nI_of b0
            have hk1 : k ≤ 1 := (nleP hk (by omega : 1 < 2 ^ 31)).mp hz
            rcases (show k = 0 ∨ k = 1 by omega) with rfl | rfl
            · exact a0 rfl
            · exact a1 rfl
          rw [if_neg b1]; exact aw_e hE
  · rw [h1, h2]
    dsimp only [bnd2, bnd1]
    rw [if_neg x1, if_pos rfl, th2_11, th2_10, ite_self, ite_self, x2]
    exact aw_e List.mem_cons_self
end PAO
