/-! ===== isSolvable of both sides ===== -/
section PSB
variable {r q r1 q1 : Nat → Int32} {f f1 : Nat → Nat → Int64} {r' : Nat → Nat} {f' : Nat → Nat → Int64} {q' Q : Nat → Int32} {R C i n m a b : Nat} {g G u w fo fu : Nat → Int64} {x x' y z p v t : Int32}
theorem rkv_l (hR : R ≤ 4) : ∀ n k s : Nat, s ≤ 4 → k ≤ min R C + 1 → min R C + 1 - k < n → ∃ t, t ≤ 4 ∧ D_X7_rank_4 R C G n k s = nI t := by
  intro n
  induction n with
  | zero => intro k s _ _ h; omega
  | succ n ih =>
    intro k s hs hk hn
    rw [D_X7_rank_4_s]
    show ∃ t, t ≤ 4 ∧ (if min R C < k then nI s else bnd1 (D_X7_divisor R C G (nI k)) (fun x14 => if lg_cmp x14 0 = 0 then D_X7_rank_4 R C G n (k + 1) s else D_X7_rank_4 R C G n (k + 1) k)) = nI t
    by_cases e : min R C < k
    · rw [if_pos e]; exact ⟨s, hs, rfl⟩
    · rw [if_neg e, bnd1_e]
      by_cases z : lg_cmp (D_X7_divisor R C G (nI k)) 0 = 0
      · rw [if_pos z]; exact ih (k + 1) s hs (by omega) (by omega)
      · rw [if_neg z]; exact ih (k + 1) k (by omega) (by omega) (by omega)
/-- RANK is a small number -/
theorem rkv (hR : R ≤ 4) : ∃ t, t ≤ 4 ∧ D_X7_rank R C G = nI t := rkv_l hR _ 1 0 (by omega) (by omega) (by omega)
/-- a table with another column behind its own, so far -/
def wd (C b y : Nat) (g u : Nat → Int64) : Nat → Int64 := fun k => if k % 5 = C ∧ k / 5 < y then g (k / 5 * 5 + b) else u k
theorem wd_s (hC : C < 5) : vp_updL (wd C b a g u) (a * 5 + C) (g (a * 5 + b)) = wd C b (a + 1) g u := by
  funext k
  unfold vp_updL wd
  by_cases e : k = a * 5 + C
  · subst e
    rw [if_pos rfl, if_pos (by omega), show (a * 5 + C) / 5 = a by omega]
  · rw [if_neg e]
    by_cases h : k % 5 = C ∧ k / 5 < a
    · rw [if_pos h, if_pos (by omega)]
    · rw [if_neg h, if_neg (by omega)]
theorem wd0 : wd C b 0 g u = u := by funext k; unfold wd; rw [if_neg (by omega)]
/-- the end of it: ranks and divisors -/
noncomputable def slv (r q : Nat → Int32) (f : Nat → Nat → Int64) (n : Nat) : CRs := bnd1 (D_X0_findRank r q f n) (fun x80 => bnd1 (D_X0_findRank r q f 4) (fun x82 => if x82 = x80 then bnd1 (D_X0_findDivisor r q f 4 x80) (fun x85 => bnd1 (D_X0_findDivisor r q f n x80) (fun x87 => if lg_cmp x85 x87 = 0 then ("", 1, r, q, f) else ("", 0, r, q, f))) else ("", 0, r, q, f)))
theorem sl_c (hn : n < 4) (hm : m < 4) (hb : b < 5) (hR : R ≤ 4) (hC : C ≤ 4) (h1 : r (2 * n) = nI R) (h2 : r (2 * n + 1) = nI C) {r4 : Nat → Int32} (h3 : r4 (2 * n) = nI R) (h4 : r4 (2 * n + 1) = nI C) : ∀ k y : Nat, y ≤ R → R - y < k → D_X5_isSolvable_134 (nI b) n m r4 q k (nI y) (va_up f 4 (wd C b y (f m) u)) = slv r4 q (va_up f 4 (wd C b R (f m) u)) n := by
  intro k
  induction k with
  | zero => intro y _ h; omega
  | succ k ih =>
    intro y hy hk
    rw [D_X5_isSolvable_134_s, h3, h4]
    by_cases e : R ≤ y
    · rw [if_pos (ile e (by omega)), show y = R by omega]
      rfl
    · rw [if_neg (nile e (by omega)), bnd1_e, bnd1_e, cget (by omega) hb, vu_ne (show m ≠ 4 by omega), cset (by omega) (by omega), vu_self, vu2, wd_s (by omega), s1]
      exact ih (y + 1) (by omega) (by omega)
/-- the reference's wide table, number by number -/
def ws (C : Nat) (fo fu : Nat → Int64) : Nat → Int64 := fun k => if C ≤ k % 5 then fu (k / 5 * 5 + 0) else fo k
theorem ws_in (hC : C ≤ 4) {lb : Nat → (Nat → Int64) → Int32} {h0 : Nat → Int64} : ∀ k y : Nat, y ≤ C + 1 → C + 1 - y < k → D_X10_isByDivisors_31 C fo fu lb a k y (tv a y (C + 1) (ws C fo fu) h0) = lb (a + 1) (tv (a + 1) 0 (C + 1) (ws C fo fu) h0) := by
  intro k
  induction k with
  | zero => intro y _ h; omega
  | succ k ih =>
    intro y hy hk
    rw [D_X10_isByDivisors_31_s]
    by_cases e : C + 1 ≤ y
    · rw [if_pos e, show y = C + 1 by omega, tv_r]
    · rw [if_neg e]
      have hw : vp_updL (tv a y (C + 1) (ws C fo fu) h0) (a * 5 + y) (ws C fo fu (a * 5 + y)) = tv a (y + 1) (C + 1) (ws C fo fu) h0 := tv_s (by omega) (by omega)
      have h5 : (a * 5 + y) % 5 = y := by omega
      have h6 : (a * 5 + y) / 5 = a := by omega
      by_cases c : C ≤ y
      · rw [if_pos c, D_X10_isByDivisors_j69_s]
        have : ws C fo fu (a * 5 + y) = fu (a * 5 + 0) := by unfold ws; rw [if_pos (by omega), h6]
        rw [← this, hw]
        exact ih (y + 1) (by omega) (by omega)
      · rw [if_neg c, D_X10_isByDivisors_j69_s]
        have : ws C fo fu (a * 5 + y) = fo (a * 5 + y) := by unfold ws; rw [if_neg (by omega)]
        rw [← this, hw]
        exact ih (y + 1) (by omega) (by omega)
/-- the reference's end of it -/
noncomputable def slr (R C : Nat) (fo fb : Nat → Int64) : Int32 := bnd1 (D_X7_rank R C fo) (fun x74 => bnd1 (D_X7_rank R (C + 1) fb) (fun x76 => if x76 = x74 then bnd1 (D_X7_divisor R (C + 1) fb x74) (fun x79 => bnd1 (D_X7_divisor R C fo x74) (fun x81 => if lg_cmp x79 x81 = 0 then 1 else 0)) else 0))
theorem ws_out (hC : C ≤ 4) {h0 : Nat → Int64} : ∀ k y : Nat, y ≤ R → R - y < k → D_X10_isByDivisors_20 R C fo fu k y (tv y 0 (C + 1) (ws C fo fu) h0) = slr R C fo (tv R 0 (C + 1) (ws C fo fu) h0) := by
  intro k
  induction k with
  | zero => intro y _ h; omega
  | succ k ih =>
    intro y hy hk
    rw [D_X10_isByDivisors_20_s]
    by_cases e : R ≤ y
    · rw [if_pos e, show y = R by omega]
      rfl
    · rw [if_neg e, ws_in hC _ 0 (by omega) (by omega)]
      exact ih (y + 1) (by omega) (by omega)
theorem ws_eq (hC : C ≤ 4) {Ru Cu : Nat} : D_X10_isByDivisors R C fo Ru Cu fu = slr R C fo (tv R 0 (C + 1) (ws C fo fu) (fun _ => 0)) := by
  unfold D_X10_isByDivisors
  have h := ws_out (R := R) (C := C) (fo := fo) (fu := fu) hC (h0 := fun _ => 0) (R + 1 - 0 + 1) 0 (by omega) (by omega)
  rw [tv00] at h
  exact h
theorem bq20 : Bq 20 0 := by unfold Bq; decide +kernel
theorem sl_eq (hn : n < 4) (hb : 1 ≤ R ∧ R ≤ 4 ∧ 1 ≤ C ∧ C ≤ 4) (h1 : r (2 * n) = nI R) (h2 : r (2 * n + 1) = nI C) (h3 : r (2 * 4) = nI R) (h4 : r (2 * 4 + 1) = nI (C + 1)) {gb : Nat → Int64} (hf : ∀ k, k < R * 5 → f n k = G k) (hg : ∀ k, k < R * 5 → f 4 k = gb k) (hG : ∀ k, k < R * 5 → Bq 20 (G k)) (hgb : ∀ k, k < R * 5 → Bq 20 (gb k)) : ∃ X, slv r q f n = ("", X, r, q, f) ∧ slr R C G gb = X ∧ (X = 0 ∨ X = 1) := by
  unfold slv slr
  rw [rank_eq hb.1 hb.2.1 hb.2.2.1 (by omega) h1 h2 hf hG, rank_eq (C := C + 1) hb.1 hb.2.1 (by omega) (by omega) h3 h4 hg hgb]
  obtain ⟨t, ht, e⟩ := rkv (R := R) (C := C) (G := G) hb.2.1
  rw [e]
  simp only [bnd1_e]
  by_cases c : D_X7_rank R (C + 1) gb = nI t
  · rw [if_pos c, if_pos c, (divs_eq hb.1 hb.2.1 (by omega) h1 h2 hf hG (show t ≤ 5 by omega)).1, (divs_eq (C := C + 1) hb.1 hb.2.1 (by omega) h3 h4 hg hgb (show t ≤ 5 by omega)).1]
    by_cases d : lg_cmp (D_X7_divisor R (C + 1) gb (nI t)) (D_X7_divisor R C G (nI t)) = 0
    · rw [if_pos d, if_pos d]; exact ⟨1, rfl, rfl, Or.inr rfl⟩
    · rw [if_neg d, if_neg d]; exact ⟨0, rfl, rfl, Or.inl rfl⟩
  · rw [if_neg c, if_neg c]
    exact ⟨0, rfl, rfl, Or.inl rfl⟩
set_option maxHeartbeats 4000000 in
set_option maxRecDepth 100000 in
theorem an_isSolvable (h : Rl r q f r' f' q') {u : Int32} : AW cs3 (D_X5_isSolvable r q f y z u v) (D_X10_isSolvable r' f' q' y z u v) := by
  unfold D_X5_isSolvable D_X10_isSolvable
  rcases ntb (r := r) (q := q) (f := f) (p := y) with ⟨n, hn, rfl, h1, h2, h3⟩ | ⟨E, x1, x2, h1, h2⟩
  · rw [h1, h2]
    dsimp only [bnd2, bnd1]
    rw [if_pos rfl, if_neg one0]
    rcases ntb (r := r) (q := q) (f := f) (p := z) with ⟨m, hm, rfl, g1, g2, g3⟩ | ⟨E, x1, x2, g1, g2⟩
    · rw [g1]
      dsimp only
      rw [if_pos rfl]
      have hE : ("java/lang/IllegalArgumentException", (2 : Int32)) ∈ cs3 := List.mem_cons_of_mem _ List.mem_cons_self
      have hS : ("java/lang/IllegalStateException", (3 : Int32)) ∈ cs3 := List.mem_cons_of_mem _ (List.mem_cons_of_mem _ List.mem_cons_self)
      rcases hcol h hm (c := 1) (by decide) (k := u) with ⟨b, rfl, b1, b2, b3, b4, b5⟩ | ⟨b3, b4⟩
      · have hT := h.1 n hn
        have hb := hT.2.1
        have hM := h.1 m hm
        have hbm := hM.2.1
        rw [b3, b4, nx1, if_pos rfl, if_neg one0, h3, g3, b5, hT.1.1, hM.1.1]
        have hj0 : D_X5_isSolvable_j53 r q f (nI b) v n m 0 = ("java/lang/IllegalArgumentException", 0, r, q, f) := by
          unfold D_X5_isSolvable_j53
          rw [bnd1_e, ia0, if_neg e_ne2]
        by_cases e1 : r' (2 * n) = r' (2 * m)
        · rw [if_pos (congrArg nI e1), if_pos e1]
          by_cases v0 : v = 0
          · subst v0
            rw [if_pos rfl, if_neg (show ¬ (0 : Int32) < 0 by decide), if_pos (show (0 : Int32) ≤ 1 by decide), if_neg zero1]
            unfold D_X5_isSolvable_j53
            rw [bnd1_e, ia1, if_pos rfl, if_pos rfl]
            obtain ⟨G, j1, j2, K, w1, v1, u1, w2, v2, u2, hG, d1, d2, d3⟩ := dwalk_eq (q := q) hT.1 (show n ≠ 8 by omega) (show n ≠ 9 by omega) (show n ≠ 10 by omega) hb.1 hb.2.1 hb.2.2.1 hb.2.2.2 (sw_of hT) hT.2.2.2
            rw [d1, d2]
            dsimp only [bnd3, bnd7]
            have hRd : ∀ s, Rl (rs (rs (rs r 8 (r' (2 * n)) (r' (2 * n + 1))) 9 (r' (2 * n)) (r' (2 * n))) 10 (r' (2 * n + 1)) (r' (2 * n + 1))) (va_up q 1 s) (ds f w1 v1 u1) r' f' q' := fun s => Rl_dwalk h
            rcases hG with rfl | rfl
            · obtain ⟨rfl, rfl, rfl, hSd, hK⟩ := d3 rfl
              have hq : va_up q 1 0 1 = 0 := vu_self
              rw [if_pos hq, th3_000]
              dsimp only
              rw [if_pos rfl, rco, rpd (by omega)]
              rw [← e1]
              have hRd0 := hRd 0
              obtain ⟨r4, f4, q1, q2, q3, q4⟩ := div_eq (r := rs (rs (rs r 8 (r' (2 * n)) (r' (2 * n + 1))) 9 (r' (2 * n)) (r' (2 * n))) 10 (r' (2 * n + 1)) (r' (2 * n + 1))) (q := va_up q 1 0) (f := ds f w2 v2 u2) (R := r' (2 * n)) (C := r' (2 * n + 1)) (m := m) (w := w2) (v := v2) (g := f' m) (b := b) (K := K) hb ⟨(rs_R' (by decide)).trans ((rs_R' (by decide)).trans rs_R), (rs_C' (by decide)).trans ((rs_C' (by decide)).trans rs_C)⟩ ⟨(rs_R' (by decide)).trans rs_R, (rs_C' (by decide)).trans rs_C⟩ ((hRd0.1 m hm).1.1.trans (congrArg nI e1.symm)) hm (fun k hk => by rw [ds8, cpl hk]) (fun k hk => by rw [ds9, cpl hk]) (fun k hk => tb_v (hRd0.1 m hm) (by omega)) (by omega) hK
              unfold D_X5_isSolvable_j85
              rw [bnd1_e, is1, if_pos rfl]
              rcases q4 with ⟨o1, o2, o3⟩ | ⟨o1, o2⟩
              · rcases rgo (R := r' (2 * n)) (C := r' (2 * n + 1)) (w := w2) (F := pd (r' (2 * n)) (r' (2 * n)) 0 1 v2 (co (r' (2 * n)) b (f' m) (fun _ => 0)) (fun _ => 0)) (K := K) (s := j1) (t := j2) (d := 0) with ⟨_, l2⟩ | ⟨⟨j, l1, l2⟩, _⟩
                · rw [o2, l2, if_neg one0, bnd4_e]
                  exact aw_v rfl
                · exact absurd (o1 j l1) l2
              · rcases rgo (R := r' (2 * n)) (C := r' (2 * n + 1)) (w := w2) (F := pd (r' (2 * n)) (r' (2 * n)) 0 1 v2 (co (r' (2 * n)) b (f' m) (fun _ => 0)) (fun _ => 0)) (K := K) (s := j1) (t := j2) (d := 0) with ⟨l1, _⟩ | ⟨_, l2⟩
                · obtain ⟨j, l3, l4⟩ := o1
                  exact absurd (l1 j l3) l4
                · rw [o2, l2, if_pos rfl, bnd4_e]
                  exact aw_v rfl
            · have hq : ¬ va_up q 1 1 1 = 0 := by rw [vu_self]; decide
              rw [if_neg hq, th3_001]
              dsimp only
              rw [if_neg one0]
              unfold D_X5_isSolvable_j85
              rw [bnd1_e, is0, if_neg e_ne3]
              exact aw_e hS
          · by_cases v1 : v = 1
            · subst v1
              rw [if_neg v0, if_pos rfl, if_neg (show ¬ (1 : Int32) < 0 by decide), if_pos (show (1 : Int32) ≤ 1 by decide), if_pos rfl]
              unfold D_X5_isSolvable_j53
              rw [bnd1_e, ia1, if_pos rfl, if_neg v0, hT.1.1, hT.1.2.1, s1, crs hb.1 hb.2.1 (by omega) (by omega), bnd3_e]
              rw [cto (i := 4) (j := n) (R := r' (2 * n)) (C := r' (2 * n + 1) + 1) (Rj := r' (2 * n)) (Cj := r' (2 * n + 1)) (by omega) rs_R ((rs_R' (by omega)).trans hT.1.1) rs_C ((rs_C' (by omega)).trans hT.1.2.1) hb.2.1 hb.2.1 (by omega) (by omega), bnd1_e, vu2, (rs_R' (by omega)).trans hT.1.1, show gap (nI (r' (2 * n))) 0 = r' (2 * n) - 0 from gapN (b := 0) (by omega) (by omega), vu_self, vu_ne (show n ≠ 4 by omega)]
              rw [Nat.min_self, Nat.min_eq_right (show r' (2 * n + 1) ≤ r' (2 * n + 1) + 1 by omega)]
              have hsl : D_X5_isSolvable_134 (nI b) n m (rs r 4 (r' (2 * n)) (r' (2 * n + 1) + 1)) q (r' (2 * n) - 0 + 1) 0 (va_up f 4 (tv (r' (2 * n)) 0 (r' (2 * n + 1)) (f n) (zf 20 (f 4)))) = slv (rs r 4 (r' (2 * n)) (r' (2 * n + 1) + 1)) q (va_up f 4 (wd (r' (2 * n + 1)) b (r' (2 * n)) (f m) (tv (r' (2 * n)) 0 (r' (2 * n + 1)) (f n) (zf 20 (f 4))))) n := by
                have hk := sl_c (q := q) (f := f) (u := tv (r' (2 * n)) 0 (r' (2 * n + 1)) (f n) (zf 20 (f 4))) hn hm (show b < 5 by omega) hb.2.1 hb.2.2.2 hT.1.1 hT.1.2.1 (r4 := rs r 4 (r' (2 * n)) (r' (2 * n + 1) + 1)) ((rs_R' (by omega)).trans hT.1.1) ((rs_C' (by omega)).trans hT.1.2.1) (r' (2 * n) - 0 + 1) 0 (by omega) (by omega)
                rw [wd0] at hk
                exact hk
              rw [hsl]
              rw [rco, ws_eq hb.2.2.2]
              have hgb : ∀ k, k < r' (2 * n) * 5 → va_up f 4 (wd (r' (2 * n + 1)) b (r' (2 * n)) (f m) (tv (r' (2 * n)) 0 (r' (2 * n + 1)) (f n) (zf 20 (f 4)))) 4 k = tv (r' (2 * n)) 0 (r' (2 * n + 1) + 1) (ws (r' (2 * n + 1)) (f' n) (co (r' (2 * m)) b (f' m) (fun _ => 0))) (fun _ => 0) k := fun k hk => by
                rw [vu_self]
                unfold wd
                by_cases c1 : k % 5 = r' (2 * n + 1)
                · rw [if_pos ⟨c1, by omega⟩, tv_p (by omega)]
                  unfold ws co
                  rw [if_pos (by omega), if_pos (by omega), tb_v hM (by omega)]
                  congr 1
                  omega
                · rw [if_neg (fun h => c1 h.1)]
                  by_cases c2 : k % 5 < r' (2 * n + 1)
                  · rw [tv_p (by omega), tv_p (by omega)]
                    unfold ws
                    rw [if_neg (by omega)]
                    exact tb_v hT hk
                  · rw [tv_n (by omega), tv_n (by omega)]
                    unfold zf
                    rw [if_pos (by omega)]
              have hbb : ∀ k, k < r' (2 * n) * 5 → Bq 20 (tv (r' (2 * n)) 0 (r' (2 * n + 1) + 1) (ws (r' (2 * n + 1)) (f' n) (co (r' (2 * m)) b (f' m) (fun _ => 0))) (fun _ => 0) k) := fun k hk => by
                by_cases c1 : k % 5 < r' (2 * n + 1) + 1
                · rw [tv_p (by omega)]
                  unfold ws co
                  by_cases c2 : r' (2 * n + 1) ≤ k % 5
                  · rw [if_pos c2, if_pos (by omega)]
                    exact tb_b hM _ (by omega)
                  · rw [if_neg c2]
                    exact tb_b hT k hk
                · rw [tv_n (by omega)]
                  exact bq20
              obtain ⟨X, k1, k2, k3⟩ := sl_eq (q := q) (r := rs r 4 (r' (2 * n)) (r' (2 * n + 1) + 1)) (f := va_up f 4 (wd (r' (2 * n + 1)) b (r' (2 * n)) (f m) (tv (r' (2 * n)) 0 (r' (2 * n + 1)) (f n) (zf 20 (f 4))))) (G := f' n) (gb := tv (r' (2 * n)) 0 (r' (2 * n + 1) + 1) (ws (r' (2 * n + 1)) (f' n) (co (r' (2 * m)) b (f' m) (fun _ => 0))) (fun _ => 0)) hn hb ((rs_R' (by omega)).trans hT.1.1) ((rs_C' (by omega)).trans hT.1.2.1) rs_R rs_C (fun k hk => by rw [vu_ne (show n ≠ 4 by omega)]; exact tb_v hT hk) hgb (tb_b hT) hbb
              rw [k1, k2]
              rcases k3 with rfl | rfl
              · rw [if_pos rfl]; exact aw_v rfl
              · rw [if_neg one0]; exact aw_v rfl
            · rw [if_neg v0, if_neg v1, hj0]
              by_cases c0 : v < 0
              · rw [if_pos c0]; exact aw_e hE
              · rw [if_neg c0]
                have c1 : ¬ v ≤ 1 := fun hz => by
                  obtain ⟨k, hk, rfl⟩ := nI_of c0
                  have hk1 : k ≤ 1 := (nleP hk (by omega : 1 < 2 ^ 31)).mp hz
                  rcases (show k = 0 ∨ k = 1 by omega) with rfl | rfl
                  · exact v0 rfl
                  · exact v1 rfl
                rw [if_neg c1]; exact aw_e hE
        · rw [if_neg (fun e => e1 (nI_inj (by omega) (by omega) e)), if_neg e1, hj0]
          exact aw_e hE
      · rw [b3, b4, nx0, if_neg e_ne, if_pos rfl]
        exact aw_e List.mem_cons_self
    · rw [g1, (isT_0 g2).2.1]
      dsimp only
      rw [if_neg x1, if_pos rfl, x2]
      exact aw_e List.mem_cons_self
  · rw [h1, h2]
    dsimp only [bnd2, bnd1]
    rw [if_neg x1, if_pos rfl, x2]
    exact aw_e List.mem_cons_self
end PSB
