section PSM
variable {r q r1 q1 : Nat → Int32} {f f1 : Nat → Nat → Int64} {r' r1' : Nat → Nat} {f' f1' : Nat → Nat → Int64} {q' : Nat → Int32} {R C i n m R2 C2 a b c : Nat} {g G : Nat → Int64} {x x' y z : Int32}
/-- a form goes into a table -/
theorem form_ok (h : Rl r q f r' f' q') (hm : m < 4) (h1 : r (2 * i) = nI R) (h2 : r (2 * i + 1) = nI C) (hb : 1 ≤ R ∧ R ≤ 4 ∧ 1 ≤ C ∧ C ≤ 4) (hg : ∀ k, k < 20 → f i k = g k) (hz : zo R C g) (hlo : ∀ k, k < R * 5 → -9223372036854775807 ≤ (g k).toInt) : Ok (bnd4 (D_X5_settleForm r q f i m) (fun x r q f => ("", x, r, q, f))) (bnd4 (D_X10_become r' f' (va_up q' 3 0) (nI m) R C g) (fun x r f q => (x, r, f, q))) := by
  unfold D_X5_settleForm D_X10_become
  dsimp only [bnd1, bnd3, bnd4]
  rw [nI_clamp (show m < 2 ^ 31 by omega)]
  rcases ciw_sm (q := q) (f := f) h1 h2 hb.2.1 (by omega) (fun k hk => by rw [hg k (by omega)]; exact hlo k hk) (fun k hk e => by rw [hg k (by omega)]; exact hz k (by omega) (Or.inr e)) with ⟨w1, w2⟩ | ⟨w1, w2⟩
  · have hs : ∀ k, k < R * 5 → sm (g k) := fun k hk => by rw [← hg k (by omega)]; exact w1 k hk
    rcases ril (R := R) (C := C) (f := g) with ⟨a1, a2⟩ | ⟨⟨k, a1, a2⟩, a3⟩
    · have hTB : TB (rs r m R C) (va_up f m (cp 20 (f i) (f m))) m R C g := ⟨⟨rs_R, rs_C, fun k hk => by
        rw [vu_self, cpl hk, hg k hk]
        unfold cp
        split
        · rfl
        · exact hz k hk (Or.inl (by omega))⟩, hb, hs, fun k hk e => hz k (by omega) (Or.inr e)⟩
      rw [w2, a2, if_neg one0, if_neg one0, cbl h1 h2]
      unfold D_X5_tellDone
      dsimp only
      rw [tb_cf hTB, rot]
      refine ok_do (Rl_set h (fun i _ e => ro e) hTB ⟨rfl, rfl, rfl⟩) ?_
      rw [vu_self, show (va_up (va_up r' (2 * m) R) (2 * m + 1) C) (2 * m) = R from pr_R]
    · exact absurd (hs k a1) a2
  · rcases ril (R := R) (C := C) (f := g) with ⟨a1, a2⟩ | ⟨⟨k, a1, a2⟩, a3⟩
    · exact absurd (fun k hk => by rw [hg k (by omega)]; exact a1 k hk) w1
    · rw [w2, a3, if_pos rfl, if_pos rfl]
      unfold D_X5_tellRefused
      dsimp only
      exact ok_no h
/-- the sum of two tables, number by number -/
def su (p : Int32) (g h : Nat → Int64) : Nat → Int64 := fun k => if p = 0 then g k + h k else g k + -(h k)
theorem su_at {p : Int32} {g h : Nat → Int64} {k : Nat} : su p g h k = g k + (if p = 0 then h k else -(h k)) := by
  unfold su
  split
  · rfl
  · rfl
theorem csu_in {p : Int32} {lb : Int32 → (Nat → Nat → Int64) → CRs} {u : Nat → Int64} (hn : n ≠ 4) (hm : m ≠ 4) (hC : r (2 * n + 1) = nI C) (h4 : C ≤ 4) (ha : a < 4) : ∀ k y : Nat, y ≤ C → C - y < k → D_X5_sum_86 p n m r q lb (nI a) k (nI y) (va_up f 4 (tv a y C (su p (f n) (f m)) u)) = lb (nI (a + 1)) (va_up f 4 (tv (a + 1) 0 C (su p (f n) (f m)) u)) := by
  intro k
  induction k with
  | zero => intro y _ h; omega
  | succ k ih =>
    intro y hy hk
    rw [D_X5_sum_86_s, hC]
    by_cases e : C ≤ y
    · rw [if_pos (ile e (by omega)), s1, show y = C by omega, tv_r]
    · rw [if_neg (nile e (by omega))]
      dsimp only [bnd1]
      rw [cget ha (by omega), cget ha (by omega), vu_ne hn, vu_ne hm]
      have hv := su_at (p := p) (g := f n) (h := f m) (k := a * 5 + y)
      have hS : ∀ z0 : Int64, z0 = (if p = 0 then f m (a * 5 + y) else -(f m (a * 5 + y))) → D_X5_sum_j136 r q (nI a) (D_X5_sum_86 p n m r q lb (nI a) k) (nI y) (va_up f 4 (tv a y C (su p (f n) (f m)) u)) (f n (a * 5 + y)) z0 = lb (nI (a + 1)) (va_up f 4 (tv (a + 1) 0 C (su p (f n) (f m)) u)) := by
        intro z0 hz
        unfold D_X5_sum_j136
        dsimp only [bnd1]
        rw [cset ha (by omega), vu_self, vu2, s1, hz, ← hv, tv_s (by omega) (by omega)]
        exact ih (y + 1) (by omega) (by omega)
      by_cases hp : p = 0
      · rw [if_pos hp]; exact hS _ (by rw [if_pos hp])
      · rw [if_neg hp]; exact hS _ (by rw [if_neg hp])
theorem csu_out {p : Int32} {u : Nat → Int64} {w : Nat} (hn : n ≠ 4) (hm : m ≠ 4) (hR : r (2 * n) = nI R) (hC : r (2 * n + 1) = nI C) (hR4 : R ≤ 4) (h4 : C ≤ 4) : ∀ k y : Nat, y ≤ R → R - y < k → D_X5_sum_73 p n m w r q k (nI y) (va_up f 4 (tv y 0 C (su p (f n) (f m)) u)) = bnd4 (D_X5_settleForm r q (va_up f 4 (tv R 0 C (su p (f n) (f m)) u)) 4 w) (fun x r q f => ("", x, r, q, f)) := by
  intro k
  induction k with
  | zero => intro y _ h; omega
  | succ k ih =>
    intro y hy hk
    rw [D_X5_sum_73_s, hR, hC]
    by_cases e : R ≤ y
    · rw [if_pos (ile e (by omega)), show y = R by omega]
    · rw [if_neg (nile e (by omega)), show gap (nI C) 0 = C - 0 from gapN (b := 0) (by omega) (by omega)]
      refine Eq.trans (csu_in (n := n) (m := m) (f := f) hn hm hC h4 (by omega) (C - 0 + 1) 0 (by omega) (by omega)) ?_
      exact ih (y + 1) (by omega) (by omega)
theorem rsu {p t : Int32} {w : Int32} {u : Nat → Int64} (hn : n < 4) (hm : m < 4) (hu : ∀ k, k < r' (2 * n) * 5 → u k = f' n k) : ∀ k y : Nat, y ≤ r' (2 * n) * 5 → r' (2 * n) * 5 - y < k → D_X10_sum_93 r' f' q' (nI n) (nI m) p w t k y (cp y (su p (f' n) (f' m)) u) = bnd4 (D_X10_become r' f' (va_up q' 3 t) w (r' (2 * n)) (r' (2 * n + 1)) (cp (r' (2 * n) * 5) (su p (f' n) (f' m)) u)) (fun x r f q => (x, r, f, q)) := by
  intro k
  induction k with
  | zero => intro y _ h; omega
  | succ k ih =>
    intro y hy hk
    rw [D_X10_sum_93_s, nI_clamp (show n < 2 ^ 31 by omega), nI_clamp (show m < 2 ^ 31 by omega)]
    by_cases e : r' (2 * n) * 5 ≤ y
    · rw [if_pos e, show y = r' (2 * n) * 5 by omega]
    · rw [if_neg e]
      have e1 : cp y (su p (f' n) (f' m)) u y = f' n y := (if_neg (by omega)).trans (hu y (by omega))
      rw [e1]
      have hv := su_at (p := p) (g := f' n) (h := f' m) (k := y)
      by_cases hp : p = 0
      · rw [if_pos hp]
        rw [if_pos hp] at hv
        rw [← hv, cp_s]
        exact ih (y + 1) (by omega) (by omega)
      · rw [if_neg hp]
        rw [if_neg hp] at hv
        rw [← hv, cp_s]
        exact ih (y + 1) (by omega) (by omega)
theorem su_lo {p : Int32} {u v : Int64} (hu : sm u) (hv : sm v) : -9223372036854775807 ≤ (if p = 0 then u + v else u + -v).toInt := by
  have h1 := sm_int hu
  have h2 := sm_int hv
  split
  · rw [Int64.toInt_add, Int.bmod_eq_of_le (by omega) (by omega)]; omega
  · rw [Int64.toInt_add, neg_int (sm_ng hv), Int.bmod_eq_of_le (by omega) (by omega)]; omega
theorem sum_eq (h : Rl r q f r' f' q') {y z p u : Int32} : Ok (D_X5_sum r q f y z p u) (D_X10_sum r' f' q' y z p u) := by
  unfold D_X5_sum D_X10_sum
  rcases ntb (r := r) (q := q) (f := f) (p := y) with ⟨n, hn, rfl, h1, h2, h3⟩ | ⟨E, x1, x2, h1, h2⟩
  · rw [h1, h2]
    dsimp only [bnd2, bnd1]
    rw [if_pos rfl, if_neg one0, th1_1]
    rcases ntb (r := r) (q := q) (f := f) (p := z) with ⟨m, hm, rfl, g1, g2, g3⟩ | ⟨E, x1, x2, g1, g2⟩
    · rw [g1, g2]
      dsimp only
      rw [if_pos rfl, if_neg one0]
      rcases ntb (r := r) (q := q) (f := f) (p := u) with ⟨w, hw, rfl, k1, k2, k3⟩ | ⟨E, x1, x2, k1, k2⟩
      · rw [k1, k2]
        dsimp only
        have hT := h.1 n hn
        have hb := hT.2.1
        have hM := h.1 m hm
        have hbm := hM.2.1
        rw [if_pos rfl, if_neg one0, th1_0, h3, g3, hT.1.1, hT.1.2.1, hM.1.1, hM.1.2.1]
        have hno : Ok (bnd3 (D_X5_tellRefused r q f) (fun x q f => ("", x, r, q, f))) (-9, r', f', va_up (va_up q' 3 0) 1 ((va_up q' 3 0) 1 + 1)) := by
          unfold D_X5_tellRefused
          dsimp only [bnd3]
          exact ok_no h
        by_cases e1 : r' (2 * n) = r' (2 * m)
        · rw [if_pos (congrArg nI e1), if_pos e1]
          by_cases e2 : r' (2 * n + 1) = r' (2 * m + 1)
          · rw [if_pos (congrArg nI e2), if_pos e2, crs hb.1 hb.2.1 hb.2.2.1 (by omega), rcp]
            dsimp only [bnd3]
            have hR : rs r 4 (r' (2 * n)) (r' (2 * n + 1)) (2 * n) = nI (r' (2 * n)) := (rs_R' (by omega)).trans hT.1.1
            have hC : rs r 4 (r' (2 * n)) (r' (2 * n + 1)) (2 * n + 1) = nI (r' (2 * n + 1)) := (rs_C' (by omega)).trans hT.1.2.1
            rw [hR, show gap (nI (r' (2 * n))) 0 = r' (2 * n) - 0 from gapN (b := 0) (by omega) (by omega)]
            have c1 := csu_out (r := rs r 4 (r' (2 * n)) (r' (2 * n + 1))) (q := q) (f := f) (p := p) (n := n) (m := m) (w := w) (u := zf 20 (f 4)) (by omega) (by omega) hR hC hb.2.1 hb.2.2.2 (r' (2 * n) - 0 + 1) 0 (by omega) (by omega)
            rw [tv00] at c1
            have c2 := rsu (r' := r') (f' := f') (q' := q') (p := p) (t := 0) (w := nI w) (u := gb r' f' n) hn hm (fun k hk => if_pos hk) (r' (2 * n) * 5 + 1 - 0 + 1) 0 (by omega) (by omega)
            rw [cp0] at c2
            rw [show (0 : Int32) = nI 0 from rfl, c1]
            rw [show (nI 0 : Int32) = 0 from rfl, c2]
            have hz : zo (r' (2 * n)) (r' (2 * n + 1)) (cp (r' (2 * n) * 5) (su p (f' n) (f' m)) (gb r' f' n)) := by
              intro k hk e
              show cp _ _ _ k = 0
              unfold cp
              by_cases e3 : k < r' (2 * n) * 5
              · rw [if_pos e3, su_at, hT.2.2.2 k e3 (by omega), hM.2.2.2 k (by omega) (by omega)]
                split
                · rfl
                · rfl
              · rw [if_neg e3]; exact if_neg e3
            refine form_ok (Rl_keep h (fun i hi => ro (by omega)) ⟨rfl, rfl, rfl⟩) hw rs_R rs_C hb (fun k hk => ?_) hz (fun k hk => ?_)
            · rw [vu_self]
              by_cases e3 : k / 5 < r' (2 * n) ∧ k % 5 < r' (2 * n + 1)
              · rw [tv_p e3, su_at, tb_v hT (by omega), tb_v hM (by omega)]
                exact ((if_pos (show k < r' (2 * n) * 5 by omega)).trans su_at).symm
              · rw [tv_n e3, hz k hk (by omega)]
                exact if_pos hk
            · rw [show cp (r' (2 * n) * 5) (su p (f' n) (f' m)) (gb r' f' n) k = su p (f' n) (f' m) k from if_pos hk]
              exact su_lo (hT.2.2.1 k hk) (hM.2.2.1 k (by omega))
          · rw [if_neg (fun e => e2 (nI_inj (by omega) (by omega) e)), if_neg e2]
            exact hno
        · rw [if_neg (fun e => e1 (nI_inj (by omega) (by omega) e)), if_neg e1]
          exact hno
      · rw [k1, k2]
        dsimp only
        rw [if_neg x1, if_pos rfl, x2]
        exact ok_e1 h
    · rw [g1, g2]
      dsimp only
      rw [if_neg x1, if_pos rfl, x2]
      exact ok_e1 h
  · rw [h1, h2]
    dsimp only [bnd2, bnd1]
    rw [if_neg x1, if_pos rfl, th1_1, x2]
    exact ok_e1 h
theorem dot_sm {g h : Nat → Int64} {N : Nat} (hN : N ≤ 4) (hg : ∀ k, k < N → sm (g (a * 5 + k))) (hh : ∀ k, k < N → sm (h (k * 5 + b))) : -(400 * N : Int) ≤ (dot N g h a b).toInt ∧ (dot N g h a b).toInt ≤ 400 * N := by
  have H : ∀ j, j ≤ N → -(400 * j : Int) ≤ (dot j g h a b).toInt ∧ (dot j g h a b).toInt ≤ 400 * j := by
    intro j
    induction j with
    | zero => intro _; exact ⟨by show -(400 * 0 : Int) ≤ 0; omega, by show (0 : Int) ≤ 400 * 0; omega⟩
    | succ j ih =>
      intro hj
      have ⟨i1, i2⟩ := ih (by omega)
      have h1 := sm_int (hg j (by omega))
      have h2 := sm_int (hh j (by omega))
      have p1 : -400 ≤ (g (a * 5 + j)).toInt * (h (j * 5 + b)).toInt ∧ (g (a * 5 + j)).toInt * (h (j * 5 + b)).toInt ≤ 400 := by
        have hb1 : (g (a * 5 + j)).toInt.natAbs ≤ 20 := by omega
        have hb2 : (h (j * 5 + b)).toInt.natAbs ≤ 20 := by omega
        have e := Nat.mul_le_mul hb1 hb2
        rw [← Int.natAbs_mul] at e
        omega
      rw [dot_s, Int64.toInt_add, Int64.toInt_mul]
      rw [Int.bmod_eq_of_le (n := (g (a * 5 + j)).toInt * (h (j * 5 + b)).toInt) (by omega) (by omega)]
      rw [Int.bmod_eq_of_le (by omega) (by omega)]
      omega
  exact H N (Nat.le_refl _)
theorem dot_cg {g h g2 h2 : Nat → Int64} : ∀ N : Nat, (∀ k, k < N → g (a * 5 + k) = g2 (a * 5 + k)) → (∀ k, k < N → h (k * 5 + b) = h2 (k * 5 + b)) → dot N g h a b = dot N g2 h2 a b := by
  intro N
  induction N with
  | zero => intro _ _; rfl
  | succ N ih =>
    intro e1 e2
    rw [dot_s, dot_s, ih (fun k hk => e1 k (by omega)) (fun k hk => e2 k (by omega)), e1 N (by omega), e2 N (by omega)]
theorem pd_p {g h u : Nat → Int64} {N k : Nat} (e : k / 5 < a ∧ k % 5 < c) : pd N a 0 c g h u k = dot N g h (k / 5) (k % 5) := if_pos (Or.inl e)
theorem pd_n {g h u : Nat → Int64} {N k : Nat} (e : ¬ (k / 5 < a ∧ k % 5 < c)) : pd N a 0 c g h u k = u k := if_neg (by omega)
theorem multiply_eq (h : Rl r q f r' f' q') {y z u : Int32} : Ok (D_X5_multiply r q f y z u) (D_X10_multiply r' f' q' y z u) := by
  unfold D_X5_multiply D_X10_multiply
  rcases ntb (r := r) (q := q) (f := f) (p := y) with ⟨n, hn, rfl, h1, h2, h3⟩ | ⟨E, x1, x2, h1, h2⟩
  · rw [h1, h2]
    dsimp only [bnd2, bnd1]
    rw [if_pos rfl, if_neg one0, th1_1]
    rcases ntb (r := r) (q := q) (f := f) (p := z) with ⟨m, hm, rfl, g1, g2, g3⟩ | ⟨E, x1, x2, g1, g2⟩
    · rw [g1, g2]
      dsimp only
      rw [if_pos rfl, if_neg one0]
      rcases ntb (r := r) (q := q) (f := f) (p := u) with ⟨w, hw, rfl, k1, k2, k3⟩ | ⟨E, x1, x2, k1, k2⟩
      · rw [k1, k2]
        dsimp only
        have hT := h.1 n hn
        have hb := hT.2.1
        have hM := h.1 m hm
        have hbm := hM.2.1
        rw [if_pos rfl, if_neg one0, th1_0, h3, g3, hT.1.2.1, hM.1.1]
        by_cases e1 : r' (2 * n + 1) = r' (2 * m)
        · rw [if_pos (congrArg nI e1), if_pos e1, cbp (by omega) (by omega) hT.1.1 hT.1.2.1 hM.1.2.1 hb.1 hb.2.1 hbm.2.2.1 (by omega) hb.2.2.2, rpd (by omega)]
          dsimp only [bnd3]
          refine form_ok (Rl_keep h (fun i hi => ro (by omega)) ⟨rfl, rfl, rfl⟩) hw rs_R rs_C ⟨hb.1, hb.2.1, hbm.2.2.1, hbm.2.2.2⟩ (fun k hk => ?_) (fun k hk e => pd_n (by omega)) (fun k hk => ?_)
          · rw [vu_self]
            by_cases e3 : k / 5 < r' (2 * n) ∧ k % 5 < r' (2 * m + 1)
            · rw [pd_p e3, pd_p e3]
              exact dot_cg _ (fun j hj => tb_v hT (by omega)) (fun j hj => tb_v hM (by omega))
            · rw [pd_n e3, pd_n e3]
              exact if_pos hk
          · by_cases e3 : k / 5 < r' (2 * n) ∧ k % 5 < r' (2 * m + 1)
            · rw [pd_p e3]
              have := (dot_sm (a := k / 5) (b := k % 5) (g := f' n) (h := f' m) hb.2.2.2 (fun j hj => hT.2.2.1 _ (by omega)) (fun j hj => hM.2.2.1 _ (by omega))).1
              omega
            · rw [pd_n e3]; decide
        · rw [if_neg (fun e => e1 (nI_inj (by omega) (by omega) e)), if_neg e1]
          unfold D_X5_tellRefused
          dsimp only [bnd3]
          exact ok_no h
      · rw [k1, k2]
        dsimp only
        rw [if_neg x1, if_pos rfl, x2]
        exact ok_e1 h
    · rw [g1, g2]
      dsimp only
      rw [if_neg x1, if_pos rfl, x2]
      exact ok_e1 h
  · rw [h1, h2]
    dsimp only [bnd2, bnd1]
    rw [if_neg x1, if_pos rfl, th1_1, x2]
    exact ok_e1 h
end PSM
