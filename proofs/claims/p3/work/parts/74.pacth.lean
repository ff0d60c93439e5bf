section PSV
variable {r q r1 q1 : Nat → Int32} {f f1 : Nat → Nat → Int64} {r' r1' : Nat → Nat} {f' f1' : Nat → Nat → Int64} {q' : Nat → Int32} {R C i n m R2 C2 a b c K : Nat} {g G w v F u : Nat → Int64} {x x' y z p : Int32}
theorem dot_ng {g h : Nat → Int64} {N : Nat} (hN : N ≤ 4) (hg : ∀ k, k < N → ng (g (a * 5 + k))) (hh : ∀ k, k < N → ng (h (k * 5 + b))) : -(1000000000000000000 * N : Int) ≤ (dot N g h a b).toInt ∧ (dot N g h a b).toInt ≤ 1000000000000000000 * N := by
  have H : ∀ j, j ≤ N → -(1000000000000000000 * j : Int) ≤ (dot j g h a b).toInt ∧ (dot j g h a b).toInt ≤ 1000000000000000000 * j := by
    intro j
    induction j with
    | zero => intro _; exact ⟨by show -(1000000000000000000 * 0 : Int) ≤ 0; omega, by show (0 : Int) ≤ 1000000000000000000 * 0; omega⟩
    | succ j ih =>
      intro hj
      have ⟨i1, i2⟩ := ih (by omega)
      have h1 := ng_int (hg j (by omega))
      have h2 := ng_int (hh j (by omega))
      have p1 : -1000000000000000000 ≤ (g (a * 5 + j)).toInt * (h (j * 5 + b)).toInt ∧ (g (a * 5 + j)).toInt * (h (j * 5 + b)).toInt ≤ 1000000000000000000 := by
        have hb1 : (g (a * 5 + j)).toInt.natAbs ≤ 1000000000 := by omega
        have hb2 : (h (j * 5 + b)).toInt.natAbs ≤ 1000000000 := by omega
        have e := Nat.mul_le_mul hb1 hb2
        rw [← Int.natAbs_mul] at e
        omega
      rw [dot_s, Int64.toInt_add, Int64.toInt_mul]
      rw [Int.bmod_eq_of_le (n := (g (a * 5 + j)).toInt * (h (j * 5 + b)).toInt) (by omega) (by omega)]
      rw [Int.bmod_eq_of_le (by omega) (by omega)]
      omega
  exact H N (Nat.le_refl _)
theorem quo_lo {x y : Int64} (hx : -9223372036854775807 ≤ x.toInt) : -9223372036854775807 ≤ (x / y).toInt := by
  have h0 := Int64.toInt_lt x
  have h1 : (x.toInt.tdiv y.toInt).natAbs ≤ x.toInt.natAbs := by
    rw [Int.natAbs_tdiv]
    exact Nat.div_le_self _ _
  rw [Int64.toInt_div, Int.bmod_eq_of_le (by omega) (by omega)]
  omega
/-- the shares and what follows on the reference's side -/
theorem rso {t : Int32} (hn : n < 4) : ∀ k y : Nat, y ≤ K → K - y < k → D_X10_solve_141 r' f' q' (nI n) z t u w K F k y (sd w F K y (fun _ => 0)) = bnd1 (D_X7_isGreat (r' (2 * n + 1)) 1 (sd w F K K (fun _ => 0))) (fun x => if x = 0 then bnd1 (D_X7_product (r' (2 * n + 1)) (r' (2 * n + 1)) u (r' (2 * n + 1)) 1 (sd w F K K (fun _ => 0))) (fun P => bnd4 (D_X10_become r' f' (va_up q' 3 t) z (r' (2 * n + 1)) 1 P) (fun x r f q => (x, r, f, q))) else (-9, r', f', va_up (va_up q' 3 t) 1 (((va_up q' 3 t) 1) + 1))) := by
  intro k
  induction k with
  | zero => intro y _ h; omega
  | succ k ih =>
    intro y hy hk
    rw [D_X10_solve_141_s, nI_clamp (show n < 2 ^ 31 by omega)]
    by_cases e : K ≤ y
    · rw [if_pos e, show y = K by omega]
    · rw [if_neg e, sd_s (by omega)]
      exact ih (y + 1) (by omega) (by omega)
/-- shares and solution of the class -/
theorem fsol (h13 : r (2 * 13) = nI C ∧ r (2 * 13 + 1) = nI 1) (h10 : r (2 * 10) = nI C ∧ r (2 * 10 + 1) = nI C) (h1 : 1 ≤ C) (hC : C ≤ 4) (hs : ∀ k, k < 20 → f 13 k = w k) (hz : zo C 1 w) (hlo : ∀ k, k < C * 5 → -9223372036854775807 ≤ (w k).toInt) (hu : ∀ k, k < 20 → f 10 k = u k) (hun : ∀ k, k < C * 5 → ng (u k)) :
    (¬ (∀ k, k < C * 5 → ng (w k)) ∧ D_X2_findSolution r q f = (0, r, q, f)) ∨ ((∀ k, k < C * 5 → ng (w k)) ∧ ((∀ k, k < 20 → pd C C 0 1 (f 10) (f 13) (zf 20 (f 14)) k = pd C C 0 1 u w (fun _ => 0) k) ∧ ∀ k, -9223372036854775807 ≤ (pd C C 0 1 u w (fun _ => 0) k).toInt) ∧ (((∀ k, k < C * 5 → ng (pd C C 0 1 u w (fun _ => 0) k)) ∧ D_X2_findSolution r q f = (1, rs r 14 C 1, q, va_up f 14 (pd C C 0 1 (f 10) (f 13) (zf 20 (f 14))))) ∨ (¬ (∀ k, k < C * 5 → ng (pd C C 0 1 u w (fun _ => 0) k)) ∧ D_X2_findSolution r q f = (0, rs r 14 C 1, q, va_up f 14 (pd C C 0 1 (f 10) (f 13) (zf 20 (f 14))))))) := by
  have ng0 : ng 0 := sm_ng sm0
  have hA := wt_all (R := C) (C := 1) (w := f 13) (by decide) (fun k hk => by rw [hs k (by omega)]; exact hlo k hk) (fun k hk e => by rw [hs k (by omega), hz k (by omega) (Or.inr e)]; exact ng0)
  unfold D_X2_findSolution
  rcases ciw (r := r) (q := q) (f := f) (i := 13) (p := 1000000000) h13.1 h13.2 hC (by omega) with ⟨a1, a2⟩ | ⟨⟨a, b, a1, a2, a3⟩, a4⟩
  · have hw : ∀ k, k < C * 5 → ng (w k) := fun k hk => by rw [← hs k (by omega)]; exact hA.mp (fun a b ha hb => a1 a b ha hb) k hk
    have hP : ∀ k, k < 20 → pd C C 0 1 (f 10) (f 13) (zf 20 (f 14)) k = pd C C 0 1 u w (fun _ => 0) k := fun k hk => by
      by_cases e : k / 5 < C ∧ k % 5 < 1
      · rw [pd_p e, pd_p e]
        exact dot_cg _ (fun j hj => hu _ (by omega)) (fun j hj => hs _ (by omega))
      · rw [pd_n e, pd_n e]
        exact if_pos hk
    have hlo2 : ∀ k, -9223372036854775807 ≤ (pd C C 0 1 u w (fun _ => 0) k).toInt := fun k => by
      by_cases e : k / 5 < C ∧ k % 5 < 1
      · rw [pd_p e]
        have := (dot_ng (a := k / 5) (b := k % 5) (g := u) (h := w) hC (fun j hj => hun _ (by omega)) (fun j hj => hw _ (by omega))).1
        omega
      · rw [pd_n e]; decide
    refine Or.inr ⟨hw, ⟨hP, hlo2⟩, ?_⟩
    rw [a2, bnd1_e, if_neg one0, cbp (Rj := C) (Cj := C) (Ck := 1) (by decide) (by decide) h10.1 h10.2 h13.2 h1 hC (by omega) (by omega) hC]
    dsimp only [bnd3]
    have hB := wt_all (R := C) (C := 1) (w := (va_up f 14 (pd C C 0 1 (f 10) (f 13) (zf 20 (f 14)))) 14) (by decide) (fun k hk => by rw [vu_self, hP k (by omega)]; exact hlo2 k) (fun k hk e => by rw [vu_self, hP k (by omega), pd_n (by omega)]; exact ng0)
    rcases ciw (r := rs r 14 C 1) (q := q) (f := va_up f 14 (pd C C 0 1 (f 10) (f 13) (zf 20 (f 14)))) (i := 14) (p := 1000000000) rs_R rs_C hC (by omega) with ⟨b1, b2⟩ | ⟨⟨a, b, b1, b2, b3⟩, b4⟩
    · refine Or.inl ⟨fun k hk => ?_, ?_⟩
      · have := hB.mp (fun a b ha hb => b1 a b ha hb) k hk
        rw [vu_self, hP k (by omega)] at this
        exact this
      · rw [b2, bnd1_e]
    · refine Or.inr ⟨fun hall => b3 (hB.mpr (fun k hk => ?_) a b b1 b2), ?_⟩
      · rw [vu_self, hP k (by omega)]; exact hall k hk
      · rw [b4, bnd1_e]
  · refine Or.inl ⟨fun hall => a3 (hA.mpr (fun k hk => by rw [hs k (by omega)]; exact hall k hk) a b a1 a2), ?_⟩
    rw [a4, bnd1_e, if_pos rfl]
theorem solve_eq (h : Rl r q f r' f' q') {y z p u : Int32} : Ok (D_X5_solve r q f y z p u) (D_X10_solve r' f' q' y z p u) := by
  unfold D_X5_solve D_X10_solve
  rcases ntb (r := r) (q := q) (f := f) (p := y) with ⟨n, hn, rfl, h1, h2, h3⟩ | ⟨E, x1, x2, h1, h2⟩
  · rw [h1, h2]
    dsimp only [bnd2, bnd1]
    rw [if_pos rfl, if_neg one0, th1_1, th1_0]
    rcases ntb (r := r) (q := q) (f := f) (p := z) with ⟨m, hm, rfl, g1, g2, g3⟩ | ⟨E, x1, x2, g1, g2⟩
    · rw [g1]
      dsimp only
      rw [if_pos rfl]
      rcases ntb (r := r) (q := q) (f := f) (p := u) with ⟨t, ht, rfl, k1, k2, k3⟩ | ⟨E, x1, x2, k1, k2⟩
      · rw [k1, k2]
        dsimp only
        rw [if_pos rfl, if_neg one0]
        rcases hcol h hm (c := 1) (by decide) (k := p) with ⟨b, rfl, b1, b2, b3, b4, b5⟩ | ⟨b3, b4⟩
        · have hT := h.1 n hn
          have hb := hT.2.1
          have hM := h.1 m hm
          have hbm := hM.2.1
          rw [b3, b4, nx1, if_pos rfl, if_neg one0, h3, g3, b5, hT.1.1, hM.1.1]
          by_cases e1 : r' (2 * n) = r' (2 * m)
          · rw [if_pos (congrArg nI e1), if_pos e1]
            obtain ⟨G, j1, j2, K, w1, v1, u1, w2, v2, u2, hG, d1, d2, d3⟩ := dwalk_eq (q := q) hT.1 (show n ≠ 8 by omega) (show n ≠ 9 by omega) (show n ≠ 10 by omega) hb.1 hb.2.1 hb.2.2.1 hb.2.2.2 (sw_of hT) hT.2.2.2
            rw [d1, d2]
            dsimp only [bnd3, bnd7]
            have hRd : ∀ s, Rl (rs (rs (rs r 8 (r' (2 * n)) (r' (2 * n + 1))) 9 (r' (2 * n)) (r' (2 * n))) 10 (r' (2 * n + 1)) (r' (2 * n + 1))) (va_up q 1 s) (ds f w1 v1 u1) r' f' q' := fun s => Rl_dwalk h
            rcases hG with rfl | rfl
            · obtain ⟨rfl, rfl, rfl, hS, hK⟩ := d3 rfl
              have hq : va_up q 1 0 1 = 0 := vu_self
              rw [if_pos hq, if_pos rfl, rco, rpd (by omega)]
              rw [← e1]
              have hRd0 := hRd 0
              obtain ⟨r4, f4, q1, q2, q3, q4⟩ := div_eq (r := rs (rs (rs r 8 (r' (2 * n)) (r' (2 * n + 1))) 9 (r' (2 * n)) (r' (2 * n))) 10 (r' (2 * n + 1)) (r' (2 * n + 1))) (q := va_up q 1 0) (f := ds f w2 v2 u2) (R := r' (2 * n)) (C := r' (2 * n + 1)) (m := m) (w := w2) (v := v2) (g := f' m) (b := b) (K := K) hb ⟨(rs_R' (by decide)).trans ((rs_R' (by decide)).trans rs_R), (rs_C' (by decide)).trans ((rs_C' (by decide)).trans rs_C)⟩ ⟨(rs_R' (by decide)).trans rs_R, (rs_C' (by decide)).trans rs_C⟩ ((hRd0.1 m hm).1.1.trans (congrArg nI e1.symm)) hm (fun k hk => by rw [ds8, cpl hk]) (fun k hk => by rw [ds9, cpl hk]) (fun k hk => tb_v (hRd0.1 m hm) (by omega)) (by omega) hK
              have hR4 : Rl r4 (va_up q 1 0) f4 r' f' q' := Rl_keep hRd0 (fun i hi => ⟨q1 i (by omega), q2 i (by omega)⟩) ⟨rfl, rfl, rfl⟩
              rcases q4 with ⟨o1, o2, o3⟩ | ⟨o1, o2⟩
              · rcases rgo (R := r' (2 * n)) (C := r' (2 * n + 1)) (w := w2) (F := pd (r' (2 * n)) (r' (2 * n)) 0 1 v2 (co (r' (2 * n)) b (f' m) (fun _ => 0)) (fun _ => 0)) (K := K) (s := j1) (t := j2) (d := 0) with ⟨_, l2⟩ | ⟨⟨j, l1, l2⟩, _⟩
                · rw [o2, l2, if_neg one0]
                  dsimp only [bnd4]
                  rw [if_neg one0]
                  have hrs := rso (r' := r') (f' := f') (q' := q') (n := n) (z := nI t) (t := 0) (u := u2) (w := w2) (F := pd (r' (2 * n)) (r' (2 * n)) 0 1 v2 (co (r' (2 * n)) b (f' m) (fun _ => 0)) (fun _ => 0)) (K := K) hn (K + 1 - 0 + 1) 0 (by omega) (by omega)
                  rw [sd0] at hrs
                  rw [hrs]
                  have hzs : zo (r' (2 * n + 1)) 1 (sd w2 (pd (r' (2 * n)) (r' (2 * n)) 0 1 v2 (co (r' (2 * n)) b (f' m) (fun _ => 0)) (fun _ => 0)) K K (fun _ => 0)) := fun k hk e => if_neg (by have := hK.2.1; omega)
                  have hFlo : ∀ k, -9223372036854775807 ≤ (pd (r' (2 * n)) (r' (2 * n)) 0 1 v2 (co (r' (2 * n)) b (f' m) (fun _ => 0)) (fun _ => 0) k).toInt := fun k => by
                    by_cases e : k / 5 < r' (2 * n) ∧ k % 5 < 1
                    · rw [pd_p e]
                      have := (dot_ng (a := k / 5) (b := k % 5) (g := v2) (h := co (r' (2 * n)) b (f' m) (fun _ => 0)) hb.2.1 (fun j hj => hS.1.2.1 _ (by omega)) (fun j hj => by
                        unfold co
                        split
                        · exact sm_ng (hM.2.2.1 _ (by omega))
                        · exact sm_ng sm0)).1
                      omega
                    · rw [pd_n e]; decide
                  have hslo : ∀ k, k < r' (2 * n + 1) * 5 → -9223372036854775807 ≤ (sd w2 (pd (r' (2 * n)) (r' (2 * n)) 0 1 v2 (co (r' (2 * n)) b (f' m) (fun _ => 0)) (fun _ => 0)) K K (fun _ => 0) k).toInt := fun k _ => by
                    unfold sd
                    split
                    · exact quo_lo (hFlo _)
                    · exact (by decide : (-9223372036854775807 : Int) ≤ (0 : Int64).toInt)
                  rcases fsol (r := r4) (q := va_up q 1 0) (f := f4) (C := r' (2 * n + 1)) (w := sd w2 (pd (r' (2 * n)) (r' (2 * n)) 0 1 v2 (co (r' (2 * n)) b (f' m) (fun _ => 0)) (fun _ => 0)) K K (fun _ => 0)) (u := u2) q3 ⟨(q1 10 (by decide)).1.trans rs_R, (q1 10 (by decide)).2.trans rs_C⟩ hb.2.2.1 hb.2.2.2 o3 hzs hslo (fun k hk => by rw [q2 10 (by decide), ds10, cpl hk]) hS.1.2.2 with ⟨s1, s2⟩ | ⟨s1, ⟨s2, s3⟩, s4⟩
                  · rcases rig (R := r' (2 * n + 1)) (C := 1) (f := sd w2 (pd (r' (2 * n)) (r' (2 * n)) 0 1 v2 (co (r' (2 * n)) b (f' m) (fun _ => 0)) (fun _ => 0)) K K (fun _ => 0)) with ⟨c1, _⟩ | ⟨_, c2⟩
                    · exact absurd c1 s1
                    · rw [s2, c2, bnd1_e, if_neg one0]
                      dsimp only
                      rw [if_pos rfl]
                      unfold D_X5_tellRefused
                      dsimp only [bnd3]
                      exact ok_no hR4
                  · rcases rig (R := r' (2 * n + 1)) (C := 1) (f := sd w2 (pd (r' (2 * n)) (r' (2 * n)) 0 1 v2 (co (r' (2 * n)) b (f' m) (fun _ => 0)) (fun _ => 0)) K K (fun _ => 0)) with ⟨_, c2⟩ | ⟨⟨k, c1, c2⟩, _⟩
                    · rw [c2, bnd1_e, if_pos rfl, bnd1_e, rpd (by omega)]
                      have hR5 : Rl (rs r4 14 (r' (2 * n + 1)) 1) (va_up q 1 0) (va_up f4 14 (pd (r' (2 * n + 1)) (r' (2 * n + 1)) 0 1 (f4 10) (f4 13) (zf 20 (f4 14)))) r' f' q' := Rl_keep hR4 (fun i hi => ro (by omega)) ⟨rfl, rfl, rfl⟩
                      rcases s4 with ⟨t1, t2⟩ | ⟨t1, t2⟩
                      · rw [t2]
                        dsimp only
                        rw [if_neg one0]
                        exact form_ok hR5 ht rs_R rs_C ⟨hb.2.2.1, hb.2.2.2, by omega, by omega⟩ (fun k hk => by rw [vu_self]; exact s2 k hk) (fun k hk e => pd_n (by omega)) (fun k _ => s3 k)
                      · rw [t2]
                        dsimp only
                        rw [if_pos rfl]
                        unfold D_X5_tellRefused D_X10_become
                        dsimp only [bnd3]
                        rcases ril (R := r' (2 * n + 1)) (C := 1) (f := pd (r' (2 * n + 1)) (r' (2 * n + 1)) 0 1 u2 (sd w2 (pd (r' (2 * n)) (r' (2 * n)) 0 1 v2 (co (r' (2 * n)) b (f' m) (fun _ => 0)) (fun _ => 0)) K K (fun _ => 0)) (fun _ => 0)) with ⟨c1, _⟩ | ⟨_, c2⟩
                        · exact absurd (fun k hk => sm_ng (c1 k hk)) t1
                        · rw [c2, bnd1_e, if_pos rfl]
                          exact ok_no hR5
                    · exact absurd (s1 k c1) c2
                · exact absurd (o1 j l1) l2
              · rcases rgo (R := r' (2 * n)) (C := r' (2 * n + 1)) (w := w2) (F := pd (r' (2 * n)) (r' (2 * n)) 0 1 v2 (co (r' (2 * n)) b (f' m) (fun _ => 0)) (fun _ => 0)) (K := K) (s := j1) (t := j2) (d := 0) with ⟨l1, _⟩ | ⟨_, l2⟩
                · obtain ⟨j, l3, l4⟩ := o1
                  exact absurd (l1 j l3) l4
                · rw [o2, l2, if_pos rfl]
                  dsimp only [bnd4]
                  rw [if_pos rfl]
                  unfold D_X5_tellRefused
                  dsimp only [bnd3]
                  exact ok_no hR4
            · have hq : ¬ va_up q 1 1 1 = 0 := by rw [vu_self]; decide
              rw [if_neg hq, if_neg one0]
              unfold D_X5_tellRefused
              dsimp only [bnd3]
              exact ok_no (hRd 1)
          · rw [if_neg (fun e => e1 (nI_inj (by omega) (by omega) e)), if_neg e1]
            unfold D_X5_tellRefused
            dsimp only [bnd3]
            exact ok_no h
        · rw [b3, b4, nx0, if_neg e_ne, if_pos rfl]
          exact ok_e1 h
      · rw [k1, k2]
        dsimp only
        rw [if_neg x1, if_pos rfl, ite_self, x2]
        exact ok_e1 h
    · rw [g1, (isT_0 g2).2.1]
      dsimp only
      rw [if_neg x1, if_pos rfl, x2]
      exact ok_e1 h
  · rw [h1, h2]
    dsimp only [bnd2, bnd1]
    rw [if_neg x1, if_pos rfl, th1_1, x2]
    exact ok_e1 h
end PSV
