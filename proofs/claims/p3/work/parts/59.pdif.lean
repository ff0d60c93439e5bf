section PDF
variable {r q : Nat → Int32} {f : Nat → Nat → Int64} {w v u : Nat → Int64} {R C a b t m c0 : Nat} {x : Int64} {i1 i2 i3 : Int32}
theorem rem_emod {y p : Int64} (hp : 0 < p.toInt) (h : ¬ y - y / p * p = 0) : y.toInt % p.toInt ≠ 0 := by
  intro e
  refine h (Int64.toInt_inj.mp ?_)
  rw [rem_int (nzp hp), show (0 : Int64).toInt = 0 from rfl]
  have h1 : y.toInt.tmod p.toInt = 0 ↔ y.toInt % p.toInt = 0 := by
    rw [← Int.dvd_iff_tmod_eq_zero, Int.dvd_iff_emod_eq_zero]
  exact h1.mpr e
theorem tb91 : tb9 1 := ⟨by decide, by decide⟩
theorem add_i {y z : Int64} (hy : ng y) (hz : ng z) : (y + 1 * z).toInt = y.toInt + z.toInt := by
  rw [(mad_int hy hz (by decide) (by decide)).1, show (1 : Int64).toInt = 1 from rfl, Int.one_mul]
theorem d2g {n : Nat} {y : Int32} (h : ¬ q 1 = 0) : D_X1_clearCross_2 r (nI t) (n + 1) y q f = (0, q, f) := by
  rw [D_X1_clearCross_2_s]
  split
  · rfl
  · first | rfl | rw [if_neg h]
theorem r0g {n : Nat} : D_X9_isCleared_0 R C i3 t (n + 1) u v w i1 i2 1 = (0, u, v, w, i1, i2, 1) := by
  rw [D_X9_isCleared_0_s, if_neg (by decide)]
/-- a pass: an end, or a next one -/
theorem dpass_eq (hD : DH r R C) (hR : R ≤ 4) (hC : C ≤ 4) (ht : t < R ∧ t < C) (hq : q 1 = 0) (hF : Sd R C w v u) {n1 n2 y : Nat} (hy : y + 1 < 1000000) :
    FdD R C t w q f (D_X1_clearCross_2 r (nI t) (n1 + 2) (nI y) q (ds f w v u)) (D_X9_isCleared_0 R C i3 t (n2 + 2) u v w i1 i2 0) ∨
    (∃ (w1 v1 u1 : Nat → Int64) (j1 j2 : Int32), Ps R C t w w1 ∧ Fj t w w1 ∧ Sd R C w1 v1 u1 ∧ D_X1_clearCross_2 r (nI t) (n1 + 2) (nI y) q (ds f w v u) = D_X1_clearCross_2 r (nI t) (n1 + 1) (nI (y + 1)) q (ds f w1 v1 u1) ∧ D_X9_isCleared_0 R C i3 t (n2 + 2) u v w i1 i2 0 = D_X9_isCleared_0 R C i3 t (n2 + 1) u1 v1 w1 j1 j2 0) := by
  have hcl : D_X1_clearCross_2 r (nI t) (n1 + 2) (nI y) q (ds f w v u) = if 0 ≤ D_X1_findLeastPlace r q (ds f w v u) (nI t) then D_X1_clearCross_43 r (nI t) (D_X1_clearCross_2 r (nI t) (n1 + 1)) (nI y) (R - (t + 1) + 1) (nI (t + 1)) q (D_X1_bring r q (ds f w v u) (D_X1_findLeastPlace r q (ds f w v u) (nI t) / 5) (D_X1_findLeastPlace r q (ds f w v u) (nI t) - D_X1_findLeastPlace r q (ds f w v u) (nI t) / 5 * 5) (nI t)) else (0, q, ds f w v u) := by
    rw [show n1 + 2 = (n1 + 1) + 1 from rfl, D_X1_clearCross_2_s, if_neg (show ¬ (1000000 : Int32) ≤ nI y from nile (a := 1000000) (by omega) (by omega)), if_pos hq]
    simp only [bnd1]
    rw [hD.1.1, s1, gapN (by omega) (by omega)]
  have hrf : D_X9_isCleared_0 R C i3 t (n2 + 2) u v w i1 i2 0 = D_X9_isCleared_14 R C i3 t (D_X9_isCleared_0 R C i3 t (n2 + 1)) u v w i1 i2 0 (R + 1 - t + 1) t t t := by
    rw [show n2 + 2 = (n2 + 1) + 1 from rfl, D_X9_isCleared_0_s, if_pos rfl]
  rw [hcl, hrf]
  rcases fp_eq (r := r) (q := q) (f := f) (v := v) (u := u) (i1 := i1) (i2 := i2) (i3 := i3) hD hR hC ht hF.1.1 (lbr := D_X9_isCleared_0 R C i3 t (n2 + 1)) with ⟨h1, h2, h3, h4⟩ | ⟨m, c0, h1, h2, h3, h4, h5, h6⟩
  · rw [h1, if_neg (by decide), h3, D_X9_isCleared_14_s, if_pos (Nat.le_refl _), if_pos (lgE.mpr h4)]
    exact Or.inl ⟨0, 0, 0, i1, i2, w, v, u, w, v, u, Or.inl rfl, by rw [vq1 hq], rfl, fun h => absurd h (by decide), fun _ => ⟨rfl, Or.inl rfl, rfl, rfl, rfl, hF, fun j _ => rfl, fun h => absurd h (by decide), fun _ => h2⟩⟩
  · have e1 : nI (m * 5 + c0) / 5 = nI m := by rw [nI_div5 (by omega), show (m * 5 + c0) / 5 = m by omega]
    have e2 : nI (m * 5 + c0) - nI m * 5 = nI c0 := by
      rw [show (5 : Int32) = nI 5 from rfl, nI_mul, nI_sub (by omega), show m * 5 + c0 - m * 5 = c0 by omega]
    rw [h4, if_pos (Int32.not_lt.mp (ilt0 (by omega))), e1, e2, h5, D_X9_isCleared_14_s, if_pos (Nat.le_refl _), if_neg (fun h => h2 (lgE.mp h))]
    obtain ⟨wb, vb, ub, jb1, jb2, b1, b2, b3, ⟨b4, b5, s, b6, b7⟩, b8⟩ := dbr_eq (r := r) (q := q) (f := f) (i1 := i1) (i2 := i2) (i3 := i3) hD hR hC h1 hF h2
    rw [b1, b2]
    simp only [bnd5]
    have htk : D_X9_takeOff R C ub vb wb jb1 jb2 i3 0 t = D_X9_takeOff_4 R C ub jb1 jb2 i3 t (R + 1 - (t + 1) + 1) (t + 1) vb wb 0 := rfl
    rw [htk]
    rcases LR (r := r) (f := f) (u := ub) (i1 := jb1) (i2 := jb2) (i3 := i3) (yy := nI y) (lbc := D_X1_clearCross_2 r (nI t) (n1 + 1)) hD hR hC ht (R - (t + 1) + 1) (R + 1 - (t + 1) + 1) (t + 1) wb vb q (Nat.le_refl _) (by omega) (by omega) (by omega) hq b3 b4 with ⟨w1, v1, w2, v2, u2, k1, k2⟩ | ⟨wr, vr, Q, k1, k2, k3, k4, k5, k6⟩
    · rw [k1, k2]
      simp only [bnd4]
      rw [if_neg (by decide), d2g (by rw [vu_self]; decide)]
      exact Or.inl ⟨1, 0, 0, jb1, jb2, w1, v1, ub, w2, v2, u2, Or.inr rfl, rfl, rfl, fun _ => rfl, fun h => absurd h (by decide)⟩
    · rw [k1, k2]
      have hptr : wr (t * 5 + t) = wb (t * 5 + t) := k4 t t (by omega) ht.2
      rcases LC (r := r) (f := f) (v := vr) (i1 := jb1) (i2 := jb2) (i3 := i3) (yy := nI y) (lbc := D_X1_clearCross_2 r (nI t) (n1 + 1)) hD hR hC ht (C - (t + 1) + 1) (C + 1 - (t + 1) + 1) (t + 1) wr ub q (Nat.le_refl _) (by omega) (by omega) (by omega) hq k3 (by rw [hptr]; exact b4) with ⟨w1, u1, w2, v2, u2, l1, l2⟩ | ⟨wc, uc, K, l1, l2, l3, l4, l5, l6⟩
      · rw [l1, l2]
        simp only [bnd4]
        rw [if_neg (by decide), d2g (by rw [vu_self]; decide)]
        exact Or.inl ⟨1, 0, 0, jb1, jb2, w1, vr, u1, w2, v2, u2, Or.inr rfl, rfl, rfl, fun _ => rfl, fun h => absurd h (by decide)⟩
      · rw [l1, l2]
        simp only [bnd4]
        rw [if_pos trivial, D_X1_clearCross_j158_s, if_pos hq]
        simp only [bnd1]
        have hptc : wc (t * 5 + t) = wb (t * 5 + t) := by rw [l4 t t ht.1 (by omega), hptr]
        have hpc : 0 < (wc (t * 5 + t)).toInt := by rw [hptc]; exact b4
        have hFj : Fj t w wc := Fj_t b8 (fun j hj => (l4 j j (by omega) (by omega)).trans (k4 j j (by omega) (by omega)))
        have nz : ∀ z : Int64, ¬ z = 0 → z.toInt ≠ 0 := fun z h e => h (Int64.toInt_inj.mp e)
        -- the facts of this pass
        have hPs : ∀ w3 : Nat → Int64, (((∀ a b, t ≤ a → a < R → t ≤ b → b < C → (w3 (a * 5 + b)).toInt = (wc (a * 5 + b)).toInt) ∧ ((∃ a, t < a ∧ a < R ∧ (wc (a * 5 + t)).toInt ≠ 0) ∨ ∃ b, t < b ∧ b < C ∧ (wc (t * 5 + b)).toInt ≠ 0)) ∨ ((∀ a, t < a → a < R → (wc (a * 5 + t)).toInt = 0) ∧ (∀ b, t < b → b < C → (wc (t * 5 + b)).toInt = 0) ∧ ∃ i j, t < i ∧ i < R ∧ t < j ∧ j < C ∧ (wc (i * 5 + j)).toInt % (wc (t * 5 + t)).toInt ≠ 0 ∧ ∀ a b, t ≤ a → a < R → t ≤ b → b < C → (w3 (a * 5 + b)).toInt = if a = t then (wc (t * 5 + b)).toInt + (wc (i * 5 + b)).toInt else (wc (a * 5 + b)).toInt)) → Ps R C t w w3 := by
          intro w3 h
          refine ⟨m, c0, s, Q, K, fun a b => (wb (a * 5 + b)).toInt, fun a b => (wr (a * 5 + b)).toInt, fun a b => (wc (a * 5 + b)).toInt, h1, b6, h2, h3, h6, b7, b4, fun b hb1 hb2 => ?_, fun a b ha1 ha2 hb1 hb2 => ?_, fun a ha1 ha2 => ?_, fun a ha1 ha2 => ?_, fun a b ha1 ha2 hb1 hb2 => ?_, fun b hb1 hb2 => ?_, h⟩
          · show (wr (t * 5 + b)).toInt = (wb (t * 5 + b)).toInt
            rw [k4 t b (by omega) hb2]
          · exact k5 a b (by omega) ha2 hb2
          · exact k6 a (by omega) ha2
          · show (wc (a * 5 + t)).toInt = (wr (a * 5 + t)).toInt
            rw [l4 a t ha2 (by omega)]
          · exact l5 a b ha2 (by omega) hb2
          · have := l6 b (by omega) hb2
            rw [hptr] at this
            exact this
        rcases cc_eq (r := r) (q := q) (f := f) (w := wc) (v := vr) (u := uc) (i1 := jb1) (i2 := jb2) (i3 := i3) hD hR hC ht with ⟨⟨c1, c2⟩, c3, c4⟩ | ⟨c1, c3, c4⟩
        · rw [c3, c4, if_neg (show ¬ (1 : Int32) = 0 by decide), if_neg (show ¬ (1 : Int32) = 0 by decide)]
          rcases dv_eq (r := r) (q := q) (f := f) (w := wc) (v := vr) (u := uc) (i1 := jb1) (i2 := jb2) (i3 := i3) hD hR hC ht (nzp hpc) with ⟨g1, g2⟩ | ⟨i, j, g1, g2, g3, g4, g5, g6, g7⟩
          · rw [g1, g2, if_neg (by decide)]
            simp only [bnd4]
            rw [if_pos trivial]
            exact Or.inl ⟨0, 1, 1, jb1, jb2, wc, vr, uc, wc, vr, uc, Or.inl rfl, by rw [vq1 hq], rfl, fun h => absurd h (by decide), fun _ => ⟨rfl, Or.inr rfl, rfl, rfl, rfl, l3, hFj, fun _ => nzp hpc, fun h => absurd h (by decide)⟩⟩
          · obtain ⟨G, hG, a1, a2, a3⟩ := addR_eq (r := r) (q := q) (f := f) (a := t) (b := i) (x := 1) (s1' := jb1) (s2' := jb2) (i3 := i3) hD hR hC ht.1 g2 (by omega) l3 tb91
            rw [g6, g7, if_pos (Int32.not_lt.mp (ilt0 (by omega))), a1, a2]
            simp only [bnd2, bnd4]
            rw [if_neg (by decide)]
            rcases hG with rfl | rfl
            · refine Or.inr ⟨ar C t i 1 wc, ar R t i 1 vr, uc, jb1, jb2, hPs _ (Or.inr ⟨fun a ha1 ha2 => ?_, fun b hb1 hb2 => ?_, i, j, g1, g2, g3, g4, rem_emod hpc g5, fun a b ha1 ha2 hb1 hb2 => ?_⟩), Fj_t hFj (fun j hj => ar_off (by omega) (by omega)), a3 rfl, by rw [vq1 hq, s1], rfl⟩
              · rw [c1 a (by omega) ha2]; rfl
              · rw [c2 b (by omega) hb2]; rfl
              · by_cases ea : a = t
                · rw [if_pos ea, ea, ar_at hb2 (by omega), add_i (l3.1.1 _ (by omega)) (l3.1.1 _ (by omega))]
                · rw [if_neg ea, ar_off (by omega) ea]
            · rw [d2g (by rw [vu_self]; decide), r0g]
              exact Or.inl ⟨1, 0, 0, jb1, jb2, _, _, _, _, _, _, Or.inr rfl, rfl, rfl, fun _ => rfl, fun h => absurd h (by decide)⟩
        · rw [c3, c4, if_pos (show (0 : Int32) = 0 from rfl), if_pos (show (0 : Int32) = 0 from rfl)]
          refine Or.inr ⟨wc, vr, uc, jb1, jb2, hPs _ (Or.inl ⟨fun a b _ _ _ _ => rfl, ?_⟩), hFj, l3, by rw [s1], rfl⟩
          rcases c1 with ⟨a, ha1, ha2, ha3⟩ | ⟨b, hb1, hb2, hb3⟩
          · exact Or.inl ⟨a, by omega, ha2, nz _ ha3⟩
          · exact Or.inr ⟨b, by omega, hb2, nz _ hb3⟩
end PDF
