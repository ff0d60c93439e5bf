section PCR
variable {r q : Nat → Int32} {f : Nat → Nat → Int64} {w v u g : Nat → Int64} {R C t i : Nat} {i1 i2 i3 : Int32}
theorem cross_eq (hD : DH r R C) (hR : R ≤ 4) (hC : C ≤ 4) (ht : t < R ∧ t < C) (hq : q 1 = 0) : ∀ (B n1 n2 y : Nat) (w v u : Nat → Int64) (i1 i2 : Int32), ¬ Chn R C t B w → y + B < 1000000 → B + 1 ≤ n1 → B + 1 ≤ n2 → Sd R C w v u →
    FdD R C t w q f (D_X1_clearCross_2 r (nI t) n1 (nI y) q (ds f w v u)) (D_X9_isCleared_0 R C i3 t n2 u v w i1 i2 0) := by
  intro B
  induction B with
  | zero => intro n1 n2 y w v u i1 i2 h; exact absurd trivial h
  | succ B ih =>
    intro n1 n2 y w v u i1 i2 hc hy h1 h2 hF
    obtain ⟨m1, rfl⟩ : ∃ m, n1 = m + 2 := ⟨n1 - 2, by omega⟩
    obtain ⟨m2, rfl⟩ : ∃ m, n2 = m + 2 := ⟨n2 - 2, by omega⟩
    rcases dpass_eq (r := r) (q := q) (f := f) (i1 := i1) (i2 := i2) (i3 := i3) hD hR hC ht hq hF (n1 := m1) (n2 := m2) (y := y) (by omega) with h | ⟨w1, v1, u1, j1, j2, g1, g2, g3, g4, g5⟩
    · exact h
    · rw [g4, g5]
      obtain ⟨G, xc, xr, k1, k2, w3, v3, u3, w4, v4, u4, e1, e2, e3, e4, e5⟩ := ih (m1 + 1) (m2 + 1) (y + 1) w1 v1 u1 j1 j2 (fun h => hc ⟨w1, g1, h⟩) (by omega) (by omega) (by omega) g3
      refine ⟨G, xc, xr, k1, k2, w3, v3, u3, w4, v4, u4, e1, e2, e3, e4, fun h => ?_⟩
      obtain ⟨a1, a2, a3, a4, a5, a6, a7, a8, a9⟩ := e5 h
      exact ⟨a1, a2, a3, a4, a5, a6, Fj_t g2 a7, a8, a9⟩
/-- small numbers at first -/
def Sw (R : Nat) (w : Nat → Int64) : Prop := ∀ k, k < R * 5 → -20 ≤ (w k).toInt ∧ (w k).toInt ≤ 20
theorem no_chn (hR : R ≤ 4) (hC : C ≤ 4) (ht : t < R ∧ t < C) (hw : Nw R w) (h0 : t = 0 → Sw R w) : ¬ Chn R C t 211 w := by
  intro hc
  have hc0 := hc
  obtain ⟨w3, h1, h2⟩ := hc0
  obtain ⟨m, c0, s, Q, K, B, W1, W2, hm, hs, hn, _⟩ := h1
  by_cases e : t = 0
  · have hb := h0 e (m * 5 + c0) (by omega)
    exact ch_two ht 20 w ⟨m, c0, hm.1, hm.2.1, hm.2.2.1, hm.2.2.2, nz_i hn, hb.2, hb.1⟩ (Chn_le (m := 2 * 20 + 1) (n := 211) (by omega) hc)
  · have hb := ng_int (hw (m * 5 + c0) (by omega))
    exact ch_half (R := R) (C := C) (t := t) (by omega) (by omega) ht 30 w 1000000000 (by decide) ⟨m, c0, hm.1, hm.2.1, hm.2.2.1, hm.2.2.2, nz_i hn, hb.2, hb.1⟩ hc
theorem clear_eq (hD : DH r R C) (hR : R ≤ 4) (hC : C ≤ 4) (ht : t < R ∧ t < C) (hq : q 1 = 0) (hF : Sd R C w v u) (h0 : t = 0 → Sw R w) : FdD R C t w q f (D_X1_clearCross r q (ds f w v u) (nI t)) (D_X9_isCleared R C u v w i1 i2 i3 0 t) := by
  unfold D_X1_clearCross D_X9_isCleared
  rw [show gap 1000000 0 = 1000000 - 0 from gapN (a := 1000000) (b := 0) (by omega) (by omega)]
  exact cross_eq hD hR hC ht hq 211 (1000000 - 0 + 1) (2000000000 + 1) 0 w v u i1 i2 (no_chn hR hC ht hF.1.1 h0) (by omega) (by omega) (by omega) hF
/-- so many of the diagonal are not 0, and they stand first -/
def Rk (R C : Nat) (w : Nat → Int64) (k : Nat) : Prop := k ≤ R ∧ k ≤ C ∧ (∀ j, j < k → ¬ w (j * 5 + j) = 0) ∧ ∀ j, k ≤ j → j < R → j < C → w (j * 5 + j) = 0
theorem cl0 {n : Nat} {G : Int32} (hk : i3.toNatClampNeg = n) {m : Nat} : D_X9_init_48 R C (m + 1) t 0 u w v i1 i2 i3 G = (u, v, w, i1, i2, n, G) := by
  rw [D_X9_init_48_s, if_pos rfl]
  show (u, v, w, i1, i2, i3.toNatClampNeg, G) = _
  rw [hk]
theorem w39 {n : Nat} {y x : Int32} (h : ¬ q 1 = 0) : D_X1_walk_39 r (n + 1) y x q f = (r, q, f) := by
  rw [D_X1_walk_39_s]
  split
  · rfl
  · split
    · rfl
    · split
      · rfl
      · rfl
theorem dwl (hD : DH r R C) (hR : R ≤ 4) (hC : C ≤ 4) : ∀ n1 n2 t : Nat, ∀ (w v u : Nat → Int64) (q : Nat → Int32) (i1 i2 : Int32), t ≤ R → t ≤ C → R - t < n1 → R - t < n2 → q 1 = 0 → Sd R C w v u → (t = 0 → Sw R w) → (∀ j, j < t → ¬ w (j * 5 + j) = 0) →
    ∃ (G j1 j2 : Int32) (K : Nat) (w1 v1 u1 w2 v2 u2 : Nat → Int64), (G = 0 ∨ G = 1) ∧ D_X1_walk_39 r n1 (nI t) 1 q (ds f w v u) = (r, va_up q 1 G, ds f w1 v1 u1) ∧ D_X9_init_48 R C n2 t 1 u w v i1 i2 (nI t) 0 = (u2, v2, w2, j1, j2, K, G) ∧ (G = 0 → w2 = w1 ∧ v2 = v1 ∧ u2 = u1 ∧ Sd R C w1 v1 u1 ∧ Rk R C w1 K) := by
  intro n1
  induction n1 with
  | zero => intro n2 t w v u q i1 i2 _ _ h; omega
  | succ n1 ih =>
    intro n2 t w v u q i1 i2 hy hyC h1 h2 hq hF h0 hnz
    obtain ⟨n2, rfl⟩ : ∃ n, n2 = n + 1 := ⟨n2 - 1, by omega⟩
    have hkt : (nI t).toNatClampNeg = t := nI_clamp (by omega)
    rw [D_X1_walk_39_s, D_X9_init_48_s, hD.1.1, hD.1.2, if_neg (show ¬ (1 : Int32) = 0 by decide), if_neg (show ¬ (1 : Int32) = 0 by decide)]
    have hend : R ≤ t ∨ C ≤ t → ∃ (G j1 j2 : Int32) (K : Nat) (w1 v1 u1 w2 v2 u2 : Nat → Int64), (G = 0 ∨ G = 1) ∧ (r, q, ds f w v u) = (r, va_up q 1 G, ds f w1 v1 u1) ∧ (u, v, w, i1, i2, t, (0 : Int32)) = (u2, v2, w2, j1, j2, K, G) ∧ (G = 0 → w2 = w1 ∧ v2 = v1 ∧ u2 = u1 ∧ Sd R C w1 v1 u1 ∧ Rk R C w1 K) := fun h => ⟨0, i1, i2, t, w, v, u, w, v, u, Or.inl rfl, by rw [vq1 hq], rfl, fun _ => ⟨rfl, rfl, rfl, hF, hy, hyC, hnz, fun j _ _ _ => by omega⟩⟩
    by_cases e : R ≤ t
    · rw [if_pos (ile e (by omega)), if_pos e]
      simp only [nm, hkt]
      exact hend (Or.inl e)
    · rw [if_neg (nile e (by omega)), if_neg e]
      by_cases e2 : C ≤ t
      · rw [if_pos (ile e2 (by omega)), if_pos e2]
        simp only [nm, hkt]
        exact hend (Or.inr e2)
      · rw [if_neg (nile e2 (by omega)), if_neg e2, if_pos hq]
        obtain ⟨G, xc, xr, k1, k2, w3, v3, u3, w4, v4, u4, e1, e3, e4, e5, e6⟩ := clear_eq (r := r) (q := q) (f := f) (i1 := i1) (i2 := i2) (i3 := nI t) hD hR hC (show t < R ∧ t < C by omega) hq hF h0
        rw [e3, e4]
        simp only [bnd3, bnd7]
        obtain ⟨n1, rfl⟩ : ∃ n, n1 = n + 1 := ⟨n1 - 1, by omega⟩
        obtain ⟨n2, rfl⟩ : ∃ n, n2 = n + 1 := ⟨n2 - 1, by omega⟩
        have hk0 : (nI t + 0).toNatClampNeg = t := by rw [show nI t + 0 = nI t from Int32.add_zero _]; exact hkt
        rcases e1 with rfl | rfl
        · obtain ⟨a1, a2, rfl, rfl, rfl, a6, a7, a8, a9⟩ := e6 rfl
          rw [vq1 hq, a1]
          rcases a2 with rfl | rfl
          · rw [if_pos rfl, cl0 hk0]
            refine ⟨0, k1, k2, t, w4, v4, u4, w4, v4, u4, Or.inl rfl, ?_, rfl, fun _ => ⟨rfl, rfl, rfl, a6, hy, hyC, fun j hj => ?_, fun j hj h1 h2 => a9 rfl j j hj h1 hj h2⟩⟩
            · rw [D_X1_walk_39_s, vq1 hq]
              split
              · rfl
              · split
                · rfl
                · rw [if_pos rfl]
            · rw [a7 j hj]; exact hnz j hj
          · rw [if_neg (by decide), s1]
            exact ih (n2 + 1) (t + 1) w4 v4 u4 q k1 k2 (by omega) (by omega) (by omega) (by omega) hq a6 (fun h => absurd h (by omega)) (fun j hj => by
              by_cases ej : j = t
              · rw [ej]; exact a8 rfl
              · rw [a7 j (by omega)]; exact hnz j (by omega))
        · rw [e5 rfl, if_pos rfl, cl0 hk0, w39 (by rw [vu_self]; decide)]
          exact ⟨1, k1, k2, t, w3, v3, u3, w4, v4, u4, Or.inr rfl, rfl, rfl, fun h => absurd h (by decide)⟩
/-- the steps to the diagonal of a table -/
theorem dwalk_eq (hT : CT r f i R C g) (h8 : i ≠ 8) (h9 : i ≠ 9) (h10 : i ≠ 10) (h1 : 1 ≤ R) (hR : R ≤ 4) (h2 : 1 ≤ C) (hC : C ≤ 4) (hg : Sw R g) (hz : zc C (R * 5) g) :
    ∃ (G j1 j2 : Int32) (K : Nat) (w1 v1 u1 w2 v2 u2 : Nat → Int64), (G = 0 ∨ G = 1) ∧ D_X1_walk r q f i = (rs (rs (rs r 8 R C) 9 R R) 10 C C, va_up q 1 G, ds f w1 v1 u1) ∧ D_X9_init R C g = (u2, v2, w2, j1, j2, K, G) ∧ (G = 0 → w2 = w1 ∧ v2 = v1 ∧ u2 = u1 ∧ Sd R C w1 v1 u1 ∧ Rk R C w1 K) := by
  obtain ⟨a1, a2, a3⟩ := hT
  have hgn : ∀ k, k < R * 5 → ng (g k) := fun k hk => by
    have := hg k hk
    exact ⟨Int64.le_iff_toInt_le.mpr (by show (-1000000000 : Int) ≤ _; omega), Int64.le_iff_toInt_le.mpr (by show _ ≤ (1000000000 : Int); omega)⟩
  unfold D_X1_walk D_X9_init
  rw [cbl a1 a2]
  simp only [bnd3, bnd1]
  rw [rs_R' h8, a1, cun h1 hR]
  simp only [bnd3]
  rw [rs_C' h9, rs_C' h8, a2, cun h2 hC]
  simp only [bnd3]
  have hD : DH (rs (rs (rs r 8 R C) 9 R R) 10 C C) R C := ⟨⟨(rs_R' (by decide)).trans ((rs_R' (by decide)).trans rs_R), (rs_C' (by decide)).trans ((rs_C' (by decide)).trans rs_C)⟩, ⟨(rs_R' (by decide)).trans rs_R, (rs_C' (by decide)).trans rs_C⟩, rs_R, rs_C⟩
  have hf : va_up (va_up (va_up f 8 (cp 20 (f i) (f 8))) 9 (un R (zf 20 (va_up f 8 (cp 20 (f i) (f 8)) 9)))) 10 (un C (zf 20 (va_up (va_up f 8 (cp 20 (f i) (f 8))) 9 (un R (zf 20 (va_up f 8 (cp 20 (f i) (f 8)) 9))) 10))) = ds f (cp (R * 5) g (fun _ => 0)) (un R (fun _ => 0)) (un C (fun _ => 0)) := by
    unfold ds
    rw [vu_ne (show (10 : Nat) ≠ 9 by decide), vu_ne (show (10 : Nat) ≠ 8 by decide), vu_ne (show (9 : Nat) ≠ 8 by decide), un_cp hR, un_cp hC]
    congr 3
    funext k
    by_cases e : k < 20
    · rw [cpl e, cpl e, a3 k e]
    · unfold cp; rw [if_neg e, if_neg e]
  rw [hf, hD.1.1, show gap (nI R) 0 = R - 0 from gapN (b := 0) (by omega) (by omega), rcp, run, run]
  obtain ⟨G, j1, j2, K, w1, v1, u1, w2, v2, u2, hG, g1, g2, g3⟩ := dwl (r := rs (rs (rs r 8 R C) 9 R R) 10 C C) (f := f) hD hR hC (R - 0 + 1) (R + 1 - 0 + 1) 0 (cp (R * 5) g (fun _ => 0)) (un R (fun _ => 0)) (un C (fun _ => 0)) (va_up q 1 0) 1 1 (by omega) (by omega) (by omega) (by omega) vu_self ⟨⟨fun k _ => cp_ng hgn k, fun k _ => un_ng k, fun k _ => un_ng k⟩, cp_zo hz, un_zo, un_zo⟩ (fun _ k hk => by
    show -20 ≤ (cp (R * 5) g (fun _ => 0) k).toInt ∧ _
    unfold cp
    rw [if_pos hk]
    exact hg k hk) (fun j hj => absurd hj (by omega))
  refine ⟨G, j1, j2, K, w1, v1, u1, w2, v2, u2, hG, ?_, g2, g3⟩
  rw [vu2] at g1
  exact g1
end PCR
