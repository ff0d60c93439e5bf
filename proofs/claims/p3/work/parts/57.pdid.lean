section PDD
variable {r q : Nat → Int32} {f : Nat → Nat → Int64} {w v u : Nat → Int64} {R C a b t m c0 : Nat} {x : Int64} {i1 i2 i3 : Int32} {p0 yy : Int32}
abbrev Lb : Type := Int32 → (Nat → Int32) → (Nat → Nat → Int64) → Int32 × (Nat → Int32) × (Nat → Nat → Int64)
variable {lbc : Lb}
theorem g158 (h : ¬ q 1 = 0) : D_X1_clearCross_j158 r p0 lbc yy q f = lbc (yy + 1) q f := by rw [D_X1_clearCross_j158_s, if_neg h]
theorem g158b (h : ¬ q 1 = 0) : D_X1_clearCross_j158_1 r p0 lbc yy q f = lbc (yy + 1) q f := by rw [D_X1_clearCross_j158_1_s, if_neg h]
theorem g103 (h : ¬ q 1 = 0) {n : Nat} {z : Int32} : D_X1_clearCross_103 r p0 lbc yy (n + 1) z q f = lbc (yy + 1) q f := by
  rw [D_X1_clearCross_103_s]
  split
  · exact g158 h
  · first | exact g158 h | (rw [if_neg h]; exact g158 h)
theorem g103b (h : ¬ q 1 = 0) {n : Nat} {z : Int32} : D_X1_clearCross_103_1 r p0 lbc yy (n + 1) z q f = lbc (yy + 1) q f := by
  rw [D_X1_clearCross_103_1_s]
  split
  · exact g158b h
  · first | exact g158b h | (rw [if_neg h]; exact g158b h)
theorem g43 (h : ¬ q 1 = 0) {n : Nat} {z : Int32} : D_X1_clearCross_43 r p0 lbc yy (n + 1) z q f = lbc (yy + 1) q f := by
  rw [D_X1_clearCross_43_s]
  split
  · exact g103 h
  · first | exact g103b h | (rw [if_neg h]; exact g103b h)
theorem r80g {n y : Nat} : D_X9_takeOff_80 R C i1 i2 i3 t v (n + 1) y u w 1 = (u, v, w, 1) := by
  rw [D_X9_takeOff_80_s]
  split
  · rfl
  · rw [if_neg (by decide)]
theorem r4g {n y : Nat} : D_X9_takeOff_4 R C u i1 i2 i3 t (n + 1) y v w 1 = (u, v, w, 1) := by
  rw [D_X9_takeOff_4_s]
  split
  · exact r80g
  · rw [if_neg (by decide)]; exact r80g
theorem fdv_mad {y p z : Int64} (hy : ng y) (hx : ng x) (hz : ng z) (hp : 0 < p.toInt) : (z + -(fdv x p) * y).toInt = z.toInt - (fdv x p).toInt * y.toInt := by
  have h1 := fdv_b hx hp
  have h2 := neg_b (t := fdv x p) (by omega) (by omega)
  rw [(mad_int (t := -(fdv x p)) hz hy (by omega) (by omega)).1, h2, Int.neg_mul]
  omega
/-- the rows below t -/
theorem LR (hD : DH r R C) (hR : R ≤ 4) (hC : C ≤ 4) (ht : t < R ∧ t < C) : ∀ n1 n2 y : Nat, ∀ (w v : Nat → Int64) (q : Nat → Int32), t + 1 ≤ y → y ≤ R → R - y < n1 → R - y < n2 → q 1 = 0 → Sd R C w v u → 0 < (w (t * 5 + t)).toInt →
    (∃ (w1 v1 w2 v2 u2 : Nat → Int64), D_X1_clearCross_43 r (nI t) lbc yy n1 (nI y) q (ds f w v u) = lbc (yy + 1) (va_up q 1 1) (ds f w1 v1 u) ∧ D_X9_takeOff_4 R C u i1 i2 i3 t n2 y v w 0 = (u2, v2, w2, 1)) ∨
    (∃ (w1 v1 : Nat → Int64) (Q : Nat → Int), D_X1_clearCross_43 r (nI t) lbc yy n1 (nI y) q (ds f w v u) = D_X1_clearCross_103 r (nI t) lbc yy (C - (t + 1) + 1) (nI (t + 1)) q (ds f w1 v1 u) ∧ D_X9_takeOff_4 R C u i1 i2 i3 t n2 y v w 0 = D_X9_takeOff_80 R C i1 i2 i3 t v1 (C + 1 - (t + 1) + 1) (t + 1) u w1 0 ∧ Sd R C w1 v1 u ∧ (∀ a b, a < y → b < C → w1 (a * 5 + b) = w (a * 5 + b)) ∧ (∀ a b, y ≤ a → a < R → b < C → (w1 (a * 5 + b)).toInt = (w (a * 5 + b)).toInt - Q a * (w (t * 5 + b)).toInt) ∧ ∀ a, y ≤ a → a < R → 0 ≤ (w1 (a * 5 + t)).toInt ∧ (w1 (a * 5 + t)).toInt < (w (t * 5 + t)).toInt) := by
  intro n1
  induction n1 with
  | zero => intro n2 y w v q _ _ h; omega
  | succ n1 ih =>
    intro n2 y w v q hy0 hy h1 h2 hq hF hp
    obtain ⟨n2, rfl⟩ : ∃ n, n2 = n + 1 := ⟨n2 - 1, by omega⟩
    by_cases e : R ≤ y
    · rw [D_X1_clearCross_43_s, D_X9_takeOff_4_s, hD.1.1, if_pos (ile e (by omega)), if_pos e, hD.1.2, s1, gapN (by omega) (by omega), D_X9_takeOff_j76_s]
      exact Or.inr ⟨w, v, fun _ => 0, rfl, rfl, hF, fun a b _ _ => rfl, fun a b h1 h2 => absurd h2 (by omega), fun a h1 h2 => absurd h2 (by omega)⟩
    · have hx := hF.1.1 (y * 5 + t) (by omega)
      obtain ⟨G, hG, g1, g2, g3⟩ := addR_eq (r := r) (q := q) (f := f) (a := y) (b := t) (x := -(fdv (w (y * 5 + t)) (w (t * 5 + t)))) (s1' := i1) (s2' := i2) (i3 := i3) hD hR hC (by omega) ht.1 (by omega) hF (tb_fdv hx hp)
      rw [D_X1_clearCross_43_s, D_X9_takeOff_4_s, hD.1.1, if_neg (nile e (by omega)), if_pos hq, if_neg e, if_pos rfl]
      simp only [bnd1]
      rw [cget (by omega) (by omega), cget (by omega) (by omega), ds8, cpl (by omega), cpl (by omega), cdd (nzp hp), g1, g2]
      simp only [bnd2]
      rcases hG with rfl | rfl
      · rw [vq1 hq, s1]
        have hat : ∀ b, b < C → (ar C y t (-(fdv (w (y * 5 + t)) (w (t * 5 + t)))) w (y * 5 + b)).toInt = (w (y * 5 + b)).toInt - (fdv (w (y * 5 + t)) (w (t * 5 + t))).toInt * (w (t * 5 + b)).toInt := fun b hb => by
          rw [ar_at hb (by omega)]
          exact fdv_mad (hF.1.1 _ (by omega)) hx (hF.1.1 _ (by omega)) hp
        have hoff : ∀ a b, b < C → a ≠ y → ar C y t (-(fdv (w (y * 5 + t)) (w (t * 5 + t)))) w (a * 5 + b) = w (a * 5 + b) := fun a b hb ha => ar_off (by omega) ha
        have hrm : ar C y t (-(fdv (w (y * 5 + t)) (w (t * 5 + t)))) w (y * 5 + t) = rmf (w (y * 5 + t)) (w (t * 5 + t)) := by rw [ar_at ht.2 (by omega)]; rfl
        have htt : ar C y t (-(fdv (w (y * 5 + t)) (w (t * 5 + t)))) w (t * 5 + t) = w (t * 5 + t) := hoff t t ht.2 (by omega)
        rcases ih n2 (y + 1) _ _ q (by omega) (by omega) (by omega) (by omega) hq (g3 rfl) (by rw [htt]; exact hp) with h | ⟨w3, v3, Q, k1, k2, k3, k4, k5, k6⟩
        · exact Or.inl h
        · refine Or.inr ⟨w3, v3, fun a => if a = y then (fdv (w (y * 5 + t)) (w (t * 5 + t))).toInt else Q a, k1, k2, k3, fun a b ha hb => ?_, fun a b ha hb hc => ?_, fun a ha hb => ?_⟩
          · rw [k4 a b (by omega) hb, hoff a b hb (by omega)]
          · show (w3 (a * 5 + b)).toInt = (w (a * 5 + b)).toInt - (if a = y then (fdv (w (y * 5 + t)) (w (t * 5 + t))).toInt else Q a) * (w (t * 5 + b)).toInt
            by_cases ea : a = y
            · rw [if_pos ea, ea, k4 y b (by omega) hc, hat b hc]
            · rw [if_neg ea, k5 a b (by omega) hb hc, hoff a b hc ea, hoff t b hc (by omega)]
          · by_cases ea : a = y
            · rw [ea, k4 y t (by omega) ht.2, hrm]
              exact rmf_int hp
            · have h5 := k6 a (by omega) hb
              rw [htt] at h5
              exact h5
      · refine Or.inl ?_
        obtain ⟨n1, rfl⟩ : ∃ n, n1 = n + 1 := ⟨n1 - 1, by omega⟩
        obtain ⟨n2, rfl⟩ : ∃ n, n2 = n + 1 := ⟨n2 - 1, by omega⟩
        rw [g43 (by rw [vu_self]; decide), r4g]
        exact ⟨_, _, _, _, _, rfl, rfl⟩
/-- the columns behind t -/
theorem LC (hD : DH r R C) (hR : R ≤ 4) (hC : C ≤ 4) (ht : t < R ∧ t < C) : ∀ n1 n2 y : Nat, ∀ (w u : Nat → Int64) (q : Nat → Int32), t + 1 ≤ y → y ≤ C → C - y < n1 → C - y < n2 → q 1 = 0 → Sd R C w v u → 0 < (w (t * 5 + t)).toInt →
    (∃ (w1 u1 w2 v2 u2 : Nat → Int64), D_X1_clearCross_103 r (nI t) lbc yy n1 (nI y) q (ds f w v u) = lbc (yy + 1) (va_up q 1 1) (ds f w1 v u1) ∧ D_X9_takeOff_80 R C i1 i2 i3 t v n2 y u w 0 = (u2, v2, w2, 1)) ∨
    (∃ (w1 u1 : Nat → Int64) (K : Nat → Int), D_X1_clearCross_103 r (nI t) lbc yy n1 (nI y) q (ds f w v u) = D_X1_clearCross_j158 r (nI t) lbc yy q (ds f w1 v u1) ∧ D_X9_takeOff_80 R C i1 i2 i3 t v n2 y u w 0 = (u1, v, w1, 0) ∧ Sd R C w1 v u1 ∧ (∀ a b, a < R → b < y → w1 (a * 5 + b) = w (a * 5 + b)) ∧ (∀ a b, a < R → y ≤ b → b < C → (w1 (a * 5 + b)).toInt = (w (a * 5 + b)).toInt - K b * (w (a * 5 + t)).toInt) ∧ ∀ b, y ≤ b → b < C → 0 ≤ (w1 (t * 5 + b)).toInt ∧ (w1 (t * 5 + b)).toInt < (w (t * 5 + t)).toInt) := by
  intro n1
  induction n1 with
  | zero => intro n2 y w u q _ _ h; omega
  | succ n1 ih =>
    intro n2 y w u q hy0 hy h1 h2 hq hF hp
    obtain ⟨n2, rfl⟩ : ∃ n, n2 = n + 1 := ⟨n2 - 1, by omega⟩
    by_cases e : C ≤ y
    · rw [D_X1_clearCross_103_s, D_X9_takeOff_80_s, hD.1.2, if_pos (ile e (by omega)), if_pos e]
      exact Or.inr ⟨w, u, fun _ => 0, rfl, rfl, hF, fun a b _ _ => rfl, fun a b _ h1 h2 => absurd h2 (by omega), fun a h1 h2 => absurd h2 (by omega)⟩
    · have hx := hF.1.1 (t * 5 + y) (by omega)
      obtain ⟨G, hG, g1, g2, g3⟩ := addC_eq (r := r) (q := q) (f := f) (a := y) (b := t) (x := -(fdv (w (t * 5 + y)) (w (t * 5 + t)))) (s1' := i1) (s2' := i2) (i3 := i3) hD hR hC (by omega) ht.2 (by omega) hF (tb_fdv hx hp)
      rw [D_X1_clearCross_103_s, D_X9_takeOff_80_s, hD.1.2, if_neg (nile e (by omega)), if_pos hq, if_neg e, if_pos rfl]
      simp only [bnd1]
      rw [cget (by omega) (by omega), cget (by omega) (by omega), ds8, cpl (by omega), cpl (by omega), cdd (nzp hp), g1, g2]
      simp only [bnd2]
      have hac : ∀ a b, a < R → b < 5 → ac R y t (-(fdv (w (t * 5 + y)) (w (t * 5 + t)))) w (a * 5 + b) = if b = y then w (a * 5 + y) + -(fdv (w (t * 5 + y)) (w (t * 5 + t))) * w (a * 5 + t) else w (a * 5 + b) := fun a b ha hb => by
        unfold ac
        by_cases e : b = y
        · rw [if_pos (by omega), if_pos e, e, show (a * 5 + y) / 5 = a by omega]
        · rw [if_neg (by omega), if_neg e]
      rcases hG with rfl | rfl
      · rw [vq1 hq, s1]
        have hat : ∀ a, a < R → (ac R y t (-(fdv (w (t * 5 + y)) (w (t * 5 + t)))) w (a * 5 + y)).toInt = (w (a * 5 + y)).toInt - (fdv (w (t * 5 + y)) (w (t * 5 + t))).toInt * (w (a * 5 + t)).toInt := fun a ha => by
          rw [hac a y ha (by omega), if_pos rfl]
          exact fdv_mad (hF.1.1 _ (by omega)) hx (hF.1.1 _ (by omega)) hp
        have hoff : ∀ a b, a < R → b < C → b ≠ y → ac R y t (-(fdv (w (t * 5 + y)) (w (t * 5 + t)))) w (a * 5 + b) = w (a * 5 + b) := fun a b ha hb he => by rw [hac a b ha (by omega), if_neg he]
        have hrm : ac R y t (-(fdv (w (t * 5 + y)) (w (t * 5 + t)))) w (t * 5 + y) = rmf (w (t * 5 + y)) (w (t * 5 + t)) := by rw [hac t y ht.1 (by omega), if_pos rfl]; rfl
        have htt : ac R y t (-(fdv (w (t * 5 + y)) (w (t * 5 + t)))) w (t * 5 + t) = w (t * 5 + t) := hoff t t ht.1 ht.2 (by omega)
        rcases ih n2 (y + 1) _ _ q (by omega) (by omega) (by omega) (by omega) hq (g3 rfl) (by rw [htt]; exact hp) with h | ⟨w3, u3, K, k1, k2, k3, k4, k5, k6⟩
        · exact Or.inl h
        · refine Or.inr ⟨w3, u3, fun b => if b = y then (fdv (w (t * 5 + y)) (w (t * 5 + t))).toInt else K b, k1, k2, k3, fun a b ha hb => ?_, fun a b ha hb hc => ?_, fun b ha hb => ?_⟩
          · rw [k4 a b ha (by omega), hoff a b ha (by omega) (by omega)]
          · show (w3 (a * 5 + b)).toInt = (w (a * 5 + b)).toInt - (if b = y then (fdv (w (t * 5 + y)) (w (t * 5 + t))).toInt else K b) * (w (a * 5 + t)).toInt
            by_cases ea : b = y
            · rw [if_pos ea, ea, k4 a y ha (by omega), hat a ha]
            · rw [if_neg ea, k5 a b ha (by omega) hc, hoff a b ha hc ea, hoff a t ha ht.2 (by omega)]
          · by_cases ea : b = y
            · rw [ea, k4 t y ht.1 (by omega), hrm]
              exact rmf_int hp
            · have h5 := k6 b (by omega) hb
              rw [htt] at h5
              exact h5
      · refine Or.inl ?_
        obtain ⟨n1, rfl⟩ : ∃ n, n1 = n + 1 := ⟨n1 - 1, by omega⟩
        obtain ⟨n2, rfl⟩ : ∃ n, n2 = n + 1 := ⟨n2 - 1, by omega⟩
        rw [g103 (by rw [vu_self]; decide), r80g]
        exact ⟨_, _, _, _, _, rfl, rfl⟩
end PDD
