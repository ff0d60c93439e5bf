/-! ===== The steps to the diagonal once more, with a property that each step keeps ===== -/
/-- a property of the diagonal, its changes and their sides, at t, that every step keeps -/
def JD (R C : Nat) (J : Nat → (Nat → Int64) → (Nat → Int64) → (Nat → Int64) → Int32 → Int32 → Prop) : Prop := ∀ t, t < R → t < C → ∀ w v u s1 s2, J t w v u s1 s2 → Sd R C w v u →
  (∀ i j, t ≤ i → i < R → t ≤ j → j < R → i ≠ j → J t (xr C i j w) (xr R i j v) u (-s1) s2) ∧
  (∀ i j, t ≤ i → i < C → t ≤ j → j < C → i ≠ j → J t (xc R i j w) v (xc C i j u) s1 (-s2)) ∧
  (∀ i, t ≤ i → i < R → J t (tr C i w) (tr R i v) u (-s1) s2) ∧
  (∀ i j x, t ≤ i → i < R → t ≤ j → j < R → i ≠ j → tb9 x → Sd R C (ar C i j x w) (ar R i j x v) u → J t (ar C i j x w) (ar R i j x v) u s1 s2) ∧
  (∀ i j x, t ≤ i → i < C → t ≤ j → j < C → i ≠ j → tb9 x → Sd R C (ac R i j x w) v (ac C i j x u) → J t (ac R i j x w) v (ac C i j x u) s1 s2) ∧
  (((∀ a, t < a → a < R → w (a * 5 + t) = 0) ∧ (∀ b, t < b → b < C → w (t * 5 + b) = 0) ∧ 0 < (w (t * 5 + t)).toInt ∧ ∀ i j, t < i → i < R → t < j → j < C → w (i * 5 + j) - w (i * 5 + j) / w (t * 5 + t) * w (t * 5 + t) = 0) → J (t + 1) w v u s1 s2)
section PJD
variable {r q : Nat → Int32} {f : Nat → Nat → Int64} {w v u g : Nat → Int64} {R C a b t m c0 i : Nat} {x : Int64} {i1 i2 i3 : Int32} {p0 yy : Int32} {lbc : Lb} {J : Nat → (Nat → Int64) → (Nat → Int64) → (Nat → Int64) → Int32 → Int32 → Prop}
theorem dv19J (hD : DH r R C) (hR : R ≤ 4) (hC : C ≤ 4) (ht : t < R ∧ t < C) (hp : w (t * 5 + t) ≠ 0) {i : Nat} (hi : i < R) {lc : Int32 → Int32} {lr : Nat → Int32 × (Nat → Int64) × (Nat → Int64) × Int32} : ∀ n1 n2 y : Nat, y ≤ C → C - y < n1 → C - y < n2 → ((∀ j, y ≤ j → j < C → w (i * 5 + j) - w (i * 5 + j) / w (t * 5 + t) * w (t * 5 + t) = 0) ∧ D_X1_findUndividedRow_19 r q (ds f w v u) (nI t) lc (nI i) n1 (nI y) = lc (nI (i + 1)) ∧ D_X9_isDividing_19 R C u v w i1 i2 i3 0 t lr i n2 y = lr (i + 1)) ∨ ((∃ j, y ≤ j ∧ j < C ∧ ¬ w (i * 5 + j) - w (i * 5 + j) / w (t * 5 + t) * w (t * 5 + t) = 0) ∧ D_X1_findUndividedRow_19 r q (ds f w v u) (nI t) lc (nI i) n1 (nI y) = nI i ∧ D_X9_isDividing_19 R C u v w i1 i2 i3 0 t lr i n2 y = (0, ar R t i 1 v, ar C t i 1 w, D_X9_look R C u (ar R t i 1 v) (ar C t i 1 w) i1 i2 i3 0)) := by
  intro n1
  induction n1 with
  | zero => intro n2 y _ h; omega
  | succ n1 ih =>
    intro n2 y hy h1 h2
    obtain ⟨n2, rfl⟩ : ∃ n, n2 = n + 1 := ⟨n2 - 1, by omega⟩
    rw [D_X1_findUndividedRow_19_s, D_X9_isDividing_19_s, hD.1.2]
    by_cases e : C ≤ y
    · rw [if_pos (ile e (by omega)), if_pos e, s1]
      exact Or.inl ⟨fun j z1 z2 => absurd z2 (by omega), rfl, rfl⟩
    · rw [if_neg (nile e (by omega)), if_neg e]
      simp only [bnd1]
      rw [cget (by omega) (by omega), cget (by omega) (by omega), ds8, cpl (by omega), cpl (by omega), cdv hp]
      by_cases e0 : lg_cmp (w (i * 5 + y) - w (i * 5 + y) / w (t * 5 + t) * w (t * 5 + t)) 0 = 0
      · rw [if_pos e0, if_pos e0, if_neg (show ¬ (1 : Int32) = 0 by decide), s1]
        rcases ih n2 (y + 1) (by omega) (by omega) (by omega) with ⟨h0, h⟩ | ⟨⟨j, k1, k2, k3⟩, k4⟩
        · refine Or.inl ⟨fun j z1 z2 => ?_, h⟩
          by_cases ej : j = y
          · rw [ej]; exact lgE.mp e0
          · exact h0 j (by omega) z2
        · exact Or.inr ⟨⟨j, by omega, k2, k3⟩, k4⟩
      · rw [if_neg e0, if_neg e0, if_pos (show (0 : Int32) = 0 from rfl)]
        exact Or.inr ⟨⟨y, Nat.le_refl _, by omega, fun h => e0 (lgE.mpr h)⟩, rfl, rfl⟩
theorem dv4J (hD : DH r R C) (hR : R ≤ 4) (hC : C ≤ 4) (ht : t < R ∧ t < C) (hp : w (t * 5 + t) ≠ 0) : ∀ n1 n2 y : Nat, t + 1 ≤ y → y ≤ R → R - y < n1 → R - y < n2 → ((∀ i j, y ≤ i → i < R → t < j → j < C → w (i * 5 + j) - w (i * 5 + j) / w (t * 5 + t) * w (t * 5 + t) = 0) ∧ D_X1_findUndividedRow_4 r q (ds f w v u) (nI t) n1 (nI y) = -1 ∧ D_X9_isDividing_4 R C u v w i1 i2 i3 0 t n2 y = (1, v, w, 0)) ∨ (∃ i j, t < i ∧ i < R ∧ t < j ∧ j < C ∧ ¬ w (i * 5 + j) - w (i * 5 + j) / w (t * 5 + t) * w (t * 5 + t) = 0 ∧ D_X1_findUndividedRow_4 r q (ds f w v u) (nI t) n1 (nI y) = nI i ∧ D_X9_isDividing_4 R C u v w i1 i2 i3 0 t n2 y = (0, ar R t i 1 v, ar C t i 1 w, D_X9_look R C u (ar R t i 1 v) (ar C t i 1 w) i1 i2 i3 0)) := by
  intro n1
  induction n1 with
  | zero => intro n2 y _ _ h; omega
  | succ n1 ih =>
    intro n2 y hy0 hy h1 h2
    obtain ⟨n2, rfl⟩ : ∃ n, n2 = n + 1 := ⟨n2 - 1, by omega⟩
    rw [D_X1_findUndividedRow_4_s, D_X9_isDividing_4_s, hD.1.1]
    by_cases e : R ≤ y
    · rw [if_pos (ile e (by omega)), if_pos e]
      exact Or.inl ⟨fun i j z1 z2 => absurd z2 (by omega), rfl, rfl⟩
    · rw [if_neg (nile e (by omega)), if_neg e, hD.1.2, s1, gapN (by omega) (by omega)]
      rcases dv19J (r := r) (q := q) (f := f) (v := v) (u := u) (i1 := i1) (i2 := i2) (i3 := i3) hD hR hC ht hp (show y < R by omega) (lc := D_X1_findUndividedRow_4 r q (ds f w v u) (nI t) n1) (lr := D_X9_isDividing_4 R C u v w i1 i2 i3 0 t n2) (C - (t + 1) + 1) (C + 1 - (t + 1) + 1) (t + 1) (by omega) (by omega) (by omega) with ⟨k0, k1, k2⟩ | ⟨⟨j, k1, k2, k3⟩, k4, k5⟩
      · rw [k1, k2]
        rcases ih n2 (y + 1) (by omega) (by omega) (by omega) (by omega) with ⟨h0, h⟩ | h
        · refine Or.inl ⟨fun i j z1 z2 z3 z4 => ?_, h⟩
          by_cases ei : i = y
          · rw [ei]; exact k0 j z3 z4
          · exact h0 i j (by omega) z2 z3 z4
        · exact Or.inr h
      · exact Or.inr ⟨y, j, by omega, by omega, by omega, k2, k3, k4, k5⟩
theorem dv_eqJ (hD : DH r R C) (hR : R ≤ 4) (hC : C ≤ 4) (ht : t < R ∧ t < C) (hp : w (t * 5 + t) ≠ 0) : ((∀ i j, t < i → i < R → t < j → j < C → w (i * 5 + j) - w (i * 5 + j) / w (t * 5 + t) * w (t * 5 + t) = 0) ∧ D_X1_findUndividedRow r q (ds f w v u) (nI t) = -1 ∧ D_X9_isDividing R C u v w i1 i2 i3 0 t = (1, v, w, 0)) ∨ (∃ i j, t < i ∧ i < R ∧ t < j ∧ j < C ∧ ¬ w (i * 5 + j) - w (i * 5 + j) / w (t * 5 + t) * w (t * 5 + t) = 0 ∧ D_X1_findUndividedRow r q (ds f w v u) (nI t) = nI i ∧ D_X9_isDividing R C u v w i1 i2 i3 0 t = (0, ar R t i 1 v, ar C t i 1 w, D_X9_look R C u (ar R t i 1 v) (ar C t i 1 w) i1 i2 i3 0)) := by
  unfold D_X1_findUndividedRow D_X9_isDividing
  rw [hD.1.1, s1, gapN (by omega) (by omega)]
  exact dv4J hD hR hC ht hp _ _ (t + 1) (Nat.le_refl _) (by omega) (by omega) (by omega)
theorem dbr_eqJ (hJ : JD R C J) (hjj : J t w v u i1 i2) (hD : DH r R C) (hR : R ≤ 4) (hC : C ≤ 4) (hm : t ≤ m ∧ m < R ∧ t ≤ c0 ∧ c0 < C) (hF : Sd R C w v u) (hnz : ¬ w (m * 5 + c0) = 0) :
    ∃ (w1 v1 u1 : Nat → Int64) (j1 j2 : Int32), D_X1_bring r q (ds f w v u) (nI m) (nI c0) (nI t) = ds f w1 v1 u1 ∧ D_X9_bring R C u v w i1 i2 i3 0 t m c0 = (u1, v1, w1, j1, j2) ∧ (Sd R C w1 v1 u1 ∧ J t w1 v1 u1 j1 j2) ∧ Bt R C t m c0 w w1 ∧ Fj t w w1 := by
  have hD0 := hD
  obtain ⟨⟨d1, d2⟩, ⟨d3, d4⟩, d5, d6⟩ := hD0
  have ht : t < R ∧ t < C := ⟨by omega, by omega⟩
  -- the rows
  have hA : ∃ (wa va : Nat → Int64) (ja : Int32), D_X1_bring r q (ds f w v u) (nI m) (nI c0) (nI t) = D_X1_bring_j25 r q (nI c0) (nI t) (ds f wa va u) ∧ D_X9_bring R C u v w i1 i2 i3 0 t m c0 = D_X9_bring_j32 R C u i2 t c0 va wa ja ∧ (Sd R C wa va u ∧ J t wa va u ja i2) ∧ Fj t w wa ∧ ∀ a b, t ≤ a → a < R → b < C → wa (a * 5 + b) = w ((if a = t then m else if a = m then t else a) * 5 + b) := by
    unfold D_X1_bring D_X9_bring
    by_cases e : m = t
    · rw [if_pos (by rw [e]), if_pos e]
      refine ⟨w, v, i1, rfl, rfl, ⟨hF, hjj⟩, fun j _ => rfl, fun a b h1 h2 h3 => ?_⟩
      by_cases e1 : a = t
      · rw [if_pos e1, e1, e]
      · rw [if_neg e1, if_neg (by omega)]
    · rw [if_neg (by rw [neqP (by omega) (by omega)]; exact e), if_neg e]
      simp only [bnd1]
      rw [cexR d2 (by omega) (by omega) (by omega), ds8, cp_xr (by omega) (by omega), ds_s8, cexR d4 (by omega) (by omega) (by omega), ds9, cp_xr (by omega) (by omega), ds_s9]
      refine ⟨xr C m t w, xr R m t v, -i1, rfl, rfl, ⟨Sd_xr hm.2.1 ht.1 hF, (hJ t ht.1 ht.2 w v u i1 i2 hjj hF).1 m t hm.1 hm.2.1 (Nat.le_refl _) ht.1 e⟩, Fj_xr hm.1 (Nat.le_refl _) (by omega), fun a b h1 h2 h3 => ?_⟩
      unfold xr
      by_cases e1 : a = m
      · rw [if_pos (by omega), if_neg (by omega), if_pos e1]; congr 1; omega
      · by_cases e2 : a = t
        · rw [if_neg (by omega), if_pos (by omega), if_pos e2]; congr 1; omega
        · rw [if_neg (by omega), if_neg (by omega), if_neg e2, if_neg e1]
  obtain ⟨wa, va, ja, a1, a2, ⟨a3, a3j⟩, a5, a4⟩ := hA
  -- the columns
  have hB : ∃ (wb ub : Nat → Int64) (jb : Int32), D_X1_bring_j25 r q (nI c0) (nI t) (ds f wa va u) = D_X1_bring_j50 r q (nI t) (ds f wb va ub) ∧ D_X9_bring_j32 R C u i2 t c0 va wa ja = D_X9_bring_j64 R C t va ja ub wb jb ∧ (Sd R C wb va ub ∧ J t wb va ub ja jb) ∧ Fj t w wb ∧ ∀ a b, a < R → t ≤ b → b < C → wb (a * 5 + b) = wa (a * 5 + (if b = t then c0 else if b = c0 then t else b)) := by
    rw [D_X1_bring_j25_s, D_X9_bring_j32_s]
    by_cases e : c0 = t
    · rw [if_pos (by rw [e]), if_pos e]
      refine ⟨wa, u, i2, rfl, rfl, ⟨a3, a3j⟩, a5, fun a b h1 h2 h3 => ?_⟩
      by_cases e1 : b = t
      · rw [if_pos e1, e1, e]
      · rw [if_neg e1, if_neg (by omega)]
    · rw [if_neg (by rw [neqP (by omega) (by omega)]; exact e), if_neg e]
      simp only [bnd1]
      rw [cexC (by decide) d1 hR (by omega) (by omega), ds8, cp_xc (by omega) (by omega) hR, ds_s8, cexC (by decide) d5 hC (by omega) (by omega), ds10, cp_xc (by omega) (by omega) hC, ds_s10]
      refine ⟨xc R c0 t wa, xc C c0 t u, -i2, rfl, rfl, ⟨Sd_xc hC hm.2.2.2 ht.2 a3, (hJ t ht.1 ht.2 wa va u ja i2 a3j a3).2.1 c0 t hm.2.2.1 hm.2.2.2 (Nat.le_refl _) ht.2 e⟩, Fj_t a5 (Fj_xc hm.2.2.1 (Nat.le_refl _) (by omega)), fun a b h1 h2 h3 => ?_⟩
      unfold xc
      by_cases e1 : b = c0
      · rw [if_pos (by omega), if_neg (by omega), if_pos e1]; congr 1; omega
      · by_cases e2 : b = t
        · rw [if_neg (by omega), if_pos (by omega), if_pos e2]; congr 1; omega
        · rw [if_neg (by omega), if_neg (by omega), if_neg e2, if_neg e1]
  obtain ⟨wb, ub, jb, b1, b2, ⟨b3, b3j⟩, b5, b4⟩ := hB
  have hp : ∀ a b, t ≤ a → a < R → t ≤ b → b < C → wb (a * 5 + b) = w ((if a = t then m else if a = m then t else a) * 5 + (if b = t then c0 else if b = c0 then t else b)) := by
    intro a b h1 h2 h3 h4
    rw [b4 a b h2 h3 h4]
    exact a4 a _ h1 h2 (by (repeat' split) <;> omega)
  have hpt : wb (t * 5 + t) = w (m * 5 + c0) := by
    rw [hp t t (Nat.le_refl _) ht.1 (Nat.le_refl _) ht.2, if_pos rfl, if_pos rfl]
  rw [a1, a2, b1, b2, dj50 hD hR hC ht, D_X9_bring_j64_s]
  by_cases e : 0 ≤ lg_cmp (wb (t * 5 + t)) 0
  · rw [if_pos e, if_pos e]
    refine ⟨wb, va, ub, ja, jb, rfl, rfl, ⟨b3, b3j⟩, ⟨pos_of e (by rw [hpt]; exact hnz), by rw [hpt], 1, Or.inl rfl, fun a b h1 h2 h3 h4 => ?_⟩, b5⟩
    rw [hp a b h1 h2 h3 h4, ite_self, Int.one_mul]
  · rw [if_neg e, if_neg e]
    have hb0 := b3.1.1 (t * 5 + t) (by omega)
    refine ⟨tr C t wb, tr R t va, ub, -ja, jb, rfl, rfl, ⟨Sd_tr ht.1 b3, (hJ t ht.1 ht.2 wb va ub ja jb b3j b3).2.2.1 t (Nat.le_refl _) ht.1⟩, ⟨?_, ?_, -1, Or.inr rfl, fun a b h1 h2 h3 h4 => ?_⟩, Fj_t b5 (Fj_tr (by omega))⟩
    · rw [tr_r ht.2 (by omega)]; exact pos_neg hb0 e
    · rw [tr_r ht.2 (by omega), na_neg hb0, hpt]
    · rw [← hp a b h1 h2 h3 h4]
      unfold tr
      by_cases e1 : a = t
      · rw [if_pos (by omega), if_pos e1, neg_int (b3.1.1 _ (by omega))]; omega
      · rw [if_neg (by omega), if_neg e1, Int.one_mul]
theorem LRJ (hJ : JD R C J) (hD : DH r R C) (hR : R ≤ 4) (hC : C ≤ 4) (ht : t < R ∧ t < C) : ∀ n1 n2 y : Nat, ∀ (w v : Nat → Int64) (q : Nat → Int32), t + 1 ≤ y → y ≤ R → R - y < n1 → R - y < n2 → q 1 = 0 → Sd R C w v u → J t w v u i1 i2 → 0 < (w (t * 5 + t)).toInt →
    (∃ (w1 v1 w2 v2 u2 : Nat → Int64), D_X1_clearCross_43 r (nI t) lbc yy n1 (nI y) q (ds f w v u) = lbc (yy + 1) (va_up q 1 1) (ds f w1 v1 u) ∧ D_X9_takeOff_4 R C u i1 i2 i3 t n2 y v w 0 = (u2, v2, w2, 1)) ∨
    (∃ (w1 v1 : Nat → Int64) (Q : Nat → Int), D_X1_clearCross_43 r (nI t) lbc yy n1 (nI y) q (ds f w v u) = D_X1_clearCross_103 r (nI t) lbc yy (C - (t + 1) + 1) (nI (t + 1)) q (ds f w1 v1 u) ∧ D_X9_takeOff_4 R C u i1 i2 i3 t n2 y v w 0 = D_X9_takeOff_80 R C i1 i2 i3 t v1 (C + 1 - (t + 1) + 1) (t + 1) u w1 0 ∧ (Sd R C w1 v1 u ∧ J t w1 v1 u i1 i2) ∧ (∀ a b, a < y → b < C → w1 (a * 5 + b) = w (a * 5 + b)) ∧ (∀ a b, y ≤ a → a < R → b < C → (w1 (a * 5 + b)).toInt = (w (a * 5 + b)).toInt - Q a * (w (t * 5 + b)).toInt) ∧ ∀ a, y ≤ a → a < R → 0 ≤ (w1 (a * 5 + t)).toInt ∧ (w1 (a * 5 + t)).toInt < (w (t * 5 + t)).toInt) := by
  intro n1
  induction n1 with
  | zero => intro n2 y w v q _ _ h; omega
  | succ n1 ih =>
    intro n2 y w v q hy0 hy h1 h2 hq hF hjj hp
    obtain ⟨n2, rfl⟩ : ∃ n, n2 = n + 1 := ⟨n2 - 1, by omega⟩
    by_cases e : R ≤ y
    · rw [D_X1_clearCross_43_s, D_X9_takeOff_4_s, hD.1.1, if_pos (ile e (by omega)), if_pos e, hD.1.2, s1, gapN (by omega) (by omega), D_X9_takeOff_j76_s]
      exact Or.inr ⟨w, v, fun _ => 0, rfl, rfl, ⟨hF, hjj⟩, fun a b _ _ => rfl, fun a b h1 h2 => absurd h2 (by omega), fun a h1 h2 => absurd h2 (by omega)⟩
    · have hx := hF.1.1 (y * 5 + t) (by omega)
      obtain ⟨G, hG, g1, g2, g3⟩ := addR_eq (r := r) (q := q) (f := f) (a := y) (b := t) (x := -(fdv (w (y * 5 + t)) (w (t * 5 + t)))) (s1' := i1) (s2' := i2) (i3 := i3) hD hR hC (by omega) ht.1 (by omega) hF (tb_fdv hx hp)
      rw [D_X1_clearCross_43_s, D_X9_takeOff_4_s, hD.1.1, if_neg (nile e (by omega)), if_pos hq, if_neg e, if_pos rfl]
      simp only [bnd1]
      rw [cget (by omega) (by omega), cget (by omega) (by omega), ds8, cpl (by omega), cpl (by omega), cdd (nzp hp), g1, g2]
      simp only [bnd2]
      rcases hG with rfl | rfl
      · rw [vq1 hq, s1]
        have hat : ∀ b, b < C → (ar C y t (-(fdv (w (y * 5 + t)) (w (t * 5 + t)))) w (y * 5 + b)).toInt = (w (y * 5 + b)).toInt - (fdv (w (y * 5 + t)) (w (t * 5 + t))).toInt * (w (t * 5 + b)).toInt := fun b hb => by
          rw [ar_at hb (by omega)]
          exact fdv_mad (hF.1.1 _ (by omega)) hx (hF.1.1 _ (by omega)) hp
        have hoff : ∀ a b, b < C → a ≠ y → ar C y t (-(fdv (w (y * 5 + t)) (w (t * 5 + t)))) w (a * 5 + b) = w (a * 5 + b) := fun a b hb ha => ar_off (by omega) ha
        have hrm : ar C y t (-(fdv (w (y * 5 + t)) (w (t * 5 + t)))) w (y * 5 + t) = rmf (w (y * 5 + t)) (w (t * 5 + t)) := by rw [ar_at ht.2 (by omega)]; rfl
        have htt : ar C y t (-(fdv (w (y * 5 + t)) (w (t * 5 + t)))) w (t * 5 + t) = w (t * 5 + t) := hoff t t ht.2 (by omega)
        rcases ih n2 (y + 1) _ _ q (by omega) (by omega) (by omega) (by omega) hq (g3 rfl) ((hJ t ht.1 ht.2 w v u i1 i2 hjj hF).2.2.2.1 y t _ (by omega) (by omega) (Nat.le_refl _) ht.1 (by omega) (tb_fdv hx hp) (g3 rfl)) (by rw [htt]; exact hp) with h | ⟨w3, v3, Q, k1, k2, k3, k4, k5, k6⟩
        · exact Or.inl h
        · refine Or.inr ⟨w3, v3, fun a => if a = y then (fdv (w (y * 5 + t)) (w (t * 5 + t))).toInt else Q a, k1, k2, k3, fun a b ha hb => ?_, fun a b ha hb hc => ?_, fun a ha hb => ?_⟩
          · rw [k4 a b (by omega) hb, hoff a b hb (by omega)]
          · show (w3 (a * 5 + b)).toInt = (w (a * 5 + b)).toInt - (if a = y then (fdv (w (y * 5 + t)) (w (t * 5 + t))).toInt else Q a) * (w (t * 5 + b)).toInt
            by_cases ea : a = y
            · rw [if_pos ea, ea, k4 y b (by omega) hc, hat b hc]
            · rw [if_neg ea, k5 a b (by omega) hb hc, hoff a b hc ea, hoff t b hc (by omega)]
          · by_cases ea : a = y
            · rw [ea, k4 y t (by omega) ht.2, hrm]
              exact rmf_int hp
            · have h5 := k6 a (by omega) hb
              rw [htt] at h5
              exact h5
      · refine Or.inl ?_
        obtain ⟨n1, rfl⟩ : ∃ n, n1 = n + 1 := ⟨n1 - 1, by omega⟩
        obtain ⟨n2, rfl⟩ : ∃ n, n2 = n + 1 := ⟨n2 - 1, by omega⟩
        rw [g43 (by rw [vu_self]; decide), r4g]
        exact ⟨_, _, _, _, _, rfl, rfl⟩
theorem LCJ (hJ : JD R C J) (hD : DH r R C) (hR : R ≤ 4) (hC : C ≤ 4) (ht : t < R ∧ t < C) : ∀ n1 n2 y : Nat, ∀ (w u : Nat → Int64) (q : Nat → Int32), t + 1 ≤ y → y ≤ C → C - y < n1 → C - y < n2 → q 1 = 0 → Sd R C w v u → J t w v u i1 i2 → 0 < (w (t * 5 + t)).toInt →
    (∃ (w1 u1 w2 v2 u2 : Nat → Int64), D_X1_clearCross_103 r (nI t) lbc yy n1 (nI y) q (ds f w v u) = lbc (yy + 1) (va_up q 1 1) (ds f w1 v u1) ∧ D_X9_takeOff_80 R C i1 i2 i3 t v n2 y u w 0 = (u2, v2, w2, 1)) ∨
    (∃ (w1 u1 : Nat → Int64) (K : Nat → Int), D_X1_clearCross_103 r (nI t) lbc yy n1 (nI y) q (ds f w v u) = D_X1_clearCross_j158 r (nI t) lbc yy q (ds f w1 v u1) ∧ D_X9_takeOff_80 R C i1 i2 i3 t v n2 y u w 0 = (u1, v, w1, 0) ∧ (Sd R C w1 v u1 ∧ J t w1 v u1 i1 i2) ∧ (∀ a b, a < R → b < y → w1 (a * 5 + b) = w (a * 5 + b)) ∧ (∀ a b, a < R → y ≤ b → b < C → (w1 (a * 5 + b)).toInt = (w (a * 5 + b)).toInt - K b * (w (a * 5 + t)).toInt) ∧ ∀ b, y ≤ b → b < C → 0 ≤ (w1 (t * 5 + b)).toInt ∧ (w1 (t * 5 + b)).toInt < (w (t * 5 + t)).toInt) := by
  intro n1
  induction n1 with
  | zero => intro n2 y w u q _ _ h; omega
  | succ n1 ih =>
    intro n2 y w u q hy0 hy h1 h2 hq hF hjj hp
    obtain ⟨n2, rfl⟩ : ∃ n, n2 = n + 1 := ⟨n2 - 1, by omega⟩
    by_cases e : C ≤ y
    · rw [D_X1_clearCross_103_s, D_X9_takeOff_80_s, hD.1.2, if_pos (ile e (by omega)), if_pos e]
      exact Or.inr ⟨w, u, fun _ => 0, rfl, rfl, ⟨hF, hjj⟩, fun a b _ _ => rfl, fun a b _ h1 h2 => absurd h2 (by omega), fun a h1 h2 => absurd h2 (by omega)⟩
    · have hx := hF.1.1 (t * 5 + y) (by omega)
      obtain ⟨G, hG, g1, g2, g3⟩ := addC_eq (r := r) (q := q) (f := f) (a := y) (b := t) (x := -(fdv (w (t * 5 + y)) (w (t * 5 + t)))) (s1' := i1) (s2' := i2) (i3 := i3) hD hR hC (by omega) ht.2 (by omega) hF (tb_fdv hx hp)
      rw [D_X1_clearCross_103_s, D_X9_takeOff_80_s, hD.1.2, if_neg (nile e (by omega)), if_pos hq, if_neg e, if_pos rfl]
      simp only [bnd1]
      rw [cget (by omega) (by omega), cget (by omega) (by omega), ds8, cpl (by omega), cpl (by omega), cdd (nzp hp), g1, g2]
      simp only [bnd2]
      have hac : ∀ a b, a < R → b < 5 → ac R y t (-(fdv (w (t * 5 + y)) (w (t * 5 + t)))) w (a * 5 + b) = if b = y then w (a * 5 + y) + -(fdv (w (t * 5 + y)) (w (t * 5 + t))) * w (a * 5 + t) else w (a * 5 + b) := fun a b ha hb => by
        unfold ac
        by_cases e : b = y
        · rw [if_pos (by omega), if_pos e, e, show (a * 5 + y) / 5 = a by omega]
        · rw [if_neg (by omega), if_neg e]
      rcases hG with rfl | rfl
      · rw [vq1 hq, s1]
        have hat : ∀ a, a < R → (ac R y t (-(fdv (w (t * 5 + y)) (w (t * 5 + t)))) w (a * 5 + y)).toInt = (w (a * 5 + y)).toInt - (fdv (w (t * 5 + y)) (w (t * 5 + t))).toInt * (w (a * 5 + t)).toInt := fun a ha => by
          rw [hac a y ha (by omega), if_pos rfl]
          exact fdv_mad (hF.1.1 _ (by omega)) hx (hF.1.1 _ (by omega)) hp
        have hoff : ∀ a b, a < R → b < C → b ≠ y → ac R y t (-(fdv (w (t * 5 + y)) (w (t * 5 + t)))) w (a * 5 + b) = w (a * 5 + b) := fun a b ha hb he => by rw [hac a b ha (by omega), if_neg he]
        have hrm : ac R y t (-(fdv (w (t * 5 + y)) (w (t * 5 + t)))) w (t * 5 + y) = rmf (w (t * 5 + y)) (w (t * 5 + t)) := by rw [hac t y ht.1 (by omega), if_pos rfl]; rfl
        have htt : ac R y t (-(fdv (w (t * 5 + y)) (w (t * 5 + t)))) w (t * 5 + t) = w (t * 5 + t) := hoff t t ht.1 ht.2 (by omega)
        rcases ih n2 (y + 1) _ _ q (by omega) (by omega) (by omega) (by omega) hq (g3 rfl) ((hJ t ht.1 ht.2 w v u i1 i2 hjj hF).2.2.2.2.1 y t _ (by omega) (by omega) (Nat.le_refl _) ht.2 (by omega) (tb_fdv hx hp) (g3 rfl)) (by rw [htt]; exact hp) with h | ⟨w3, u3, K, k1, k2, k3, k4, k5, k6⟩
        · exact Or.inl h
        · refine Or.inr ⟨w3, u3, fun b => if b = y then (fdv (w (t * 5 + y)) (w (t * 5 + t))).toInt else K b, k1, k2, k3, fun a b ha hb => ?_, fun a b ha hb hc => ?_, fun b ha hb => ?_⟩
          · rw [k4 a b ha (by omega), hoff a b ha (by omega) (by omega)]
          · show (w3 (a * 5 + b)).toInt = (w (a * 5 + b)).toInt - (if b = y then (fdv (w (t * 5 + y)) (w (t * 5 + t))).toInt else K b) * (w (a * 5 + t)).toInt
            by_cases ea : b = y
            · rw [if_pos ea, ea, k4 a y ha (by omega), hat a ha]
            · rw [if_neg ea, k5 a b ha (by omega) hc, hoff a b ha hc ea, hoff a t ha ht.2 (by omega)]
          · by_cases ea : b = y
            · rw [ea, k4 t y ht.1 (by omega), hrm]
              exact rmf_int hp
            · have h5 := k6 b (by omega) hb
              rw [htt] at h5
              exact h5
      · refine Or.inl ?_
        obtain ⟨n1, rfl⟩ : ∃ n, n1 = n + 1 := ⟨n1 - 1, by omega⟩
        obtain ⟨n2, rfl⟩ : ∃ n, n2 = n + 1 := ⟨n2 - 1, by omega⟩
        rw [g103 (by rw [vu_self]; decide), r80g]
        exact ⟨_, _, _, _, _, rfl, rfl⟩
/-- both sides have ended, with the property -/
def FdDJ (J : Nat → (Nat → Int64) → (Nat → Int64) → (Nat → Int64) → Int32 → Int32 → Prop) (R C t : Nat) (w : Nat → Int64) (q : Nat → Int32) (f : Nat → Nat → Int64) (CL : Int32 × (Nat → Int32) × (Nat → Nat → Int64)) (RF : Int32 × (Nat → Int64) × (Nat → Int64) × (Nat → Int64) × Int32 × Int32 × Int32) : Prop :=
  ∃ (G xc xr j1 j2 : Int32) (w1 v1 u1 w2 v2 u2 : Nat → Int64), (G = 0 ∨ G = 1) ∧ CL = (xc, va_up q 1 G, ds f w1 v1 u1) ∧ RF = (xr, u2, v2, w2, j1, j2, G) ∧ (G = 1 → xr = 0) ∧ (G = 0 → xc = xr ∧ (xr = 0 ∨ xr = 1) ∧ w2 = w1 ∧ v2 = v1 ∧ u2 = u1 ∧ Sd R C w1 v1 u1 ∧ Fj t w w1 ∧ (xr = 1 → ¬ w1 (t * 5 + t) = 0) ∧ (xr = 0 → ∀ a b, t ≤ a → a < R → t ≤ b → b < C → w1 (a * 5 + b) = 0) ∧ ((xr = 1 ∧ J (t + 1) w1 v1 u1 j1 j2) ∨ (xr = 0 ∧ J t w1 v1 u1 j1 j2)))
theorem dpass_eqJ (hJ : JD R C J) (hjj : J t w v u i1 i2) (hD : DH r R C) (hR : R ≤ 4) (hC : C ≤ 4) (ht : t < R ∧ t < C) (hq : q 1 = 0) (hF : Sd R C w v u) {n1 n2 y : Nat} (hy : y + 1 < 1000000) :
    FdDJ J R C t w q f (D_X1_clearCross_2 r (nI t) (n1 + 2) (nI y) q (ds f w v u)) (D_X9_isCleared_0 R C i3 t (n2 + 2) u v w i1 i2 0) ∨
    (∃ (w1 v1 u1 : Nat → Int64) (j1 j2 : Int32), Ps R C t w w1 ∧ Fj t w w1 ∧ (Sd R C w1 v1 u1 ∧ J t w1 v1 u1 j1 j2) ∧ D_X1_clearCross_2 r (nI t) (n1 + 2) (nI y) q (ds f w v u) = D_X1_clearCross_2 r (nI t) (n1 + 1) (nI (y + 1)) q (ds f w1 v1 u1) ∧ D_X9_isCleared_0 R C i3 t (n2 + 2) u v w i1 i2 0 = D_X9_isCleared_0 R C i3 t (n2 + 1) u1 v1 w1 j1 j2 0) := by
  have hcl : D_X1_clearCross_2 r (nI t) (n1 + 2) (nI y) q (ds f w v u) = if 0 ≤ D_X1_findLeastPlace r q (ds f w v u) (nI t) then D_X1_clearCross_43 r (nI t) (D_X1_clearCross_2 r (nI t) (n1 + 1)) (nI y) (R - (t + 1) + 1) (nI (t + 1)) q (D_X1_bring r q (ds f w v u) (D_X1_findLeastPlace r q (ds f w v u) (nI t) / 5) (D_X1_findLeastPlace r q (ds f w v u) (nI t) - D_X1_findLeastPlace r q (ds f w v u) (nI t) / 5 * 5) (nI t)) else (0, q, ds f w v u) := by
    rw [show n1 + 2 = (n1 + 1) + 1 from rfl, D_X1_clearCross_2_s, if_neg (show ¬ (1000000 : Int32) ≤ nI y from nile (a := 1000000) (by omega) (by omega)), if_pos hq]
    simp only [bnd1]
    rw [hD.1.1, s1, gapN (by omega) (by omega)]
  have hrf : D_X9_isCleared_0 R C i3 t (n2 + 2) u v w i1 i2 0 = D_X9_isCleared_14 R C i3 t (D_X9_isCleared_0 R C i3 t (n2 + 1)) u v w i1 i2 0 (R + 1 - t + 1) t t t := by
    rw [show n2 + 2 = (n2 + 1) + 1 from rfl, D_X9_isCleared_0_s, if_pos rfl]
  rw [hcl, hrf]
  rcases fp_eq (r := r) (q := q) (f := f) (v := v) (u := u) (i1 := i1) (i2 := i2) (i3 := i3) hD hR hC ht hF.1.1 (lbr := D_X9_isCleared_0 R C i3 t (n2 + 1)) with ⟨h1, h2, h3, h4⟩ | ⟨m, c0, h1, h2, h3, h4, h5, h6⟩
  · rw [h1, if_neg (by decide), h3, D_X9_isCleared_14_s, if_pos (Nat.le_refl _), if_pos (lgE.mpr h4)]
    exact Or.inl ⟨0, 0, 0, i1, i2, w, v, u, w, v, u, Or.inl rfl, by rw [vq1 hq], rfl, fun h => absurd h (by decide), fun _ => ⟨rfl, Or.inl rfl, rfl, rfl, rfl, hF, fun j _ => rfl, fun h => absurd h (by decide), fun _ => h2, Or.inr ⟨rfl, hjj⟩⟩⟩
  · have e1 : nI (m * 5 + c0) / 5 = nI m := by rw [nI_div5 (by omega), show (m * 5 + c0) / 5 = m by omega]
    have e2 : nI (m * 5 + c0) - nI m * 5 = nI c0 := by
      rw [show (5 : Int32) = nI 5 from rfl, nI_mul, nI_sub (by omega), show m * 5 + c0 - m * 5 = c0 by omega]
    rw [h4, if_pos (Int32.not_lt.mp (ilt0 (by omega))), e1, e2, h5, D_X9_isCleared_14_s, if_pos (Nat.le_refl _), if_neg (fun h => h2 (lgE.mp h))]
    obtain ⟨wb, vb, ub, jb1, jb2, b1, b2, ⟨b3, b3j⟩, ⟨b4, b5, s, b6, b7⟩, b8⟩ := dbr_eqJ (r := r) (q := q) (f := f) (i1 := i1) (i2 := i2) (i3 := i3) hJ hjj hD hR hC h1 hF h2
    rw [b1, b2]
    simp only [bnd5]
    have htk : D_X9_takeOff R C ub vb wb jb1 jb2 i3 0 t = D_X9_takeOff_4 R C ub jb1 jb2 i3 t (R + 1 - (t + 1) + 1) (t + 1) vb wb 0 := rfl
    rw [htk]
    rcases LRJ (J := J) (r := r) (f := f) (u := ub) (i1 := jb1) (i2 := jb2) (i3 := i3) (yy := nI y) (lbc := D_X1_clearCross_2 r (nI t) (n1 + 1)) hJ hD hR hC ht (R - (t + 1) + 1) (R + 1 - (t + 1) + 1) (t + 1) wb vb q (Nat.le_refl _) (by omega) (by omega) (by omega) hq b3 b3j b4 with ⟨w1, v1, w2, v2, u2, k1, k2⟩ | ⟨wr, vr, Q, k1, k2, ⟨k3, k3j⟩, k4, k5, k6⟩
    · rw [k1, k2]
      simp only [bnd4]
      rw [if_neg (by decide), d2g (by rw [vu_self]; decide)]
      exact Or.inl ⟨1, 0, 0, jb1, jb2, w1, v1, ub, w2, v2, u2, Or.inr rfl, rfl, rfl, fun _ => rfl, fun h => absurd h (by decide)⟩
    · rw [k1, k2]
      have hptr : wr (t * 5 + t) = wb (t * 5 + t) := k4 t t (by omega) ht.2
      rcases LCJ (J := J) (r := r) (f := f) (v := vr) (i1 := jb1) (i2 := jb2) (i3 := i3) (yy := nI y) (lbc := D_X1_clearCross_2 r (nI t) (n1 + 1)) hJ hD hR hC ht (C - (t + 1) + 1) (C + 1 - (t + 1) + 1) (t + 1) wr ub q (Nat.le_refl _) (by omega) (by omega) (by omega) hq k3 k3j (by rw [hptr]; exact b4) with ⟨w1, u1, w2, v2, u2, l1, l2⟩ | ⟨wc, uc, K, l1, l2, ⟨l3, l3j⟩, l4, l5, l6⟩
      · rw [l1, l2]
        simp only [bnd4]
        rw [if_neg (by decide), d2g (by rw [vu_self]; decide)]
        exact Or.inl ⟨1, 0, 0, jb1, jb2, w1, vr, u1, w2, v2, u2, Or.inr rfl, rfl, rfl, fun _ => rfl, fun h => absurd h (by decide)⟩
      · rw [l1, l2]
        simp only [bnd4]
        rw [if_pos trivial, D_X1_clearCross_j158_s, if_pos hq]
        simp only [bnd1]
        have hptc : wc (t * 5 + t) = wb (t * 5 + t) := by rw [l4 t t ht.1 (by omega), hptr]
        have hpc : 0 < (wc (t * 5 + t)).toInt := by rw [hptc]; exact b4
        have hFj : Fj t w wc := Fj_t b8 (fun j hj => (l4 j j (by omega) (by omega)).trans (k4 j j (by omega) (by omega)))
        have nz : ∀ z : Int64, ¬ z = 0 → z.toInt ≠ 0 := fun z h e => h (Int64.toInt_inj.mp e)
        -- the facts of this pass
        have hPs : ∀ w3 : Nat → Int64, (((∀ a b, t ≤ a → a < R → t ≤ b → b < C → (w3 (a * 5 + b)).toInt = (wc (a * 5 + b)).toInt) ∧ ((∃ a, t < a ∧ a < R ∧ (wc (a * 5 + t)).toInt ≠ 0) ∨ ∃ b, t < b ∧ b < C ∧ (wc (t * 5 + b)).toInt ≠ 0)) ∨ ((∀ a, t < a → a < R → (wc (a * 5 + t)).toInt = 0) ∧ (∀ b, t < b → b < C → (wc (t * 5 + b)).toInt = 0) ∧ ∃ i j, t < i ∧ i < R ∧ t < j ∧ j < C ∧ (wc (i * 5 + j)).toInt % (wc (t * 5 + t)).toInt ≠ 0 ∧ ∀ a b, t ≤ a → a < R → t ≤ b → b < C → (w3 (a * 5 + b)).toInt = if a = t then (wc (t * 5 + b)).toInt + (wc (i * 5 + b)).toInt else (wc (a * 5 + b)).toInt)) → Ps R C t w w3 := by
          intro w3 h
          refine ⟨m, c0, s, Q, K, fun a b => (wb (a * 5 + b)).toInt, fun a b => (wr (a * 5 + b)).toInt, fun a b => (wc (a * 5 + b)).toInt, h1, b6, h2, h3, h6, b7, b4, fun b hb1 hb2 => ?_, fun a b ha1 ha2 hb1 hb2 => ?_, fun a ha1 ha2 => ?_, fun a ha1 ha2 => ?_, fun a b ha1 ha2 hb1 hb2 => ?_, fun b hb1 hb2 => ?_, h⟩
          · show (wr (t * 5 + b)).toInt = (wb (t * 5 + b)).toInt
            rw [k4 t b (by omega) hb2]
          · exact k5 a b (by omega) ha2 hb2
          · exact k6 a (by omega) ha2
          · show (wc (a * 5 + t)).toInt = (wr (a * 5 + t)).toInt
            rw [l4 a t ha2 (by omega)]
          · exact l5 a b ha2 (by omega) hb2
          · have := l6 b (by omega) hb2
            rw [hptr] at this
            exact this
        rcases cc_eq (r := r) (q := q) (f := f) (w := wc) (v := vr) (u := uc) (i1 := jb1) (i2 := jb2) (i3 := i3) hD hR hC ht with ⟨⟨c1, c2⟩, c3, c4⟩ | ⟨c1, c3, c4⟩
        · rw [c3, c4, if_neg (show ¬ (1 : Int32) = 0 by decide), if_neg (show ¬ (1 : Int32) = 0 by decide)]
          rcases dv_eqJ (r := r) (q := q) (f := f) (w := wc) (v := vr) (u := uc) (i1 := jb1) (i2 := jb2) (i3 := i3) hD hR hC ht (nzp hpc) with ⟨g0, g1, g2⟩ | ⟨i, j, g1, g2, g3, g4, g5, g6, g7⟩
          · rw [g1, g2, if_neg (by decide)]
            simp only [bnd4]
            rw [if_pos trivial]
            exact Or.inl ⟨0, 1, 1, jb1, jb2, wc, vr, uc, wc, vr, uc, Or.inl rfl, by rw [vq1 hq], rfl, fun h => absurd h (by decide), fun _ => ⟨rfl, Or.inr rfl, rfl, rfl, rfl, l3, hFj, fun _ => nzp hpc, fun h => absurd h (by decide), Or.inl ⟨rfl, (hJ t ht.1 ht.2 wc vr uc jb1 jb2 l3j l3).2.2.2.2.2 ⟨c1, c2, hpc, g0⟩⟩⟩⟩
          · obtain ⟨G, hG, a1, a2, a3⟩ := addR_eq (r := r) (q := q) (f := f) (a := t) (b := i) (x := 1) (s1' := jb1) (s2' := jb2) (i3 := i3) hD hR hC ht.1 g2 (by omega) l3 tb91
            rw [g6, g7, if_pos (Int32.not_lt.mp (ilt0 (by omega))), a1, a2]
            simp only [bnd2, bnd4]
            rw [if_neg (by decide)]
            rcases hG with rfl | rfl
            · refine Or.inr ⟨ar C t i 1 wc, ar R t i 1 vr, uc, jb1, jb2, hPs _ (Or.inr ⟨fun a ha1 ha2 => ?_, fun b hb1 hb2 => ?_, i, j, g1, g2, g3, g4, rem_emod hpc g5, fun a b ha1 ha2 hb1 hb2 => ?_⟩), Fj_t hFj (fun j hj => ar_off (by omega) (by omega)), ⟨a3 rfl, (hJ t ht.1 ht.2 wc vr uc jb1 jb2 l3j l3).2.2.2.1 t i 1 (Nat.le_refl _) ht.1 (by omega) g2 (by omega) tb91 (a3 rfl)⟩, by rw [vq1 hq, s1], rfl⟩
              · rw [c1 a (by omega) ha2]; rfl
              · rw [c2 b (by omega) hb2]; rfl
              · by_cases ea : a = t
                · rw [if_pos ea, ea, ar_at hb2 (by omega), add_i (l3.1.1 _ (by omega)) (l3.1.1 _ (by omega))]
                · rw [if_neg ea, ar_off (by omega) ea]
            · rw [d2g (by rw [vu_self]; decide), r0g]
              exact Or.inl ⟨1, 0, 0, jb1, jb2, _, _, _, _, _, _, Or.inr rfl, rfl, rfl, fun _ => rfl, fun h => absurd h (by decide)⟩
        · rw [c3, c4, if_pos (show (0 : Int32) = 0 from rfl), if_pos (show (0 : Int32) = 0 from rfl)]
          refine Or.inr ⟨wc, vr, uc, jb1, jb2, hPs _ (Or.inl ⟨fun a b _ _ _ _ => rfl, ?_⟩), hFj, ⟨l3, l3j⟩, by rw [s1], rfl⟩
          rcases c1 with ⟨a, ha1, ha2, ha3⟩ | ⟨b, hb1, hb2, hb3⟩
          · exact Or.inl ⟨a, by omega, ha2, nz _ ha3⟩
          · exact Or.inr ⟨b, by omega, hb2, nz _ hb3⟩
theorem cross_eqJ (hJ : JD R C J) (hD : DH r R C) (hR : R ≤ 4) (hC : C ≤ 4) (ht : t < R ∧ t < C) (hq : q 1 = 0) : ∀ (B n1 n2 y : Nat) (w v u : Nat → Int64) (i1 i2 : Int32), ¬ Chn R C t B w → y + B < 1000000 → B + 1 ≤ n1 → B + 1 ≤ n2 → Sd R C w v u → J t w v u i1 i2 →
    FdDJ J R C t w q f (D_X1_clearCross_2 r (nI t) n1 (nI y) q (ds f w v u)) (D_X9_isCleared_0 R C i3 t n2 u v w i1 i2 0) := by
  intro B
  induction B with
  | zero => intro n1 n2 y w v u i1 i2 h; exact absurd trivial h
  | succ B ih =>
    intro n1 n2 y w v u i1 i2 hc hy h1 h2 hF hjj
    obtain ⟨m1, rfl⟩ : ∃ m, n1 = m + 2 := ⟨n1 - 2, by omega⟩
    obtain ⟨m2, rfl⟩ : ∃ m, n2 = m + 2 := ⟨n2 - 2, by omega⟩
    rcases dpass_eqJ (r := r) (q := q) (f := f) (i1 := i1) (i2 := i2) (i3 := i3) hJ hjj hD hR hC ht hq hF (n1 := m1) (n2 := m2) (y := y) (by omega) with h | ⟨w1, v1, u1, j1, j2, g1, g2, ⟨g3, g3j⟩, g4, g5⟩
    · exact h
    · rw [g4, g5]
      obtain ⟨G, xc, xr, k1, k2, w3, v3, u3, w4, v4, u4, e1, e2, e3, e4, e5⟩ := ih (m1 + 1) (m2 + 1) (y + 1) w1 v1 u1 j1 j2 (fun h => hc ⟨w1, g1, h⟩) (by omega) (by omega) (by omega) g3 g3j
      refine ⟨G, xc, xr, k1, k2, w3, v3, u3, w4, v4, u4, e1, e2, e3, e4, fun h => ?_⟩
      obtain ⟨a1, a2, a3, a4, a5, a6, a7, a8, a9, a10⟩ := e5 h
      exact ⟨a1, a2, a3, a4, a5, a6, Fj_t g2 a7, a8, a9, a10⟩
theorem clear_eqJ (hJ : JD R C J) (hjj : J t w v u i1 i2) (hD : DH r R C) (hR : R ≤ 4) (hC : C ≤ 4) (ht : t < R ∧ t < C) (hq : q 1 = 0) (hF : Sd R C w v u) (h0 : t = 0 → Sw R w) : FdDJ J R C t w q f (D_X1_clearCross r q (ds f w v u) (nI t)) (D_X9_isCleared R C u v w i1 i2 i3 0 t) := by
  unfold D_X1_clearCross D_X9_isCleared
  rw [show gap 1000000 0 = 1000000 - 0 from gapN (a := 1000000) (b := 0) (by omega) (by omega)]
  exact cross_eqJ hJ hD hR hC ht hq 211 (1000000 - 0 + 1) (2000000000 + 1) 0 w v u i1 i2 (no_chn hR hC ht hF.1.1 h0) (by omega) (by omega) (by omega) hF hjj
theorem dwlJ (hJ : JD R C J) (hD : DH r R C) (hR : R ≤ 4) (hC : C ≤ 4) : ∀ n1 n2 t : Nat, ∀ (w v u : Nat → Int64) (q : Nat → Int32) (i1 i2 : Int32), t ≤ R → t ≤ C → R - t < n1 → R - t < n2 → q 1 = 0 → Sd R C w v u → J t w v u i1 i2 → (t = 0 → Sw R w) → (∀ j, j < t → ¬ w (j * 5 + j) = 0) →
    ∃ (G j1 j2 : Int32) (K : Nat) (w1 v1 u1 w2 v2 u2 : Nat → Int64), (G = 0 ∨ G = 1) ∧ D_X1_walk_39 r n1 (nI t) 1 q (ds f w v u) = (r, va_up q 1 G, ds f w1 v1 u1) ∧ D_X9_init_48 R C n2 t 1 u w v i1 i2 (nI t) 0 = (u2, v2, w2, j1, j2, K, G) ∧ (G = 0 → w2 = w1 ∧ v2 = v1 ∧ u2 = u1 ∧ Sd R C w1 v1 u1 ∧ Rk R C w1 K ∧ J K w1 v1 u1 j1 j2 ∧ ∀ a b, K ≤ a → a < R → K ≤ b → b < C → w1 (a * 5 + b) = 0) := by
  intro n1
  induction n1 with
  | zero => intro n2 t w v u q i1 i2 _ _ h; omega
  | succ n1 ih =>
    intro n2 t w v u q i1 i2 hy hyC h1 h2 hq hF hjj h0 hnz
    obtain ⟨n2, rfl⟩ : ∃ n, n2 = n + 1 := ⟨n2 - 1, by omega⟩
    have hkt : (nI t).toNatClampNeg = t := nI_clamp (by omega)
    rw [D_X1_walk_39_s, D_X9_init_48_s, hD.1.1, hD.1.2, if_neg (show ¬ (1 : Int32) = 0 by decide), if_neg (show ¬ (1 : Int32) = 0 by decide)]
    have hend : R ≤ t ∨ C ≤ t → ∃ (G j1 j2 : Int32) (K : Nat) (w1 v1 u1 w2 v2 u2 : Nat → Int64), (G = 0 ∨ G = 1) ∧ (r, q, ds f w v u) = (r, va_up q 1 G, ds f w1 v1 u1) ∧ (u, v, w, i1, i2, t, (0 : Int32)) = (u2, v2, w2, j1, j2, K, G) ∧ (G = 0 → w2 = w1 ∧ v2 = v1 ∧ u2 = u1 ∧ Sd R C w1 v1 u1 ∧ Rk R C w1 K ∧ J K w1 v1 u1 j1 j2 ∧ ∀ a b, K ≤ a → a < R → K ≤ b → b < C → w1 (a * 5 + b) = 0) := fun h => ⟨0, i1, i2, t, w, v, u, w, v, u, Or.inl rfl, by rw [vq1 hq], rfl, fun _ => ⟨rfl, rfl, rfl, hF, ⟨hy, hyC, hnz, fun j _ _ _ => by omega⟩, hjj, fun a b _ _ _ _ => by omega⟩⟩
    by_cases e : R ≤ t
    · rw [if_pos (ile e (by omega)), if_pos e]
      simp only [nm, hkt]
      exact hend (Or.inl e)
    · rw [if_neg (nile e (by omega)), if_neg e]
      by_cases e2 : C ≤ t
      · rw [if_pos (ile e2 (by omega)), if_pos e2]
        simp only [nm, hkt]
        exact hend (Or.inr e2)
      · rw [if_neg (nile e2 (by omega)), if_neg e2, if_pos hq]
        obtain ⟨G, xc, xr, k1, k2, w3, v3, u3, w4, v4, u4, e1, e3, e4, e5, e6⟩ := clear_eqJ (r := r) (q := q) (f := f) (i1 := i1) (i2 := i2) (i3 := nI t) hJ hjj hD hR hC (show t < R ∧ t < C by omega) hq hF h0
        rw [e3, e4]
        simp only [bnd3, bnd7]
        obtain ⟨n1, rfl⟩ : ∃ n, n1 = n + 1 := ⟨n1 - 1, by omega⟩
        obtain ⟨n2, rfl⟩ : ∃ n, n2 = n + 1 := ⟨n2 - 1, by omega⟩
        have hk0 : (nI t + 0).toNatClampNeg = t := by rw [show nI t + 0 = nI t from Int32.add_zero _]; exact hkt
        rcases e1 with rfl | rfl
        · obtain ⟨a1, a2, rfl, rfl, rfl, a6, a7, a8, a9, a10⟩ := e6 rfl
          rw [vq1 hq, a1]
          rcases a2 with rfl | rfl
          · rw [if_pos rfl, cl0 hk0]
            refine ⟨0, k1, k2, t, w4, v4, u4, w4, v4, u4, Or.inl rfl, ?_, rfl, fun _ => ⟨rfl, rfl, rfl, a6, ⟨hy, hyC, fun j hj => ?_, fun j hj h1 h2 => a9 rfl j j hj h1 hj h2⟩, a10.elim (fun h => absurd h.1 (by decide)) (fun h => h.2), fun a b x1 x2 x3 x4 => a9 rfl a b x1 x2 x3 x4⟩⟩
            · rw [D_X1_walk_39_s, vq1 hq]
              split
              · rfl
              · split
                · rfl
                · rw [if_pos rfl]
            · rw [a7 j hj]; exact hnz j hj
          · rw [if_neg (by decide), s1]
            exact ih (n2 + 1) (t + 1) w4 v4 u4 q k1 k2 (by omega) (by omega) (by omega) (by omega) hq a6 (a10.elim (fun h => h.2) (fun h => absurd h.1 (by decide))) (fun h => absurd h (by omega)) (fun j hj => by
              by_cases ej : j = t
              · rw [ej]; exact a8 rfl
              · rw [a7 j (by omega)]; exact hnz j (by omega))
        · rw [e5 rfl, if_pos rfl, cl0 hk0, w39 (by rw [vu_self]; decide)]
          exact ⟨1, k1, k2, t, w3, v3, u3, w4, v4, u4, Or.inr rfl, rfl, rfl, fun h => absurd h (by decide)⟩
/-- the steps to the diagonal of a table, with a property that they keep -/
theorem dwalk_eqJ (hJ : JD R C J) (hjj : J 0 (cp (R * 5) g (fun _ => 0)) (un R (fun _ => 0)) (un C (fun _ => 0)) 1 1) (hT : CT r f i R C g) (h8 : i ≠ 8) (h9 : i ≠ 9) (h10 : i ≠ 10) (h1 : 1 ≤ R) (hR : R ≤ 4) (h2 : 1 ≤ C) (hC : C ≤ 4) (hg : Sw R g) (hz : zc C (R * 5) g) :
    ∃ (G j1 j2 : Int32) (K : Nat) (w1 v1 u1 w2 v2 u2 : Nat → Int64), (G = 0 ∨ G = 1) ∧ D_X1_walk r q f i = (rs (rs (rs r 8 R C) 9 R R) 10 C C, va_up q 1 G, ds f w1 v1 u1) ∧ D_X9_init R C g = (u2, v2, w2, j1, j2, K, G) ∧ (G = 0 → w2 = w1 ∧ v2 = v1 ∧ u2 = u1 ∧ Sd R C w1 v1 u1 ∧ Rk R C w1 K ∧ J K w1 v1 u1 j1 j2 ∧ ∀ a b, K ≤ a → a < R → K ≤ b → b < C → w1 (a * 5 + b) = 0) := by
  obtain ⟨a1, a2, a3⟩ := hT
  have hgn : ∀ k, k < R * 5 → ng (g k) := fun k hk => by
    have := hg k hk
    exact ⟨Int64.le_iff_toInt_le.mpr (by show (-1000000000 : Int) ≤ _; omega), Int64.le_iff_toInt_le.mpr (by show _ ≤ (1000000000 : Int); omega)⟩
  unfold D_X1_walk D_X9_init
  rw [cbl a1 a2]
  simp only [bnd3, bnd1]
  rw [rs_R' h8, a1, cun h1 hR]
  simp only [bnd3]
  rw [rs_C' h9, rs_C' h8, a2, cun h2 hC]
  simp only [bnd3]
  have hD : DH (rs (rs (rs r 8 R C) 9 R R) 10 C C) R C := ⟨⟨(rs_R' (by decide)).trans ((rs_R' (by decide)).trans rs_R), (rs_C' (by decide)).trans ((rs_C' (by decide)).trans rs_C)⟩, ⟨(rs_R' (by decide)).trans rs_R, (rs_C' (by decide)).trans rs_C⟩, rs_R, rs_C⟩
  have hf : va_up (va_up (va_up f 8 (cp 20 (f i) (f 8))) 9 (un R (zf 20 (va_up f 8 (cp 20 (f i) (f 8)) 9)))) 10 (un C (zf 20 (va_up (va_up f 8 (cp 20 (f i) (f 8))) 9 (un R (zf 20 (va_up f 8 (cp 20 (f i) (f 8)) 9))) 10))) = ds f (cp (R * 5) g (fun _ => 0)) (un R (fun _ => 0)) (un C (fun _ => 0)) := by
    unfold ds
    rw [vu_ne (show (10 : Nat) ≠ 9 by decide), vu_ne (show (10 : Nat) ≠ 8 by decide), vu_ne (show (9 : Nat) ≠ 8 by decide), un_cp hR, un_cp hC]
    congr 3
    funext k
    by_cases e : k < 20
    · rw [cpl e, cpl e, a3 k e]
    · unfold cp; rw [if_neg e, if_neg e]
  rw [hf, hD.1.1, show gap (nI R) 0 = R - 0 from gapN (b := 0) (by omega) (by omega), rcp, run, run]
  obtain ⟨G, j1, j2, K, w1, v1, u1, w2, v2, u2, hG, g1, g2, g3⟩ := dwlJ (J := J) (r := rs (rs (rs r 8 R C) 9 R R) 10 C C) (f := f) hJ hD hR hC (R - 0 + 1) (R + 1 - 0 + 1) 0 (cp (R * 5) g (fun _ => 0)) (un R (fun _ => 0)) (un C (fun _ => 0)) (va_up q 1 0) 1 1 (by omega) (by omega) (by omega) (by omega) vu_self ⟨⟨fun k _ => cp_ng hgn k, fun k _ => un_ng k, fun k _ => un_ng k⟩, cp_zo hz, un_zo, un_zo⟩ hjj (fun _ k hk => by
    show -20 ≤ (cp (R * 5) g (fun _ => 0) k).toInt ∧ _
    unfold cp
    rw [if_pos hk]
    exact hg k hk) (fun j hj => absurd hj (by omega))
  refine ⟨G, j1, j2, K, w1, v1, u1, w2, v2, u2, hG, ?_, g2, g3⟩
  rw [vu2] at g1
  exact g1
end PJD
