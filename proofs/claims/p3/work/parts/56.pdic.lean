section PDC
variable {r q : Nat → Int32} {f : Nat → Nat → Int64} {w v u : Nat → Int64} {R C a b t m c0 : Nat} {x : Int64} {i1 i2 i3 : Int32}
theorem nI_div5 {k : Nat} (h : k < 20) : nI k / 5 = nI (k / 5) := (by decide +kernel : ∀ k, k < 20 → nI k / 5 = nI (k / 5)) k h
theorem Sd_xr {i j : Nat} (hi : i < R) (hj : j < R) (hF : Sd R C w v u) : Sd R C (xr C i j w) (xr R i j v) u := ⟨⟨ng_xr hi hj hF.1.1, ng_xr hi hj hF.1.2.1, hF.1.2.2⟩, zo_xr hi hj hF.2.1, zo_xr hi hj hF.2.2.1, hF.2.2.2⟩
theorem Sd_xc {i j : Nat} (hC : C ≤ 4) (hi : i < C) (hj : j < C) (hF : Sd R C w v u) : Sd R C (xc R i j w) v (xc C i j u) := ⟨⟨ngw_xc (by omega) (by omega) hF.1.1, hF.1.2.1, ngw_xc (by omega) (by omega) hF.1.2.2⟩, zo_xc hi hj hF.2.1, hF.2.2.1, zo_xc hi hj hF.2.2.2⟩
theorem Sd_tr {i : Nat} (hi : i < R) (hF : Sd R C w v u) : Sd R C (tr C i w) (tr R i v) u := ⟨⟨ng_tr hF.1.1, ng_tr hF.1.2.1, hF.1.2.2⟩, zo_tr hi hF.2.1, zo_tr hi hF.2.2.1, hF.2.2.2⟩
/-- what stands where, once the least has come to t, t -/
def Bt (R C t m c0 : Nat) (w w1 : Nat → Int64) : Prop := 0 < (w1 (t * 5 + t)).toInt ∧ na (w1 (t * 5 + t)) = na (w (m * 5 + c0)) ∧
  ∃ s : Int, (s = 1 ∨ s = -1) ∧ ∀ a b, t ≤ a → a < R → t ≤ b → b < C → (w1 (a * 5 + b)).toInt = (if a = t then s else 1) * (w ((if a = t then m else if a = m then t else a) * 5 + (if b = t then c0 else if b = c0 then t else b))).toInt
/-- the diagonal ahead of t stays -/
def Fj (t : Nat) (w w1 : Nat → Int64) : Prop := ∀ j, j < t → w1 (j * 5 + j) = w (j * 5 + j)
theorem Fj_xr {i j : Nat} (hi : t ≤ i) (hj : t ≤ j) (ht : t ≤ 4) : Fj t w (xr C i j w) := by
  intro k hk
  unfold xr
  rw [if_neg (by omega), if_neg (by omega)]
theorem Fj_xc {i j : Nat} (hi : t ≤ i) (hj : t ≤ j) (ht : t ≤ 4) : Fj t w (xc R i j w) := by
  intro k hk
  unfold xc
  rw [if_neg (by omega), if_neg (by omega)]
theorem Fj_tr (ht : t ≤ 4) : Fj t w (tr C t w) := by
  intro k hk
  unfold tr
  rw [if_neg (by omega)]
theorem Fj_t {w1 w2 : Nat → Int64} (h1 : Fj t w w1) (h2 : Fj t w1 w2) : Fj t w w2 := fun j hj => (h2 j hj).trans (h1 j hj)
theorem dj50 (hD : DH r R C) (hR : R ≤ 4) (hC : C ≤ 4) (ht : t < R ∧ t < C) : D_X1_bring_j50 r q (nI t) (ds f w v u) = if 0 ≤ lg_cmp (w (t * 5 + t)) 0 then ds f w v u else ds f (tr C t w) (tr R t v) u := by
  obtain ⟨⟨d1, d2⟩, ⟨d3, d4⟩, d5, d6⟩ := hD
  unfold D_X1_bring_j50
  simp only [bnd1]
  rw [cget (by omega) (by omega), ds8, cpl (by omega), ctuR d2 (by omega) (by omega), ds8, cp_tr (by omega), ds_s8, ctuR d4 (by omega) (by omega), ds9, cp_tr (by omega), ds_s9]
theorem dbr_eq (hD : DH r R C) (hR : R ≤ 4) (hC : C ≤ 4) (hm : t ≤ m ∧ m < R ∧ t ≤ c0 ∧ c0 < C) (hF : Sd R C w v u) (hnz : ¬ w (m * 5 + c0) = 0) :
    ∃ (w1 v1 u1 : Nat → Int64) (j1 j2 : Int32), D_X1_bring r q (ds f w v u) (nI m) (nI c0) (nI t) = ds f w1 v1 u1 ∧ D_X9_bring R C u v w i1 i2 i3 0 t m c0 = (u1, v1, w1, j1, j2) ∧ Sd R C w1 v1 u1 ∧ Bt R C t m c0 w w1 ∧ Fj t w w1 := by
  have hD0 := hD
  obtain ⟨⟨d1, d2⟩, ⟨d3, d4⟩, d5, d6⟩ := hD0
  have ht : t < R ∧ t < C := ⟨by omega, by omega⟩
  -- the rows
  have hA : ∃ (wa va : Nat → Int64) (ja : Int32), D_X1_bring r q (ds f w v u) (nI m) (nI c0) (nI t) = D_X1_bring_j25 r q (nI c0) (nI t) (ds f wa va u) ∧ D_X9_bring R C u v w i1 i2 i3 0 t m c0 = D_X9_bring_j32 R C u i2 t c0 va wa ja ∧ Sd R C wa va u ∧ Fj t w wa ∧ ∀ a b, t ≤ a → a < R → b < C → wa (a * 5 + b) = w ((if a = t then m else if a = m then t else a) * 5 + b) := by
    unfold D_X1_bring D_X9_bring
    by_cases e : m = t
    · rw [if_pos (by rw [e]), if_pos e]
      refine ⟨w, v, i1, rfl, rfl, hF, fun j _ => rfl, fun a b h1 h2 h3 => ?_⟩
      by_cases e1 : a = t
      · rw [if_pos e1, e1, e]
      · rw [if_neg e1, if_neg (by omega)]
    · rw [if_neg (by rw [neqP (by omega) (by omega)]; exact e), if_neg e]
      simp only [bnd1]
      rw [cexR d2 (by omega) (by omega) (by omega), ds8, cp_xr (by omega) (by omega), ds_s8, cexR d4 (by omega) (by omega) (by omega), ds9, cp_xr (by omega) (by omega), ds_s9]
      refine ⟨xr C m t w, xr R m t v, -i1, rfl, rfl, Sd_xr hm.2.1 ht.1 hF, Fj_xr hm.1 (Nat.le_refl _) (by omega), fun a b h1 h2 h3 => ?_⟩
      unfold xr
      by_cases e1 : a = m
      · rw [if_pos (by omega), if_neg (by omega), if_pos e1]; congr 1; omega
      · by_cases e2 : a = t
        · rw [if_neg (by omega), if_pos (by omega), if_pos e2]; congr 1; omega
        · rw [if_neg (by omega), if_neg (by omega), if_neg e2, if_neg e1]
  obtain ⟨wa, va, ja, a1, a2, a3, a5, a4⟩ := hA
  -- the columns
  have hB : ∃ (wb ub : Nat → Int64) (jb : Int32), D_X1_bring_j25 r q (nI c0) (nI t) (ds f wa va u) = D_X1_bring_j50 r q (nI t) (ds f wb va ub) ∧ D_X9_bring_j32 R C u i2 t c0 va wa ja = D_X9_bring_j64 R C t va ja ub wb jb ∧ Sd R C wb va ub ∧ Fj t w wb ∧ ∀ a b, a < R → t ≤ b → b < C → wb (a * 5 + b) = wa (a * 5 + (if b = t then c0 else if b = c0 then t else b)) := by
    rw [D_X1_bring_j25_s, D_X9_bring_j32_s]
    by_cases e : c0 = t
    · rw [if_pos (by rw [e]), if_pos e]
      refine ⟨wa, u, i2, rfl, rfl, a3, a5, fun a b h1 h2 h3 => ?_⟩
      by_cases e1 : b = t
      · rw [if_pos e1, e1, e]
      · rw [if_neg e1, if_neg (by omega)]
    · rw [if_neg (by rw [neqP (by omega) (by omega)]; exact e), if_neg e]
      simp only [bnd1]
      rw [cexC (by decide) d1 hR (by omega) (by omega), ds8, cp_xc (by omega) (by omega) hR, ds_s8, cexC (by decide) d5 hC (by omega) (by omega), ds10, cp_xc (by omega) (by omega) hC, ds_s10]
      refine ⟨xc R c0 t wa, xc C c0 t u, -i2, rfl, rfl, Sd_xc hC hm.2.2.2 ht.2 a3, Fj_t a5 (Fj_xc hm.2.2.1 (Nat.le_refl _) (by omega)), fun a b h1 h2 h3 => ?_⟩
      unfold xc
      by_cases e1 : b = c0
      · rw [if_pos (by omega), if_neg (by omega), if_pos e1]; congr 1; omega
      · by_cases e2 : b = t
        · rw [if_neg (by omega), if_pos (by omega), if_pos e2]; congr 1; omega
        · rw [if_neg (by omega), if_neg (by omega), if_neg e2, if_neg e1]
  obtain ⟨wb, ub, jb, b1, b2, b3, b5, b4⟩ := hB
  have hp : ∀ a b, t ≤ a → a < R → t ≤ b → b < C → wb (a * 5 + b) = w ((if a = t then m else if a = m then t else a) * 5 + (if b = t then c0 else if b = c0 then t else b)) := by
    intro a b h1 h2 h3 h4
    rw [b4 a b h2 h3 h4]
    exact a4 a _ h1 h2 (by (repeat' split) <;> omega)
  have hpt : wb (t * 5 + t) = w (m * 5 + c0) := by
    rw [hp t t (Nat.le_refl _) ht.1 (Nat.le_refl _) ht.2, if_pos rfl, if_pos rfl]
  rw [a1, a2, b1, b2, dj50 hD hR hC ht, D_X9_bring_j64_s]
  by_cases e : 0 ≤ lg_cmp (wb (t * 5 + t)) 0
  · rw [if_pos e, if_pos e]
    refine ⟨wb, va, ub, ja, jb, rfl, rfl, b3, ⟨pos_of e (by rw [hpt]; exact hnz), by rw [hpt], 1, Or.inl rfl, fun a b h1 h2 h3 h4 => ?_⟩, b5⟩
    rw [hp a b h1 h2 h3 h4, ite_self, Int.one_mul]
  · rw [if_neg e, if_neg e]
    have hb0 := b3.1.1 (t * 5 + t) (by omega)
    refine ⟨tr C t wb, tr R t va, ub, -ja, jb, rfl, rfl, Sd_tr ht.1 b3, ⟨?_, ?_, -1, Or.inr rfl, fun a b h1 h2 h3 h4 => ?_⟩, Fj_t b5 (Fj_tr (by omega))⟩
    · rw [tr_r ht.2 (by omega)]; exact pos_neg hb0 e
    · rw [tr_r ht.2 (by omega), na_neg hb0, hpt]
    · rw [← hp a b h1 h2 h3 h4]
      unfold tr
      by_cases e1 : a = t
      · rw [if_pos (by omega), if_pos e1, neg_int (b3.1.1 _ (by omega))]; omega
      · rw [if_neg (by omega), if_neg e1, Int.one_mul]
end PDC
