/-! ===== The steps to the diagonal of both sides are the same ===== -/
theorem cp_xc {R i j : Nat} {w u : Nat → Int64} (hi : i < 5) (hj : j < 5) (hR : R ≤ 4) : xc R i j (cp 20 w u) = cp 20 (xc R i j w) u := by
  funext k
  unfold xc cp
  by_cases e : k < 20
  · simp only [if_pos e]
    split
    · rw [if_pos (by omega)]
    · split
      · rw [if_pos (by omega)]
      · rfl
  · simp only [if_neg e]
    rw [if_neg (by omega), if_neg (by omega)]
theorem cp_ac {R i j : Nat} {t : Int64} {w u : Nat → Int64} (hi : i < 5) (hj : j < 5) (hR : R ≤ 4) : ac R i j t (cp 20 w u) = cp 20 (ac R i j t w) u := by
  funext k
  unfold ac cp
  by_cases e : k < 20
  · simp only [if_pos e]
    split
    · rw [if_pos (by omega)]
    · rfl
  · simp only [if_neg e]
    rw [if_neg (by omega)]
/-- the grids 8, 9 and 10 are others, as far as they go -/
def ds (f : Nat → Nat → Int64) (w v u : Nat → Int64) : Nat → Nat → Int64 := va_up (va_up (va_up f 8 (cp 20 w (f 8))) 9 (cp 20 v (f 9))) 10 (cp 20 u (f 10))
/-- the shapes of the steps -/
def DH (r : Nat → Int32) (R C : Nat) : Prop := (r (2 * 8) = nI R ∧ r (2 * 8 + 1) = nI C) ∧ (r (2 * 9) = nI R ∧ r (2 * 9 + 1) = nI R) ∧ r (2 * 10) = nI C ∧ r (2 * 10 + 1) = nI C
def Nw (R : Nat) (w : Nat → Int64) : Prop := ∀ k, k < R * 5 → ng (w k)
/-- the diagonal and its changes: small enough, nothing beyond -/
def Sd (R C : Nat) (w v u : Nat → Int64) : Prop := (Nw R w ∧ Nw R v ∧ Nw C u) ∧ zo R C w ∧ zo R R v ∧ zo C C u
section PDG
variable {r q : Nat → Int32} {f : Nat → Nat → Int64} {w v u : Nat → Int64} {R C a b t : Nat} {x : Int64} {s1' s2' i3 : Int32}
theorem ds8 : ds f w v u 8 = cp 20 w (f 8) := (vu_ne (by decide)).trans ((vu_ne (by decide)).trans vu_self)
theorem ds9 : ds f w v u 9 = cp 20 v (f 9) := (vu_ne (by decide)).trans vu_self
theorem ds10 : ds f w v u 10 = cp 20 u (f 10) := vu_self
theorem ds_s8 {w1 : Nat → Int64} : va_up (ds f w v u) 8 (cp 20 w1 (f 8)) = ds f w1 v u := by
  funext j
  unfold ds va_up
  by_cases e : j = 8
  · subst e; simp
  · simp [e]
theorem ds_s9 {v1 : Nat → Int64} : va_up (ds f w v u) 9 (cp 20 v1 (f 9)) = ds f w v1 u := by
  funext j
  unfold ds va_up
  by_cases e : j = 9
  · subst e; simp
  · simp [e]
theorem ds_s10 {u1 : Nat → Int64} : va_up (ds f w v u) 10 (cp 20 u1 (f 10)) = ds f w v u1 := vu2
theorem vq1 (h : q 1 = 0) : va_up q 1 0 = q := by
  funext j
  unfold va_up
  split
  · next e => rw [e, h]
  · rfl
theorem zo_ac {i j : Nat} (hi : i < C) (h : zo R C w) : zo R C (ac R i j x w) := by
  intro k hk hb
  unfold ac
  rw [if_neg (by omega)]
  exact h k hk hb
theorem zo_xc {i j : Nat} (hi : i < C) (hj : j < C) (h : zo R C w) : zo R C (xc R i j w) := by
  intro k hk hb
  unfold xc
  rw [if_neg (by omega), if_neg (by omega)]
  exact h k hk hb
theorem ngw_xc {i j : Nat} (hi : i < 5) (hj : j < 5) (h : Nw R w) : Nw R (xc R i j w) := by
  intro k hk
  unfold xc
  split
  · exact h _ (by omega)
  · split
    · exact h _ (by omega)
    · exact h k hk
/-- a number by which lines are taken off -/
def tb9 (x : Int64) : Prop := -1000000001 ≤ x.toInt ∧ x.toInt ≤ 1000000001
theorem tb_fdv {y p : Int64} (hy : ng y) (hp : 0 < p.toInt) : tb9 (-(fdv y p)) := by
  have h1 := fdv_b hy hp
  have h2 := neg_b (t := fdv y p) (by omega) (by omega)
  unfold tb9
  omega
theorem mad_lo {y z : Int64} (hy : ng y) (hz : ng z) (hx : tb9 x) : -9223372036854775807 ≤ (y + x * z).toInt := by
  obtain ⟨h3, h4⟩ := mad_int hy hz hx.1 hx.2
  have := ng_int hy
  omega
theorem ar_lo2 {i j : Nat} (hj : j < R) (hw : Nw R w) (hx : tb9 x) : ∀ k, k < R * 5 → -9223372036854775807 ≤ (ar C i j x w k).toInt := by
  intro k hk
  unfold ar
  split
  · exact mad_lo (hw k hk) (hw _ (by omega)) hx
  · have := ng_int (hw k hk)
    omega
theorem ac_lo2 {i j : Nat} (hj : j < 5) (hw : Nw R w) (hx : tb9 x) : ∀ k, k < R * 5 → -9223372036854775807 ≤ (ac R i j x w k).toInt := by
  intro k hk
  unfold ac
  split
  · exact mad_lo (hw k hk) (hw _ (by omega)) hx
  · have := ng_int (hw k hk)
    omega
theorem look_eq (hv : Nw R v ∨ ¬ Nw R v) (hu : Nw C u ∨ ¬ Nw C u) (hw : Nw R w ∨ ¬ Nw R w) : ((Nw R w ∧ Nw R v ∧ Nw C u) ∧ D_X9_look R C u v w s1' s2' i3 0 = 0) ∨ (¬ (Nw R w ∧ Nw R v ∧ Nw C u) ∧ D_X9_look R C u v w s1' s2' i3 0 = 1) := by
  unfold D_X9_look
  simp only [bnd1]
  rcases rig (R := R) (C := C) (f := w) with ⟨h1, h2⟩ | ⟨⟨k, h1, h3⟩, h2⟩
  · rw [h2, if_pos rfl]
    rcases rig (R := R) (C := R) (f := v) with ⟨h3, h4⟩ | ⟨⟨k, h3, h5⟩, h4⟩
    · rw [h4, if_pos rfl]
      rcases rig (R := C) (C := C) (f := u) with ⟨h5, h6⟩ | ⟨⟨k, h5, h7⟩, h6⟩
      · rw [h6, if_pos rfl]; exact Or.inl ⟨⟨h1, h3, h5⟩, rfl⟩
      · rw [h6, if_neg (by decide)]; exact Or.inr ⟨fun h => h7 (h.2.2 k h5), rfl⟩
    · rw [h4, if_neg (by decide)]; exact Or.inr ⟨fun h => h5 (h.2.1 k h3), rfl⟩
  · rw [h2, if_neg (by decide)]; exact Or.inr ⟨fun h => h3 (h.1 k h1), rfl⟩
theorem ac_ng {i j : Nat} {k : Nat} (h : R ≤ k / 5 ∨ ¬ k % 5 = i) : ac R i j x w k = w k := by unfold ac; rw [if_neg (by omega)]
/-- a row is added so many times: the same on both sides -/
theorem addR_eq (hD : DH r R C) (hR : R ≤ 4) (hC : C ≤ 4) (ha : a < R) (hb : b < R) (hne : a ≠ b) (hF : Sd R C w v u) (hx : tb9 x) :
    ∃ G : Int32, (G = 0 ∨ G = 1) ∧ D_X1_addRow r q (ds f w v u) (nI a) (nI b) x = (va_up q 1 G, ds f (ar C a b x w) (ar R a b x v) u) ∧ D_X9_look R C u (ar R a b x v) (ar C a b x w) s1' s2' i3 0 = G ∧ (G = 0 → Sd R C (ar C a b x w) (ar R a b x v) u) := by
  obtain ⟨⟨d1, d2⟩, ⟨d3, d4⟩, d5, d6⟩ := hD
  obtain ⟨⟨hw, hv, hu⟩, z1, z2, z3⟩ := hF
  have aw := wt_all (R := R) (w := ar C a b x w) (show C ≤ 5 by omega) (ar_lo2 hb hw hx) (fun k hk e => by rw [ar_ng e]; exact hw k hk)
  have av := wt_all (R := R) (C := R) (w := ar R a b x v) (by omega) (ar_lo2 hb hv hx) (fun k hk e => by rw [ar_ng e]; exact hv k hk)
  have hz : Sd R C (ar C a b x w) (ar R a b x v) u ↔ Nw R (ar C a b x w) ∧ Nw R (ar R a b x v) ∧ Nw C u := ⟨fun h => h.1, fun h => ⟨h, zo_ar ha z1, zo_ar ha z2, z3⟩⟩
  rw [hz]
  generalize hw1 : ar C a b x w = w1 at aw ⊢
  generalize hv1 : ar R a b x v = v1 at av ⊢
  have hc1 : ((Nw R w1 ∧ Nw R v1 ∧ Nw C u) ∧ D_X1_addRow r q (ds f w v u) (nI a) (nI b) x = (va_up q 1 0, ds f w1 v1 u)) ∨ (¬ (Nw R w1 ∧ Nw R v1 ∧ Nw C u) ∧ D_X1_addRow r q (ds f w v u) (nI a) (nI b) x = (va_up q 1 1, ds f w1 v1 u)) := by
    unfold D_X1_addRow
    simp only [bnd1]
    rw [caddR d2 (by omega) (by omega) (by omega) hne, ds8, cp_ar (by omega) (by omega), ds_s8, caddR d4 (by omega) (by omega) (by omega) hne, ds9, cp_ar (by omega) (by omega), ds_s9, hw1, hv1]
    rcases ciw (q := q) (p := 1000000000) (f := ds f w1 v1 u) (i := 8) d1 d2 hR (by omega) with ⟨h1, h2⟩ | ⟨h1, h2⟩
    · rw [h2, if_neg (by decide)]
      have h1 : Nw R w1 := aw.mp (fun a b ha hb => by have := h1 a b ha hb; rw [ds8, cpl (by omega)] at this; exact this)
      rcases ciw (q := q) (p := 1000000000) (f := ds f w1 v1 u) (i := 9) d3 d4 hR (by omega) with ⟨h3, h4⟩ | ⟨h3, h4⟩
      · rw [h4, if_neg (by decide)]
        have h3 : Nw R v1 := av.mp (fun a b ha hb => by have := h3 a b ha hb; rw [ds9, cpl (by omega)] at this; exact this)
        exact Or.inl ⟨⟨h1, h3, hu⟩, rfl⟩
      · rw [h4, if_pos rfl]
        obtain ⟨a, b, ha, hb, h5⟩ := h3
        exact Or.inr ⟨fun h => h5 (by rw [ds9, cpl (by omega)]; exact av.mpr h.2.1 a b ha hb), rfl⟩
    · rw [h2, if_pos rfl]
      obtain ⟨a, b, ha, hb, h5⟩ := h1
      exact Or.inr ⟨fun h => h5 (by rw [ds8, cpl (by omega)]; exact aw.mpr h.1 a b ha hb), rfl⟩
  rcases look_eq (R := R) (C := C) (u := u) (v := v1) (w := w1) (s1' := s1') (s2' := s2') (i3 := i3) (Classical.em _) (Classical.em _) (Classical.em _) with ⟨e, h⟩ | ⟨e, h⟩
  · rcases hc1 with ⟨_, h1⟩ | ⟨e1, _⟩
    · exact ⟨0, Or.inl rfl, h1, h, fun _ => e⟩
    · exact absurd e e1
  · rcases hc1 with ⟨e1, _⟩ | ⟨_, h1⟩
    · exact absurd e1 e
    · exact ⟨1, Or.inr rfl, h1, h, fun h => absurd h (by decide)⟩
/-- a column likewise -/
theorem addC_eq (hD : DH r R C) (hR : R ≤ 4) (hC : C ≤ 4) (ha : a < C) (hb : b < C) (hne : a ≠ b) (hF : Sd R C w v u) (hx : tb9 x) :
    ∃ G : Int32, (G = 0 ∨ G = 1) ∧ D_X1_addColumn r q (ds f w v u) (nI a) (nI b) x = (va_up q 1 G, ds f (ac R a b x w) v (ac C a b x u)) ∧ D_X9_look R C (ac C a b x u) v (ac R a b x w) s1' s2' i3 0 = G ∧ (G = 0 → Sd R C (ac R a b x w) v (ac C a b x u)) := by
  obtain ⟨⟨d1, d2⟩, ⟨d3, d4⟩, d5, d6⟩ := hD
  obtain ⟨⟨hw, hv, hu⟩, z1, z2, z3⟩ := hF
  have aw := wt_all (R := R) (w := ac R a b x w) (show C ≤ 5 by omega) (ac_lo2 (by omega) hw hx) (fun k hk e => by rw [ac_ng (Or.inr (by omega))]; exact hw k hk)
  have au := wt_all (R := C) (C := C) (w := ac C a b x u) (by omega) (ac_lo2 (by omega) hu hx) (fun k hk e => by rw [ac_ng (Or.inr (by omega))]; exact hu k hk)
  have hz : Sd R C (ac R a b x w) v (ac C a b x u) ↔ Nw R (ac R a b x w) ∧ Nw R v ∧ Nw C (ac C a b x u) := ⟨fun h => h.1, fun h => ⟨h, zo_ac ha z1, z2, zo_ac ha z3⟩⟩
  rw [hz]
  generalize hw1 : ac R a b x w = w1 at aw ⊢
  generalize hu1 : ac C a b x u = u1 at au ⊢
  have hc1 : ((Nw R w1 ∧ Nw R v ∧ Nw C u1) ∧ D_X1_addColumn r q (ds f w v u) (nI a) (nI b) x = (va_up q 1 0, ds f w1 v u1)) ∨ (¬ (Nw R w1 ∧ Nw R v ∧ Nw C u1) ∧ D_X1_addColumn r q (ds f w v u) (nI a) (nI b) x = (va_up q 1 1, ds f w1 v u1)) := by
    unfold D_X1_addColumn
    simp only [bnd1]
    rw [caddC (by decide) d1 hR (by omega) (by omega) hne, ds8, cp_ac (by omega) (by omega) hR, ds_s8, caddC (by decide) d5 hC (by omega) (by omega) hne, ds10, cp_ac (by omega) (by omega) hC, ds_s10, hw1, hu1]
    rcases ciw (q := q) (p := 1000000000) (f := ds f w1 v u1) (i := 8) d1 d2 hR (by omega) with ⟨h1, h2⟩ | ⟨h1, h2⟩
    · rw [h2, if_neg (by decide)]
      have h1 : Nw R w1 := aw.mp (fun a b ha hb => by have := h1 a b ha hb; rw [ds8, cpl (by omega)] at this; exact this)
      rcases ciw (q := q) (p := 1000000000) (f := ds f w1 v u1) (i := 10) d5 d6 hC (by omega) with ⟨h3, h4⟩ | ⟨h3, h4⟩
      · rw [h4, if_neg (by decide)]
        have h3 : Nw C u1 := au.mp (fun a b ha hb => by have := h3 a b ha hb; rw [ds10, cpl (by omega)] at this; exact this)
        exact Or.inl ⟨⟨h1, hv, h3⟩, rfl⟩
      · rw [h4, if_pos rfl]
        obtain ⟨a, b, ha, hb, h5⟩ := h3
        exact Or.inr ⟨fun h => h5 (by rw [ds10, cpl (by omega)]; exact au.mpr h.2.2 a b ha hb), rfl⟩
    · rw [h2, if_pos rfl]
      obtain ⟨a, b, ha, hb, h5⟩ := h1
      exact Or.inr ⟨fun h => h5 (by rw [ds8, cpl (by omega)]; exact aw.mpr h.1 a b ha hb), rfl⟩
  rcases look_eq (R := R) (C := C) (u := u1) (v := v) (w := w1) (s1' := s1') (s2' := s2') (i3 := i3) (Classical.em _) (Classical.em _) (Classical.em _) with ⟨e, h⟩ | ⟨e, h⟩
  · rcases hc1 with ⟨_, h1⟩ | ⟨e1, _⟩
    · exact ⟨0, Or.inl rfl, h1, h, fun _ => e⟩
    · exact absurd e e1
  · rcases hc1 with ⟨e1, _⟩ | ⟨_, h1⟩
    · exact absurd e1 e
    · exact ⟨1, Or.inr rfl, h1, h, fun h => absurd h (by decide)⟩
end PDG
