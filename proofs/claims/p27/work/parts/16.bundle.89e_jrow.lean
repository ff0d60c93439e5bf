section
-- 89e.jrow
/-! ===== The row steps once more, with a property that each step keeps ===== -/
/-- a property of form, change and side, at row x and column y, that every step keeps -/
def JR (R C : Nat) (J : Nat → Nat → (Nat → Int64) → (Nat → Int64) → Int32 → Prop) : Prop := ∀ x y, x < R → y < C → ∀ w v s, J x y w v s → Sf R C w v →
  (∀ i j, x ≤ i → i < R → x ≤ j → j < R → i ≠ j → J x y (xr C i j w) (xr R i j v) (-s)) ∧
  (∀ i, x ≤ i → i < R → J x y (tr C i w) (tr R i v) (-s)) ∧
  (∀ i j t, i < R → x ≤ j → j < R → i ≠ j → tb9 t → Sf R C (ar C i j t w) (ar R i j t v) → J x y (ar C i j t w) (ar R i j t v) s) ∧
  ((∀ a, x ≤ a → a < R → w (a * 5 + y) = 0) → J x (y + 1) w v s) ∧
  ((0 < (w (x * 5 + y)).toInt ∧ ∀ a, x < a → a < R → w (a * 5 + y) = 0) → J (x + 1) (y + 1) w v s)
section PJR
variable {r q : Nat → Int32} {f : Nat → Nat → Int64} {w v g : Nat → Int64} {R C i j rr c m : Nat} {s : Int32} {t : Int64} {J : Nat → Nat → (Nat → Int64) → (Nat → Int64) → Int32 → Prop}
theorem L164J (hJ : JR R C J) (hS : SH r R C) (hR : R ≤ 4) (hC : C ≤ 5) (hr : rr < R) (hc : c < C) : ∀ n1 n2 y : Nat, ∀ (w v : Nat → Int64) (q : Nat → Int32), y ≤ rr → rr - y < n1 → rr - y < n2 → q 0 = 0 → Sf R C w v → J rr c w v s → 0 < (w (rr * 5 + c)).toInt →
    ∃ (G : Int32) (w1 v1 w2 v2 : Nat → Int64), (G = 0 ∨ G = 1) ∧ D_X4_clearColumn_95 r (nI rr) (nI c) n1 (nI y) q (cs f w v) = (1, va_up q 0 G, cs f w1 v1) ∧ D_X8_isCleared_164 R C rr c n2 y v w s 0 = (1, v2, w2, s, G) ∧ (G = 0 → w2 = w1 ∧ v2 = v1 ∧ Sf R C w1 v1 ∧ J rr c w1 v1 s ∧ ∀ a, rr ≤ a → w1 (a * 5 + c) = w (a * 5 + c)) := by
  intro n1
  induction n1 with
  | zero => intro n2 y w v q _ h; omega
  | succ n1 ih =>
    intro n2 y w v q hy h1 h2 hq hF hj hp
    obtain ⟨n2, rfl⟩ : ∃ n, n2 = n + 1 := ⟨n2 - 1, by omega⟩
    rw [D_X4_clearColumn_95_s, D_X8_isCleared_164_s]
    by_cases e : rr ≤ y
    · rw [if_pos (ile e (by omega)), if_pos e]
      exact ⟨0, w, v, w, v, Or.inl rfl, by rw [vq0 hq], rfl, fun _ => ⟨rfl, rfl, hF, hj, fun _ _ => rfl⟩⟩
    · rw [if_neg (nile e (by omega)), if_pos hq, if_neg e]
      obtain ⟨G, w1, v1, hG, ⟨hw1, hv1⟩, g1, g2, g3⟩ := to_eq (r := r) (q := q) (f := f) (s := s) hS hR hC (show y < R by omega) hr hc (by omega) hF.1.1 hF.1.2 hp
      rw [g1, g2]
      simp only [bnd2, bnd4]
      rcases hG with rfl | rfl
      · rw [s1, vq0 hq]
        have hF1 : Sf R C w1 v1 := ⟨g3 rfl, by rw [hw1]; exact zo_ar (by omega) hF.2.1, by rw [hv1]; exact zo_ar (by omega) hF.2.2⟩
        have hj1 : J rr c w1 v1 s := by
          have hF2 := hF1
          rw [hw1, hv1] at hF2 ⊢
          exact (hJ rr c hr hc w v s hj hF).2.2.1 y rr _ (by omega) (Nat.le_refl _) hr (by omega) (tb_fdv (hF.1.1 _ (by omega)) hp) hF2
        have hk : ∀ a, rr ≤ a → w1 (a * 5 + c) = w (a * 5 + c) := fun a ha => by rw [hw1]; unfold ar; rw [if_neg (by omega)]
        obtain ⟨G, w3, v3, w4, v4, k1, k2, k3, k4⟩ := ih n2 (y + 1) w1 v1 q (by omega) (by omega) (by omega) hq hF1 hj1 (by rw [hk rr (Nat.le_refl _)]; exact hp)
        exact ⟨G, w3, v3, w4, v4, k1, k2, k3, fun h => ⟨(k4 h).1, (k4 h).2.1, (k4 h).2.2.1, (k4 h).2.2.2.1, fun a ha => ((k4 h).2.2.2.2 a ha).trans (hk a ha)⟩⟩
      · refine ⟨1, w1, v1, w1, v1, Or.inr rfl, ?_, r164 _ _ (by omega), fun h => absurd h (by decide)⟩
        obtain ⟨n1, rfl⟩ : ∃ n, n1 = n + 1 := ⟨n1 - 1, by omega⟩
        rw [D_X4_clearColumn_95_s, s1]
        split
        · rfl
        · rw [if_neg (by rw [vu_self]; decide)]
theorem L109J (hJ : JR R C J) (hS : SH r R C) (hR : R ≤ 4) (hC : C ≤ 5) (hr : rr < R) (hc : c < C) {lbc : Int32 → (Nat → Int32) → (Nat → Nat → Int64) → Int32 × (Nat → Int32) × (Nat → Nat → Int64)} {yy : Int32} {lbr : Int32 → (Nat → Int64) → (Nat → Int64) → Int32 → Int32 → Int32 × (Nat → Int64) × (Nat → Int64) × Int32 × Int32} : ∀ n1 n2 y : Nat, ∀ (M : Int32) (w v : Nat → Int64) (q : Nat → Int32), rr + 1 ≤ y → y ≤ R → R - y < n1 → R - y < n2 → q 0 = 0 → Sf R C w v → J rr c w v s → 0 < (w (rr * 5 + c)).toInt →
    (∃ (M1 : Int32) (w1 v1 w2 v2 : Nat → Int64), D_X4_clearColumn_43 r (nI rr) (nI c) lbc yy n1 (nI y) q (cs f w v) = D_X4_clearColumn_j76 r (nI rr) (nI c) lbc yy (va_up q 0 1) (cs f w1 v1) ∧ D_X8_isCleared_109 R C rr c lbr n2 y M v w s 0 = lbr M1 v2 w2 s 1) ∨
    (∃ (M1 : Int32) (w1 v1 : Nat → Int64), D_X4_clearColumn_43 r (nI rr) (nI c) lbc yy n1 (nI y) q (cs f w v) = D_X4_clearColumn_j76 r (nI rr) (nI c) lbc yy q (cs f w1 v1) ∧ D_X8_isCleared_109 R C rr c lbr n2 y M v w s 0 = lbr M1 v1 w1 s 0 ∧ (Sf R C w1 v1 ∧ J rr c w1 v1 s) ∧ (∀ a, a < y → w1 (a * 5 + c) = w (a * 5 + c)) ∧ (∀ a, y ≤ a → a < R → w1 (a * 5 + c) = rmf (w (a * 5 + c)) (w (rr * 5 + c))) ∧ (M1 = 0 ↔ M = 0 ∧ ∀ a, y ≤ a → a < R → w1 (a * 5 + c) = 0)) := by
  intro n1
  induction n1 with
  | zero => intro n2 y M w v q _ _ h; omega
  | succ n1 ih =>
    intro n2 y M w v q hy0 hy h1 h2 hq hF hj hp
    obtain ⟨n2, rfl⟩ : ∃ n, n2 = n + 1 := ⟨n2 - 1, by omega⟩
    rw [D_X4_clearColumn_43_s, D_X8_isCleared_109_s, hS.1]
    by_cases e : R ≤ y
    · rw [if_pos (ile e (by omega)), if_pos e]
      exact Or.inr ⟨M, w, v, rfl, rfl, ⟨hF, hj⟩, fun a _ => rfl, fun a ha hb => absurd hb (by omega), fun h => ⟨h, fun a ha hb => absurd hb (by omega)⟩, fun h => h.1⟩
    · rw [if_neg (nile e (by omega)), if_pos hq, if_neg e]
      obtain ⟨G, w1, v1, hG, ⟨hw1, hv1⟩, g1, g2, g3⟩ := to_eq (r := r) (q := q) (f := f) (s := s) hS hR hC (show y < R by omega) hr hc (by omega) hF.1.1 hF.1.2 hp
      rw [g1, g2]
      simp only [bnd2, bnd4]
      have hat : w1 (y * 5 + c) = rmf (w (y * 5 + c)) (w (rr * 5 + c)) := by rw [hw1, ar_at hc hC]; rfl
      have hoff : ∀ a, a ≠ y → w1 (a * 5 + c) = w (a * 5 + c) := fun a ha => by rw [hw1, ar_off (by omega) ha]
      rcases hG with rfl | rfl
      · have hF1 : Sf R C w1 v1 := ⟨g3 rfl, by rw [hw1]; exact zo_ar (by omega) hF.2.1, by rw [hv1]; exact zo_ar (by omega) hF.2.2⟩
        have hj1 : J rr c w1 v1 s := by
          have hF2 := hF1
          rw [hw1, hv1] at hF2 ⊢
          exact (hJ rr c hr hc w v s hj hF).2.2.1 y rr _ (by omega) (Nat.le_refl _) hr (by omega) (tb_fdv (hF.1.1 _ (by omega)) hp) hF2
        have hp1 : 0 < (w1 (rr * 5 + c)).toInt := by rw [hoff rr (by omega)]; exact hp
        rw [s1, vq0 hq]
        have key : ∀ M0 : Int32, (M0 = 0 ↔ M = 0 ∧ w1 (y * 5 + c) = 0) → (∃ (M1 : Int32) (w3 v3 w2 v2 : Nat → Int64), D_X4_clearColumn_43 r (nI rr) (nI c) lbc yy n1 (nI (y + 1)) q (cs f w1 v1) = D_X4_clearColumn_j76 r (nI rr) (nI c) lbc yy (va_up q 0 1) (cs f w3 v3) ∧ D_X8_isCleared_109 R C rr c lbr n2 (y + 1) M0 v1 w1 s 0 = lbr M1 v2 w2 s 1) ∨
            (∃ (M1 : Int32) (w3 v3 : Nat → Int64), D_X4_clearColumn_43 r (nI rr) (nI c) lbc yy n1 (nI (y + 1)) q (cs f w1 v1) = D_X4_clearColumn_j76 r (nI rr) (nI c) lbc yy q (cs f w3 v3) ∧ D_X8_isCleared_109 R C rr c lbr n2 (y + 1) M0 v1 w1 s 0 = lbr M1 v3 w3 s 0 ∧ (Sf R C w3 v3 ∧ J rr c w3 v3 s) ∧ (∀ a, a < y → w3 (a * 5 + c) = w (a * 5 + c)) ∧ (∀ a, y ≤ a → a < R → w3 (a * 5 + c) = rmf (w (a * 5 + c)) (w (rr * 5 + c))) ∧ (M1 = 0 ↔ M = 0 ∧ ∀ a, y ≤ a → a < R → w3 (a * 5 + c) = 0)) := by
          intro M0 hM0
          rcases ih n2 (y + 1) M0 w1 v1 q (by omega) (by omega) (by omega) (by omega) hq hF1 hj1 hp1 with h | ⟨M1, w3, v3, k1, k2, k3, k4, k5, k6⟩
          · exact Or.inl h
          · refine Or.inr ⟨M1, w3, v3, k1, k2, k3, fun a ha => (k4 a (by omega)).trans (hoff a (by omega)), fun a ha hb => ?_, ?_⟩
            · by_cases ea : a = y
              · subst ea; rw [k4 a (by omega)]; exact hat
              · rw [k5 a (by omega) hb, hoff a ea, hoff rr (by omega)]
            · rw [k6, hM0]
              constructor
              · rintro ⟨⟨h3, h4⟩, h5⟩
                refine ⟨h3, fun a ha hb => ?_⟩
                by_cases ea : a = y
                · subst ea; rw [k4 a (by omega)]; exact h4
                · exact h5 a (by omega) hb
              · rintro ⟨h3, h4⟩
                refine ⟨⟨h3, ?_⟩, fun a ha hb => h4 a (by omega) hb⟩
                have := h4 y (Nat.le_refl _) (by omega)
                rw [k4 y (by omega)] at this
                exact this
        by_cases e0 : w1 (y * 5 + c) = 0
        · rw [if_pos (lgE.mpr e0)]
          exact key _ (by rw [Int32.or_zero]; exact ⟨fun h => ⟨h, e0⟩, fun h => h.1⟩)
        · rw [if_neg (fun h => e0 (lgE.mp h))]
          exact key _ ⟨fun h => absurd h (or1 M), fun h => absurd h.2 e0⟩
      · refine Or.inl ?_
        obtain ⟨n1, rfl⟩ : ∃ n, n1 = n + 1 := ⟨n1 - 1, by omega⟩
        have hcl : D_X4_clearColumn_43 r (nI rr) (nI c) lbc yy (n1 + 1) (nI y + 1) (va_up q 0 1) (cs f w1 v1) = D_X4_clearColumn_j76 r (nI rr) (nI c) lbc yy (va_up q 0 1) (cs f w1 v1) := by
          rw [D_X4_clearColumn_43_s]
          split
          · rfl
          · rw [if_neg (by rw [vu_self]; decide)]
        split
        · obtain ⟨M1, h⟩ := r109 (R := R) (C := C) (rr := rr) (c := c) (v := v1) (w := w1) (s := s) (lb := lbr) n2 (y + 1) (M ||| 0) (by omega)
          exact ⟨M1, w1, v1, w1, v1, hcl, h⟩
        · obtain ⟨M1, h⟩ := r109 (R := R) (C := C) (rr := rr) (c := c) (v := v1) (w := w1) (s := s) (lb := lbr) n2 (y + 1) (M ||| 1) (by omega)
          exact ⟨M1, w1, v1, w1, v1, hcl, h⟩
theorem br2J (hJ : JR R C J) (hj : J rr c w v s) (hS : SH r R C) (hR : R ≤ 4) (hC : C ≤ 5) (hr : rr < R) (hc : c < C) (hF : Sf R C w v) (hnz : ¬ w (rr * 5 + c) = 0) : ∃ (w1 v1 : Nat → Int64) (s1 : Int32), D_X4_bring_j25 r q (nI rr) (nI c) (cs f w v) = cs f w1 v1 ∧ (∀ lb i2, D_X8_isCleared_j63 R C rr c lb i2 v w s = D_X8_isCleared_j102 R C rr c lb i2 v1 w1 s1) ∧ (Sf R C w1 v1 ∧ J rr c w1 v1 s1) ∧ 0 < (w1 (rr * 5 + c)).toInt ∧ na (w1 (rr * 5 + c)) = na (w (rr * 5 + c)) ∧ ∀ a, rr < a → a < R → w1 (a * 5 + c) = w (a * 5 + c) := by
  rw [cj25 hS hR hC hr hc]
  by_cases e : 0 ≤ lg_cmp (w (rr * 5 + c)) 0
  · refine ⟨w, v, s, if_pos e, fun lb i2 => ?_, ⟨hF, hj⟩, pos_of e hnz, rfl, fun a _ _ => rfl⟩
    rw [D_X8_isCleared_j63_s, if_pos e]
  · refine ⟨tr C rr w, tr R rr v, -s, if_neg e, fun lb i2 => ?_, ⟨Sf_tr hr hF, (hJ rr c hr hc w v s hj hF).2.1 rr (Nat.le_refl _) hr⟩, ?_, ?_, fun a h1 h2 => ?_⟩
    · rw [D_X8_isCleared_j63_s, if_neg e]
    · rw [tr_r hc hC]; exact pos_neg (hF.1.1 _ (by omega)) e
    · rw [tr_r hc hC, na_neg (hF.1.1 _ (by omega))]
    · unfold tr; rw [if_neg (by omega)]
theorem br_eqJ (hJ : JR R C J) (hj : J rr c w v s) (hS : SH r R C) (hR : R ≤ 4) (hC : C ≤ 5) (hr : rr ≤ m) (hm : m < R) (hc : c < C) (hF : Sf R C w v) (hnz : ¬ w (m * 5 + c) = 0) : ∃ (w1 v1 : Nat → Int64) (s1 : Int32), D_X4_bring r q (cs f w v) (nI m) (nI rr) (nI c) = cs f w1 v1 ∧ (∀ lb i2, (if m = rr then D_X8_isCleared_j63 R C rr c lb i2 v w s else D_X8_isCleared_j63 R C rr c lb i2 (xr R m rr v) (xr C m rr w) (-s)) = D_X8_isCleared_j102 R C rr c lb i2 v1 w1 s1) ∧ (Sf R C w1 v1 ∧ J rr c w1 v1 s1) ∧ 0 < (w1 (rr * 5 + c)).toInt ∧ na (w1 (rr * 5 + c)) = na (w (m * 5 + c)) ∧ ∀ a, rr < a → a < R → w1 (a * 5 + c) = if a = m then w (rr * 5 + c) else w (a * 5 + c) := by
  unfold D_X4_bring
  by_cases e : m = rr
  · subst e
    rw [if_pos rfl]
    obtain ⟨w1, v1, s1, h1, h2, h3, h4, h5, h6⟩ := br2J (q := q) (f := f) (s := s) hJ hj hS hR hC hm hc hF hnz
    refine ⟨w1, v1, s1, h1, fun lb i2 => ?_, h3, h4, h5, fun a ha hb => ?_⟩
    · rw [if_pos rfl]; exact h2 lb i2
    · rw [if_neg (by omega)]; exact h6 a ha hb
  · have hS0 := hS
    obtain ⟨a1, a2, a3, a4⟩ := hS0
    rw [if_neg (by rw [neqP (by omega) (by omega)]; exact e)]
    simp only [bnd1]
    rw [cexR a2 hC (by omega) (by omega), cs6, cp_xr (by omega) (by omega), cs_s6, cexR a4 (by omega) (by omega) (by omega), cs7, cp_xr (by omega) (by omega), cs_s7]
    have hx : xr C m rr w (rr * 5 + c) = w (m * 5 + c) := xr_r hc hC
    obtain ⟨w1, v1, s1, h1, h2, h3, h4, h5, h6⟩ := br2J (q := q) (f := f) (s := -s) hJ ((hJ rr c (by omega) hc w v s hj hF).1 m rr hr hm (Nat.le_refl _) (by omega) e) hS hR hC (show rr < R by omega) hc (Sf_xr hm (show rr < R by omega) hF) (by rw [hx]; exact hnz)
    refine ⟨w1, v1, s1, h1, fun lb i2 => ?_, h3, h4, by rw [h5, hx], fun a ha hb => ?_⟩
    · rw [if_neg e]; exact h2 lb i2
    · rw [h6 a ha hb]
      unfold xr
      by_cases ea : a = m
      · rw [if_pos ea, if_pos (by omega)]; congr 1; omega
      · rw [if_neg ea, if_neg (by omega), if_neg (by omega)]
/-- both sides have ended, with the property -/
def FnJ (J : Nat → Nat → (Nat → Int64) → (Nat → Int64) → Int32 → Prop) (R C rr c : Nat) (q : Nat → Int32) (f : Nat → Nat → Int64) (CL : Int32 × (Nat → Int32) × (Nat → Nat → Int64)) (RF : Int32 × (Nat → Int64) × (Nat → Int64) × Int32 × Int32) : Prop :=
  ∃ (G xc xr s1 : Int32) (w1 v1 w2 v2 : Nat → Int64), (G = 0 ∨ G = 1) ∧ CL = (xc, va_up q 0 G, cs f w1 v1) ∧ RF = (xr, v2, w2, s1, G) ∧ (G = 0 → xc = xr ∧ (xr = 0 ∨ xr = 1) ∧ w2 = w1 ∧ v2 = v1 ∧ Sf R C w1 v1 ∧ ((xr = 1 ∧ J (rr + 1) (c + 1) w1 v1 s1) ∨ (xr = 0 ∧ J rr (c + 1) w1 v1 s1)))
theorem pass_eqJ (hJ : JR R C J) (hj : J rr c w v s) (hS : SH r R C) (hR : R ≤ 4) (hC : C ≤ 5) (hr : rr < R) (hc : c < C) (hq : q 0 = 0) (hF : Sf R C w v) {M : Int32} (hM : ¬ M = 0) {n1 n2 y : Nat} (hy : y + 1 < 1000000) :
    FnJ J R C rr c q f (D_X4_clearColumn_2 r (nI rr) (nI c) (n1 + 2) (nI y) q (cs f w v)) (D_X8_isCleared_2 R C rr c (n2 + 2) M v w s 0) ∨
    (∃ (w1 v1 : Nat → Int64) (s1 M1 : Int32) (m : Nat), ¬ M1 = 0 ∧ (Sf R C w1 v1 ∧ J rr c w1 v1 s1) ∧ (rr ≤ m ∧ m < R ∧ ¬ w (m * 5 + c) = 0 ∧ ∀ i, rr ≤ i → i < R → w (i * 5 + c) ≠ 0 → na (w (m * 5 + c)) ≤ na (w (i * 5 + c))) ∧ 0 < (w1 (rr * 5 + c)).toInt ∧ na (w1 (rr * 5 + c)) = na (w (m * 5 + c)) ∧
      (∀ a, rr < a → a < R → w1 (a * 5 + c) = rmf (if a = m then w (rr * 5 + c) else w (a * 5 + c)) (w1 (rr * 5 + c))) ∧ (∃ a, rr < a ∧ a < R ∧ ¬ w1 (a * 5 + c) = 0) ∧
      D_X4_clearColumn_2 r (nI rr) (nI c) (n1 + 2) (nI y) q (cs f w v) = D_X4_clearColumn_2 r (nI rr) (nI c) (n1 + 1) (nI (y + 1)) q (cs f w1 v1) ∧ D_X8_isCleared_2 R C rr c (n2 + 2) M v w s 0 = D_X8_isCleared_2 R C rr c (n2 + 1) M1 v1 w1 s1 0) := by
  have hcl : D_X4_clearColumn_2 r (nI rr) (nI c) (n1 + 2) (nI y) q (cs f w v) = if 0 ≤ D_X8_least R C v w s 0 rr c then D_X4_clearColumn_43 r (nI rr) (nI c) (D_X4_clearColumn_2 r (nI rr) (nI c) (n1 + 1)) (nI y) (R - (rr + 1) + 1) (nI (rr + 1)) q (D_X4_bring r q (cs f w v) (D_X8_least R C v w s 0 rr c) (nI rr) (nI c)) else (0, q, cs f w v) := by
    rw [show n1 + 2 = (n1 + 1) + 1 from rfl, D_X4_clearColumn_2_s, if_neg (show ¬ (1000000 : Int32) ≤ nI y from nile (a := 1000000) (by omega) (by omega)), if_pos hq]
    simp only [bnd1]
    rw [le_eq (s := s) hS hR (by omega) hr, hS.1, s1, gapN (by omega) (by omega)]
  have hl := rle (C := C) (v := v) (s := s) hF.1.1 hR (show c < 5 by omega) hr
  have hrf : D_X8_isCleared_2 R C rr c (n2 + 2) M v w s 0 = if D_X8_least R C v w s 0 rr c = -1 then (0, v, w, s, 0) else (if (D_X8_least R C v w s 0 rr c).toNatClampNeg = rr then D_X8_isCleared_j63 R C rr c (D_X8_isCleared_2 R C rr c (n2 + 1)) 0 v w s else D_X8_isCleared_j63 R C rr c (D_X8_isCleared_2 R C rr c (n2 + 1)) 0 (xr R (D_X8_least R C v w s 0 rr c).toNatClampNeg rr v) (xr C (D_X8_least R C v w s 0 rr c).toNatClampNeg rr w) (-s)) := by
    rw [show n2 + 2 = (n2 + 1) + 1 from rfl, D_X8_isCleared_2_s, if_neg hM, if_pos rfl]
    rfl
  rw [hcl, hrf]
  generalize D_X8_least R C v w s 0 rr c = x at hl
  rcases hl with ⟨rfl, hz⟩ | ⟨m, rfl, hm1, hm2, hm3, hm4⟩
  · rw [if_neg (by decide), if_pos rfl]
    exact Or.inl ⟨0, 0, 0, s, w, v, w, v, Or.inl rfl, by rw [vq0 hq], rfl, fun _ => ⟨rfl, Or.inl rfl, rfl, rfl, hF, Or.inr ⟨rfl, (hJ rr c hr hc w v s hj hF).2.2.2.1 hz⟩⟩⟩
  · rw [if_pos (Int32.not_lt.mp (ilt0 (by omega))), if_neg (nI_m1 (by omega)), nI_clamp (by omega)]
    obtain ⟨w1, v1, s2, h1, h2, ⟨h3, h3j⟩, h4, h5, h6⟩ := br_eqJ (q := q) (f := f) (s := s) hJ hj hS hR hC hm1 hm2 hc hF hm3
    rw [h1, h2, D_X8_isCleared_j102_s]
    rcases L109J (J := J) (r := r) (f := f) (s := s2) (lbc := D_X4_clearColumn_2 r (nI rr) (nI c) (n1 + 1)) (yy := nI y) (lbr := D_X8_isCleared_2 R C rr c (n2 + 1)) hJ hS hR hC hr hc (R - (rr + 1) + 1) (R + 1 - (rr + 1) + 1) (rr + 1) 0 w1 v1 q (by omega) (by omega) (by omega) (by omega) hq h3 h3j h4 with ⟨M1, w3, v3, w4, v4, k1, k2⟩ | ⟨M1, w3, v3, k1, k2, ⟨k3, k3j⟩, k4, k5, k6⟩
    · rw [k1, k2, r2g, D_X4_clearColumn_j76_s, if_neg (by rw [vu_self]; decide)]
      refine Or.inl ⟨1, 0, 1, s2, w3, v3, w4, v4, Or.inr rfl, ?_, rfl, fun h => absurd h (by decide)⟩
      rw [D_X4_clearColumn_2_s]
      split
      · rfl
      · rw [if_neg (by rw [vu_self]; decide)]
    · rw [k1, k2, D_X4_clearColumn_j76_s, if_pos hq]
      simp only [bnd1]
      have hpv : w3 (rr * 5 + c) = w1 (rr * 5 + c) := k4 rr (by omega)
      rcases cb (r := r) (q := q) (f := f) (w := w3) (v := v3) (c := c) hS hR (by omega) hr with ⟨b1, b2⟩ | ⟨⟨a, b1, b2, b3⟩, b4⟩
      · rw [b2, if_neg (by decide)]
        have hM1 : M1 = 0 := k6.mpr ⟨rfl, fun a ha hb => b1 a ha hb⟩
        rw [hM1, D_X8_isCleared_2_s, if_pos rfl, show gap (nI rr) 0 = rr - 0 from gapN (b := 0) (by omega) (by omega)]
        obtain ⟨G, w5, v5, w6, v6, g1, g2, g3, g4⟩ := L164J (J := J) (r := r) (f := f) (s := s2) hJ hS hR hC hr hc (rr - 0 + 1) (rr + 1 - 0 + 1) 0 w3 v3 q (by omega) (by omega) (by omega) hq k3 k3j (by rw [hpv]; exact h4)
        exact Or.inl ⟨G, 1, 1, s2, w5, v5, w6, v6, g1, g2, g3, fun h => ⟨rfl, Or.inr rfl, (g4 h).1, (g4 h).2.1, (g4 h).2.2.1, Or.inl ⟨rfl, (hJ rr c hr hc w5 v5 s2 (g4 h).2.2.2.1 (g4 h).2.2.1).2.2.2.2 ⟨by rw [(g4 h).2.2.2.2 rr (Nat.le_refl _), hpv]; exact h4, fun a ha hb => by rw [(g4 h).2.2.2.2 a (by omega)]; exact b1 a ha hb⟩⟩⟩⟩
      · rw [b4, if_pos rfl]
        have hM1 : ¬ M1 = 0 := fun h => b3 ((k6.mp h).2 a b1 b2)
        refine Or.inr ⟨w3, v3, s2, M1, m, hM1, ⟨k3, k3j⟩, ⟨hm1, hm2, hm3, hm4⟩, by rw [hpv]; exact h4, by rw [hpv, h5], fun a' ha hb => ?_, ⟨a, by omega, b2, b3⟩, by rw [s1], rfl⟩
        rw [k5 a' (by omega) hb, h6 a' ha hb, hpv]
theorem all_eqJ (hJ : JR R C J) (hS : SH r R C) (hR : R ≤ 4) (hC : C ≤ 5) (hr : rr < R) (hc : c < C) (hq : q 0 = 0) : ∀ K n1 n2 y : Nat, ∀ (w v : Nat → Int64) (s M : Int32), ¬ M = 0 → Sf R C w v → J rr c w v s → y + 2 * K + 3 < 1000000 → 2 * K + 2 ≤ n1 → 2 * K + 2 ≤ n2 → Lt R rr c K w →
    FnJ J R C rr c q f (D_X4_clearColumn_2 r (nI rr) (nI c) n1 (nI y) q (cs f w v)) (D_X8_isCleared_2 R C rr c n2 M v w s 0) := by
  intro K
  induction K with
  | zero =>
    intro n1 n2 y w v s M hM hF hj hy h1 h2 hL
    obtain ⟨n1, rfl⟩ : ∃ n, n1 = n + 2 := ⟨n1 - 2, by omega⟩
    obtain ⟨n2, rfl⟩ : ∃ n, n2 = n + 2 := ⟨n2 - 2, by omega⟩
    rcases pass_eqJ (r := r) (f := f) (s := s) hJ hj hS hR hC hr hc hq hF hM (n1 := n1) (n2 := n2) (y := y) (by omega) with h | ⟨w1, v1, s1, M1, m, a1, ⟨a2, a2j⟩, ⟨b1, b2, b3, b4⟩, _⟩
    · exact h
    · rcases hL with h | ⟨i, h1, h2, h3, h4⟩
      · exact absurd (h m b1 b2) b3
      · exact absurd (na0.mp (show na (w (i * 5 + c)) = 0 by omega)) h3
  | succ K ih =>
    intro n1 n2 y w v s M hM hF hj hy h1 h2 hL
    obtain ⟨n1, rfl⟩ : ∃ n, n1 = n + 2 := ⟨n1 - 2, by omega⟩
    obtain ⟨n2, rfl⟩ : ∃ n, n2 = n + 2 := ⟨n2 - 2, by omega⟩
    rcases pass_eqJ (r := r) (f := f) (s := s) hJ hj hS hR hC hr hc hq hF hM (n1 := n1) (n2 := n2) (y := y) (by omega) with h | ⟨w1, v1, s1, M1, m, a1, ⟨a2, a2j⟩, ⟨b1, b2, b3, b4⟩, a3, a4, a5, ⟨a, a6, a7, a8⟩, a9, a10⟩
    · exact h
    · rw [a9, a10]
      obtain ⟨n1, rfl⟩ : ∃ n, n1 = n + 1 := ⟨n1 - 1, by omega⟩
      obtain ⟨n2, rfl⟩ : ∃ n, n2 = n + 1 := ⟨n2 - 1, by omega⟩
      -- the pivot now, P < 2 ^ (K + 1)
      have hP : na (w1 (rr * 5 + c)) < 2 ^ (K + 1) := by
        rw [a4]
        rcases hL with h | ⟨i, h1, h2, h3, h4⟩
        · exact absurd (h m b1 b2) b3
        · exact Nat.lt_of_le_of_lt (b4 i h1 h2 h3) h4
      rcases pass_eqJ (r := r) (f := f) (s := s1) hJ a2j hS hR hC hr hc hq a2 a1 (n1 := n1) (n2 := n2) (y := y + 1) (by omega) with h | ⟨w2, v2, s2, M2, m2, c1, ⟨c2, c2j⟩, ⟨d1, d2, d3, d4⟩, c3, c4, c5, ⟨a', c6, c7, c8⟩, c9, c10⟩
      · exact h
      · rw [c9, c10]
        refine ih _ _ _ w2 v2 s2 M2 c1 c2 c2j (by omega) (by omega) (by omega) (Or.inr ?_)
        -- all below are less than the pivot of their pass
        have hlt : ∀ b, rr < b → b < R → 0 ≤ (w1 (b * 5 + c)).toInt ∧ (w1 (b * 5 + c)).toInt < (w1 (rr * 5 + c)).toInt := fun b hb1 hb2 => by rw [a5 b hb1 hb2]; exact rmf_int a3
        have hlt2 : ∀ b, rr < b → b < R → 0 ≤ (w2 (b * 5 + c)).toInt ∧ (w2 (b * 5 + c)).toInt < (w2 (rr * 5 + c)).toInt := fun b hb1 hb2 => by rw [c5 b hb1 hb2]; exact rmf_int c3
        have e1 := na_pos (Int.le_of_lt a3)
        have e2 := na_pos (Int.le_of_lt c3)
        have hpow : 2 ^ (K + 1) = 2 ^ K * 2 := Nat.pow_succ 2 K
        have hm2 : m2 ≠ rr := by
          intro e
          have h5 := d4 a (by omega) a7 a8
          rw [e] at h5
          have h6 := hlt a a6 a7
          have h7 : na (w1 (a * 5 + c)) < na (w1 (rr * 5 + c)) := by
            have := na_pos h6.1
            omega
          omega
        have h5 := hlt m2 (by omega) d2
        have e3 := na_pos h5.1
        by_cases hK : na (w2 (rr * 5 + c)) < 2 ^ K
        · have h6 := hlt2 a' c6 c7
          have h7 := na_pos h6.1
          exact ⟨a', by omega, c7, c8, by omega⟩
        · -- the elder pivot is left with less
          have h6 : w2 (m2 * 5 + c) = rmf (w1 (rr * 5 + c)) (w2 (rr * 5 + c)) := by rw [c5 m2 (by omega) d2, if_pos rfl]
          have h7 := rmf_mod (Int.le_of_lt a3) c3
          have h8 : (w1 (rr * 5 + c)).toInt % (w2 (rr * 5 + c)).toInt = (w1 (rr * 5 + c)).toInt - (w2 (rr * 5 + c)).toInt := by
            rw [← Int.sub_emod_right, Int.emod_eq_of_lt (by omega) (by omega)]
          refine ⟨m2, by omega, d2, ?_, ?_⟩
          · intro e
            rw [h6] at e
            rw [e, h8, show (0 : Int64).toInt = 0 from rfl] at h7
            omega
          · have h9 : 0 ≤ (w2 (m2 * 5 + c)).toInt := (hlt2 m2 (by omega) d2).1
            have h10 := na_pos h9
            rw [h6] at h10
            rw [h6]
            omega
theorem col_eqJ (hJ : JR R C J) (hj : J rr c w v s) (hS : SH r R C) (hR : R ≤ 4) (hC : C ≤ 5) (hr : rr < R) (hc : c < C) (hq : q 0 = 0) (hF : Sf R C w v) : FnJ J R C rr c q f (D_X4_clearColumn r q (cs f w v) (nI rr) (nI c)) (D_X8_isCleared R C v w s 0 rr c) := by
  unfold D_X4_clearColumn D_X8_isCleared
  rw [show gap 1000000 0 = 1000000 - 0 from gapN (a := 1000000) (b := 0) (by omega) (by omega)]
  refine all_eqJ hJ hS hR hC hr hc hq 30 (1000000 - 0 + 1) (1000000000 + 1) 0 w v s 1 (by decide) hF hj (by omega) (by omega) (by omega) ?_
  by_cases h : ∀ i, rr ≤ i → i < R → w (i * 5 + c) = 0
  · exact Or.inl h
  · have ⟨i, hi⟩ := Classical.not_forall.mp h
    have ⟨h1, h2⟩ := Classical.not_imp.mp hi
    have ⟨h3, h4⟩ := Classical.not_imp.mp h2
    have h5 := ng_int (hF.1.1 (i * 5 + c) (by omega))
    exact Or.inr ⟨i, h1, h3, h4, by unfold na; omega⟩
theorem wk_lJ (hJ : JR R C J) (hS : SH r R C) (hR : R ≤ 4) (hC : C ≤ 5) : ∀ n1 n2 y x : Nat, ∀ (w v : Nat → Int64) (q : Nat → Int32) (s : Int32), x ≤ R → y ≤ C → C - y < n1 → C - y < n2 → q 0 = 0 → Sf R C w v → J x y w v s →
    ∃ (G s1 : Int32) (w1 v1 w2 v2 : Nat → Int64), (G = 0 ∨ G = 1) ∧ D_X4_walk_28 r n1 (nI y) (nI x) q (cs f w v) = (r, va_up q 0 G, cs f w1 v1) ∧ D_X8_init_32 R C n2 y x w v s 0 = (v2, w2, s1, G) ∧ (G = 0 → w2 = w1 ∧ v2 = v1 ∧ Sf R C w1 v1 ∧ ∃ x1 y1, (C ≤ y1 ∨ R ≤ x1) ∧ x1 ≤ R ∧ y1 ≤ C ∧ J x1 y1 w1 v1 s1) := by
  intro n1
  induction n1 with
  | zero => intro n2 y x w v q s _ _ h; omega
  | succ n1 ih =>
    intro n2 y x w v q s hx hy h1 h2 hq hF hj
    obtain ⟨n2, rfl⟩ : ∃ n, n2 = n + 1 := ⟨n2 - 1, by omega⟩
    rw [D_X4_walk_28_s, D_X8_init_32_s, hS.2.1, hS.1]
    by_cases e : C ≤ y
    · rw [if_pos (ile e (by omega)), if_pos e]
      exact ⟨0, s, w, v, w, v, Or.inl rfl, by rw [vq0 hq], rfl, fun _ => ⟨rfl, rfl, hF, x, y, Or.inl e, hx, hy, hj⟩⟩
    · rw [if_neg (nile e (by omega)), if_neg e]
      by_cases e2 : R ≤ x
      · rw [if_pos (ile e2 (by omega)), if_pos e2]
        exact ⟨0, s, w, v, w, v, Or.inl rfl, by rw [vq0 hq], rfl, fun _ => ⟨rfl, rfl, hF, x, y, Or.inr e2, hx, hy, hj⟩⟩
      · rw [if_neg (nile e2 (by omega)), if_neg e2, if_pos hq, if_pos rfl]
        obtain ⟨G, xc, xr0, s1', w1, v1, w2, v2, hG, g1, g2, g3⟩ := col_eqJ (r := r) (f := f) (s := s) hJ hj hS hR hC (show x < R by omega) (show y < C by omega) hq hF
        rw [g1, g2]
        simp only [bnd3, bnd5]
        obtain ⟨n1, rfl⟩ : ∃ n, n1 = n + 1 := ⟨n1 - 1, by omega⟩
        obtain ⟨n2, rfl⟩ : ∃ n, n2 = n + 1 := ⟨n2 - 1, by omega⟩
        rcases hG with rfl | rfl
        · obtain ⟨rfl, hx01, rfl, rfl, hF1, hj1⟩ := g3 rfl
          rw [vq0 hq]
          rcases hx01 with rfl | rfl
          · rw [if_pos rfl, if_pos rfl, s1]
            exact ih (n2 + 1) (y + 1) x w2 v2 q s1' (by omega) (by omega) (by omega) (by omega) hq hF1 (hj1.elim (fun h => absurd h.1 (by decide)) (fun h => h.2))
          · rw [if_neg (by decide), if_neg (by decide), s1, s1]
            exact ih (n2 + 1) (y + 1) (x + 1) w2 v2 q s1' (by omega) (by omega) (by omega) (by omega) hq hF1 (hj1.elim (fun h => h.2) (fun h => absurd h.1 (by decide)))
        · refine ⟨1, s1', w1, v1, w2, v2, Or.inr rfl, ?_, ?_, fun h => absurd h (by decide)⟩
          · have hcl : ∀ z1 z2 : Int32, D_X4_walk_28 r (n1 + 1) z1 z2 (va_up q 0 1) (cs f w1 v1) = (r, va_up q 0 1, cs f w1 v1) := by
              intro z1 z2
              rw [D_X4_walk_28_s]
              split
              · rfl
              · split
                · rfl
                · rw [if_neg (by rw [vu_self]; decide)]
            split
            · exact hcl _ _
            · exact hcl _ _
          · have hrf : ∀ z1 z2 : Nat, D_X8_init_32 R C (n2 + 1) z1 z2 w2 v2 s1' 1 = (v2, w2, s1', 1) := by
              intro z1 z2
              rw [D_X8_init_32_s]
              split
              · rfl
              · split
                · rfl
                · rw [if_neg (by decide)]
            split
            · exact hrf _ _
            · exact hrf _ _
/-- the row steps of a table, with a property that they keep -/
theorem walk_eqJ (hJ : JR R C J) (hj : J 0 0 (cp (R * 5) g (fun _ => 0)) (un R (fun _ => 0)) 1) (hT : CT r f i R C g) (h6 : i ≠ 6) (h7 : i ≠ 7) (h1 : 1 ≤ R) (hR : R ≤ 4) (h2 : 1 ≤ C) (hC : C ≤ 5) (hg : ∀ k, k < R * 5 → ng (g k)) (hz : zc C (R * 5) g) :
    ∃ (G s1 : Int32) (w1 v1 w2 v2 : Nat → Int64), (G = 0 ∨ G = 1) ∧ D_X4_walk r q f i = (rs (rs r 6 R C) 7 R R, va_up q 0 G, cs f w1 v1) ∧ D_X8_init R C g = (v2, w2, s1, G) ∧ (G = 0 → w2 = w1 ∧ v2 = v1 ∧ Sf R C w1 v1 ∧ ∃ x1 y1, (C ≤ y1 ∨ R ≤ x1) ∧ x1 ≤ R ∧ y1 ≤ C ∧ J x1 y1 w1 v1 s1) := by
  obtain ⟨a1, a2, a3⟩ := hT
  unfold D_X4_walk D_X8_init
  rw [cbl a1 a2]
  simp only [bnd3, bnd1]
  rw [rs_R' h6, a1, cun h1 hR]
  simp only [bnd3]
  have hSH : SH (rs (rs r 6 R C) 7 R R) R C := ⟨(rs_R' (by decide)).trans rs_R, (rs_C' (by decide)).trans rs_C, rs_R, rs_C⟩
  have hf : va_up (va_up f 6 (cp 20 (f i) (f 6))) 7 (un R (zf 20 (va_up f 6 (cp 20 (f i) (f 6)) 7))) = cs f (cp (R * 5) g (fun _ => 0)) (un R (fun _ => 0)) := by
    unfold cs
    rw [vu_ne (show (7 : Nat) ≠ 6 by decide), un_cp hR]
    congr 2
    funext k
    by_cases e : k < 20
    · rw [cpl e, cpl e, a3 k e]
    · unfold cp; rw [if_neg e, if_neg e]
  rw [hf, hSH.2.1, show gap (nI C) 0 = C - 0 from gapN (b := 0) (by omega) (by omega), rcp, run]
  obtain ⟨G, s1', w1, v1, w2, v2, hG, g1, g2, g3⟩ := wk_lJ (f := f) hJ hSH hR hC (C - 0 + 1) (C + 1 - 0 + 1) 0 0 (cp (R * 5) g (fun _ => 0)) (un R (fun _ => 0)) (va_up q 0 0) 1 (by omega) (by omega) (by omega) (by omega) vu_self ⟨⟨fun k _ => cp_ng hg k, fun k _ => un_ng k⟩, cp_zo hz, un_zo⟩ hj
  refine ⟨G, s1', w1, v1, w2, v2, hG, ?_, g2, g3⟩
  rw [vu2] at g1
  exact g1
end PJR
end
section
-- 89f.jdia
/-! ===== The steps to the diagonal once more, with a property that each step keeps ===== -/
/-- a property of the diagonal, its changes and their sides, at t, that every step keeps -/
def JD (R C : Nat) (J : Nat → (Nat → Int64) → (Nat → Int64) → (Nat → Int64) → Int32 → Int32 → Prop) : Prop := ∀ t, t < R → t < C → ∀ w v u s1 s2, J t w v u s1 s2 → Sd R C w v u →
  (∀ i j, t ≤ i → i < R → t ≤ j → j < R → i ≠ j → J t (xr C i j w) (xr R i j v) u (-s1) s2) ∧
  (∀ i j, t ≤ i → i < C → t ≤ j → j < C → i ≠ j → J t (xc R i j w) v (xc C i j u) s1 (-s2)) ∧
  (∀ i, t ≤ i → i < R → J t (tr C i w) (tr R i v) u (-s1) s2) ∧
  (∀ i j x, t ≤ i → i < R → t ≤ j → j < R → i ≠ j → tb9 x → Sd R C (ar C i j x w) (ar R i j x v) u → J t (ar C i j x w) (ar R i j x v) u s1 s2) ∧
  (∀ i j x, t ≤ i → i < C → t ≤ j → j < C → i ≠ j → tb9 x → Sd R C (ac R i j x w) v (ac C i j x u) → J t (ac R i j x w) v (ac C i j x u) s1 s2) ∧
  (((∀ a, t < a → a < R → w (a * 5 + t) = 0) ∧ (∀ b, t < b → b < C → w (t * 5 + b) = 0) ∧ 0 < (w (t * 5 + t)).toInt ∧ ∀ i j, t < i → i < R → t < j → j < C → w (i * 5 + j) - w (i * 5 + j) / w (t * 5 + t) * w (t * 5 + t) = 0) → J (t + 1) w v u s1 s2)
section PJD
variable {r q : Nat → Int32} {f : Nat → Nat → Int64} {w v u g : Nat → Int64} {R C a b t m c0 i : Nat} {x : Int64} {i1 i2 i3 : Int32} {p0 yy : Int32} {lbc : Lb} {J : Nat → (Nat → Int64) → (Nat → Int64) → (Nat → Int64) → Int32 → Int32 → Prop}
theorem dv19J (hD : DH r R C) (hR : R ≤ 4) (hC : C ≤ 4) (ht : t < R ∧ t < C) (hp : w (t * 5 + t) ≠ 0) {i : Nat} (hi : i < R) {lc : Int32 → Int32} {lr : Nat → Int32 × (Nat → Int64) × (Nat → Int64) × Int32} : ∀ n1 n2 y : Nat, y ≤ C → C - y < n1 → C - y < n2 → ((∀ j, y ≤ j → j < C → w (i * 5 + j) - w (i * 5 + j) / w (t * 5 + t) * w (t * 5 + t) = 0) ∧ D_X1_findUndividedRow_19 r q (ds f w v u) (nI t) lc (nI i) n1 (nI y) = lc (nI (i + 1)) ∧ D_X9_isDividing_19 R C u v w i1 i2 i3 0 t lr i n2 y = lr (i + 1)) ∨ ((∃ j, y ≤ j ∧ j < C ∧ ¬ w (i * 5 + j) - w (i * 5 + j) / w (t * 5 + t) * w (t * 5 + t) = 0) ∧ D_X1_findUndividedRow_19 r q (ds f w v u) (nI t) lc (nI i) n1 (nI y) = nI i ∧ D_X9_isDividing_19 R C u v w i1 i2 i3 0 t lr i n2 y = (0, ar R t i 1 v, ar C t i 1 w, D_X9_look R C u (ar R t i 1 v) (ar C t i 1 w) i1 i2 i3 0)) := by
  intro n1
  induction n1 with
  | zero => intro n2 y _ h; omega
  | succ n1 ih =>
    intro n2 y hy h1 h2
    obtain ⟨n2, rfl⟩ : ∃ n, n2 = n + 1 := ⟨n2 - 1, by omega⟩
    rw [D_X1_findUndividedRow_19_s, D_X9_isDividing_19_s, hD.1.2]
    by_cases e : C ≤ y
    · rw [if_pos (ile e (by omega)), if_pos e, s1]
      exact Or.inl ⟨fun j z1 z2 => absurd z2 (by omega), rfl, rfl⟩
    · rw [if_neg (nile e (by omega)), if_neg e]
      simp only [bnd1]
      rw [cget (by omega) (by omega), cget (by omega) (by omega), ds8, cpl (by omega), cpl (by omega), cdv hp]
      by_cases e0 : lg_cmp (w (i * 5 + y) - w (i * 5 + y) / w (t * 5 + t) * w (t * 5 + t)) 0 = 0
      · rw [if_pos e0, if_pos e0, if_neg (show ¬ (1 : Int32) = 0 by decide), s1]
        rcases ih n2 (y + 1) (by omega) (by omega) (by omega) with ⟨h0, h⟩ | ⟨⟨j, k1, k2, k3⟩, k4⟩
        · refine Or.inl ⟨fun j z1 z2 => ?_, h⟩
          by_cases ej : j = y
          · rw [ej]; exact lgE.mp e0
          · exact h0 j (by omega) z2
        · exact Or.inr ⟨⟨j, by omega, k2, k3⟩, k4⟩
      · rw [if_neg e0, if_neg e0, if_pos (show (0 : Int32) = 0 from rfl)]
        exact Or.inr ⟨⟨y, Nat.le_refl _, by omega, fun h => e0 (lgE.mpr h)⟩, rfl, rfl⟩
theorem dv4J (hD : DH r R C) (hR : R ≤ 4) (hC : C ≤ 4) (ht : t < R ∧ t < C) (hp : w (t * 5 + t) ≠ 0) : ∀ n1 n2 y : Nat, t + 1 ≤ y → y ≤ R → R - y < n1 → R - y < n2 → ((∀ i j, y ≤ i → i < R → t < j → j < C → w (i * 5 + j) - w (i * 5 + j) / w (t * 5 + t) * w (t * 5 + t) = 0) ∧ D_X1_findUndividedRow_4 r q (ds f w v u) (nI t) n1 (nI y) = -1 ∧ D_X9_isDividing_4 R C u v w i1 i2 i3 0 t n2 y = (1, v, w, 0)) ∨ (∃ i j, t < i ∧ i < R ∧ t < j ∧ j < C ∧ ¬ w (i * 5 + j) - w (i * 5 + j) / w (t * 5 + t) * w (t * 5 + t) = 0 ∧ D_X1_findUndividedRow_4 r q (ds f w v u) (nI t) n1 (nI y) = nI i ∧ D_X9_isDividing_4 R C u v w i1 i2 i3 0 t n2 y = (0, ar R t i 1 v, ar C t i 1 w, D_X9_look R C u (ar R t i 1 v) (ar C t i 1 w) i1 i2 i3 0)) := by
  intro n1
  induction n1 with
  | zero => intro n2 y _ _ h; omega
  | succ n1 ih =>
    intro n2 y hy0 hy h1 h2
    obtain ⟨n2, rfl⟩ : ∃ n, n2 = n + 1 := ⟨n2 - 1, by omega⟩
    rw [D_X1_findUndividedRow_4_s, D_X9_isDividing_4_s, hD.1.1]
    by_cases e : R ≤ y
    · rw [if_pos (ile e (by omega)), if_pos e]
      exact Or.inl ⟨fun i j z1 z2 => absurd z2 (by omega), rfl, rfl⟩
    · rw [if_neg (nile e (by omega)), if_neg e, hD.1.2, s1, gapN (by omega) (by omega)]
      rcases dv19J (r := r) (q := q) (f := f) (v := v) (u := u) (i1 := i1) (i2 := i2) (i3 := i3) hD hR hC ht hp (show y < R by omega) (lc := D_X1_findUndividedRow_4 r q (ds f w v u) (nI t) n1) (lr := D_X9_isDividing_4 R C u v w i1 i2 i3 0 t n2) (C - (t + 1) + 1) (C + 1 - (t + 1) + 1) (t + 1) (by omega) (by omega) (by omega) with ⟨k0, k1, k2⟩ | ⟨⟨j, k1, k2, k3⟩, k4, k5⟩
      · rw [k1, k2]
        rcases ih n2 (y + 1) (by omega) (by omega) (by omega) (by omega) with ⟨h0, h⟩ | h
        · refine Or.inl ⟨fun i j z1 z2 z3 z4 => ?_, h⟩
          by_cases ei : i = y
          · rw [ei]; exact k0 j z3 z4
          · exact h0 i j (by omega) z2 z3 z4
        · exact Or.inr h
      · exact Or.inr ⟨y, j, by omega, by omega, by omega, k2, k3, k4, k5⟩
theorem dv_eqJ (hD : DH r R C) (hR : R ≤ 4) (hC : C ≤ 4) (ht : t < R ∧ t < C) (hp : w (t * 5 + t) ≠ 0) : ((∀ i j, t < i → i < R → t < j → j < C → w (i * 5 + j) - w (i * 5 + j) / w (t * 5 + t) * w (t * 5 + t) = 0) ∧ D_X1_findUndividedRow r q (ds f w v u) (nI t) = -1 ∧ D_X9_isDividing R C u v w i1 i2 i3 0 t = (1, v, w, 0)) ∨ (∃ i j, t < i ∧ i < R ∧ t < j ∧ j < C ∧ ¬ w (i * 5 + j) - w (i * 5 + j) / w (t * 5 + t) * w (t * 5 + t) = 0 ∧ D_X1_findUndividedRow r q (ds f w v u) (nI t) = nI i ∧ D_X9_isDividing R C u v w i1 i2 i3 0 t = (0, ar R t i 1 v, ar C t i 1 w, D_X9_look R C u (ar R t i 1 v) (ar C t i 1 w) i1 i2 i3 0)) := by
  unfold D_X1_findUndividedRow D_X9_isDividing
  rw [hD.1.1, s1, gapN (by omega) (by omega)]
  exact dv4J hD hR hC ht hp _ _ (t + 1) (Nat.le_refl _) (by omega) (by omega) (by omega)
theorem dbr_eqJ (hJ : JD R C J) (hjj : J t w v u i1 i2) (hD : DH r R C) (hR : R ≤ 4) (hC : C ≤ 4) (hm : t ≤ m ∧ m < R ∧ t ≤ c0 ∧ c0 < C) (hF : Sd R C w v u) (hnz : ¬ w (m * 5 + c0) = 0) :
    ∃ (w1 v1 u1 : Nat → Int64) (j1 j2 : Int32), D_X1_bring r q (ds f w v u) (nI m) (nI c0) (nI t) = ds f w1 v1 u1 ∧ D_X9_bring R C u v w i1 i2 i3 0 t m c0 = (u1, v1, w1, j1, j2) ∧ (Sd R C w1 v1 u1 ∧ J t w1 v1 u1 j1 j2) ∧ Bt R C t m c0 w w1 ∧ Fj t w w1 := by
  have hD0 := hD
  obtain ⟨⟨d1, d2⟩, ⟨d3, d4⟩, d5, d6⟩ := hD0
  have ht : t < R ∧ t < C := ⟨by omega, by omega⟩
  -- the rows
  have hA : ∃ (wa va : Nat → Int64) (ja : Int32), D_X1_bring r q (ds f w v u) (nI m) (nI c0) (nI t) = D_X1_bring_j25 r q (nI c0) (nI t) (ds f wa va u) ∧ D_X9_bring R C u v w i1 i2 i3 0 t m c0 = D_X9_bring_j32 R C u i2 t c0 va wa ja ∧ (Sd R C wa va u ∧ J t wa va u ja i2) ∧ Fj t w wa ∧ ∀ a b, t ≤ a → a < R → b < C → wa (a * 5 + b) = w ((if a = t then m else if a = m then t else a) * 5 + b) := by
    unfold D_X1_bring D_X9_bring
    by_cases e : m = t
    · rw [if_pos (by rw [e]), if_pos e]
      refine ⟨w, v, i1, rfl, rfl, ⟨hF, hjj⟩, fun j _ => rfl, fun a b h1 h2 h3 => ?_⟩
      by_cases e1 : a = t
      · rw [if_pos e1, e1, e]
      · rw [if_neg e1, if_neg (by omega)]
    · rw [if_neg (by rw [neqP (by omega) (by omega)]; exact e), if_neg e]
      simp only [bnd1]
      rw [cexR d2 (by omega) (by omega) (by omega), ds8, cp_xr (by omega) (by omega), ds_s8, cexR d4 (by omega) (by omega) (by omega), ds9, cp_xr (by omega) (by omega), ds_s9]
      refine ⟨xr C m t w, xr R m t v, -i1, rfl, rfl, ⟨Sd_xr hm.2.1 ht.1 hF, (hJ t ht.1 ht.2 w v u i1 i2 hjj hF).1 m t hm.1 hm.2.1 (Nat.le_refl _) ht.1 e⟩, Fj_xr hm.1 (Nat.le_refl _) (by omega), fun a b h1 h2 h3 => ?_⟩
      unfold xr
      by_cases e1 : a = m
      · rw [if_pos (by omega), if_neg (by omega), if_pos e1]; congr 1; omega
      · by_cases e2 : a = t
        · rw [if_neg (by omega), if_pos (by omega), if_pos e2]; congr 1; omega
        · rw [if_neg (by omega), if_neg (by omega), if_neg e2, if_neg e1]
  obtain ⟨wa, va, ja, a1, a2, ⟨a3, a3j⟩, a5, a4⟩ := hA
  -- the columns
  have hB : ∃ (wb ub : Nat → Int64) (jb : Int32), D_X1_bring_j25 r q (nI c0) (nI t) (ds f wa va u) = D_X1_bring_j50 r q (nI t) (ds f wb va ub) ∧ D_X9_bring_j32 R C u i2 t c0 va wa ja = D_X9_bring_j64 R C t va ja ub wb jb ∧ (Sd R C wb va ub ∧ J t wb va ub ja jb) ∧ Fj t w wb ∧ ∀ a b, a < R → t ≤ b → b < C → wb (a * 5 + b) = wa (a * 5 + (if b = t then c0 else if b = c0 then t else b)) := by
    rw [D_X1_bring_j25_s, D_X9_bring_j32_s]
    by_cases e : c0 = t
    · rw [if_pos (by rw [e]), if_pos e]
      refine ⟨wa, u, i2, rfl, rfl, ⟨a3, a3j⟩, a5, fun a b h1 h2 h3 => ?_⟩
      by_cases e1 : b = t
      · rw [if_pos e1, e1, e]
      · rw [if_neg e1, if_neg (by omega)]
    · rw [if_neg (by rw [neqP (by omega) (by omega)]; exact e), if_neg e]
      simp only [bnd1]
      rw [cexC (by decide) d1 hR (by omega) (by omega), ds8, cp_xc (by omega) (by omega) hR, ds_s8, cexC (by decide) d5 hC (by omega) (by omega), ds10, cp_xc (by omega) (by omega) hC, ds_s10]
      refine ⟨xc R c0 t wa, xc C c0 t u, -i2, rfl, rfl, ⟨Sd_xc hC hm.2.2.2 ht.2 a3, (hJ t ht.1 ht.2 wa va u ja i2 a3j a3).2.1 c0 t hm.2.2.1 hm.2.2.2 (Nat.le_refl _) ht.2 e⟩, Fj_t a5 (Fj_xc hm.2.2.1 (Nat.le_refl _) (by omega)), fun a b h1 h2 h3 => ?_⟩
      unfold xc
      by_cases e1 : b = c0
      · rw [if_pos (by omega), if_neg (by omega), if_pos e1]; congr 1; omega
      · by_cases e2 : b = t
        · rw [if_neg (by omega), if_pos (by omega), if_pos e2]; congr 1; omega
        · rw [if_neg (by omega), if_neg (by omega), if_neg e2, if_neg e1]
  obtain ⟨wb, ub, jb, b1, b2, ⟨b3, b3j⟩, b5, b4⟩ := hB
  have hp : ∀ a b, t ≤ a → a < R → t ≤ b → b < C → wb (a * 5 + b) = w ((if a = t then m else if a = m then t else a) * 5 + (if b = t then c0 else if b = c0 then t else b)) := by
    intro a b h1 h2 h3 h4
    rw [b4 a b h2 h3 h4]
    exact a4 a _ h1 h2 (by (repeat' split) <;> omega)
  have hpt : wb (t * 5 + t) = w (m * 5 + c0) := by
    rw [hp t t (Nat.le_refl _) ht.1 (Nat.le_refl _) ht.2, if_pos rfl, if_pos rfl]
  rw [a1, a2, b1, b2, dj50 hD hR hC ht, D_X9_bring_j64_s]
  by_cases e : 0 ≤ lg_cmp (wb (t * 5 + t)) 0
  · rw [if_pos e, if_pos e]
    refine ⟨wb, va, ub, ja, jb, rfl, rfl, ⟨b3, b3j⟩, ⟨pos_of e (by rw [hpt]; exact hnz), by rw [hpt], 1, Or.inl rfl, fun a b h1 h2 h3 h4 => ?_⟩, b5⟩
    rw [hp a b h1 h2 h3 h4, ite_self, Int.one_mul]
  · rw [if_neg e, if_neg e]
    have hb0 := b3.1.1 (t * 5 + t) (by omega)
    refine ⟨tr C t wb, tr R t va, ub, -ja, jb, rfl, rfl, ⟨Sd_tr ht.1 b3, (hJ t ht.1 ht.2 wb va ub ja jb b3j b3).2.2.1 t (Nat.le_refl _) ht.1⟩, ⟨?_, ?_, -1, Or.inr rfl, fun a b h1 h2 h3 h4 => ?_⟩, Fj_t b5 (Fj_tr (by omega))⟩
    · rw [tr_r ht.2 (by omega)]; exact pos_neg hb0 e
    · rw [tr_r ht.2 (by omega), na_neg hb0, hpt]
    · rw [← hp a b h1 h2 h3 h4]
      unfold tr
      by_cases e1 : a = t
      · rw [if_pos (by omega), if_pos e1, neg_int (b3.1.1 _ (by omega))]; omega
      · rw [if_neg (by omega), if_neg e1, Int.one_mul]
theorem LRJ (hJ : JD R C J) (hD : DH r R C) (hR : R ≤ 4) (hC : C ≤ 4) (ht : t < R ∧ t < C) : ∀ n1 n2 y : Nat, ∀ (w v : Nat → Int64) (q : Nat → Int32), t + 1 ≤ y → y ≤ R → R - y < n1 → R - y < n2 → q 1 = 0 → Sd R C w v u → J t w v u i1 i2 → 0 < (w (t * 5 + t)).toInt →
    (∃ (w1 v1 w2 v2 u2 : Nat → Int64), D_X1_clearCross_43 r (nI t) lbc yy n1 (nI y) q (ds f w v u) = lbc (yy + 1) (va_up q 1 1) (ds f w1 v1 u) ∧ D_X9_takeOff_4 R C u i1 i2 i3 t n2 y v w 0 = (u2, v2, w2, 1)) ∨
    (∃ (w1 v1 : Nat → Int64) (Q : Nat → Int), D_X1_clearCross_43 r (nI t) lbc yy n1 (nI y) q (ds f w v u) = D_X1_clearCross_103 r (nI t) lbc yy (C - (t + 1) + 1) (nI (t + 1)) q (ds f w1 v1 u) ∧ D_X9_takeOff_4 R C u i1 i2 i3 t n2 y v w 0 = D_X9_takeOff_80 R C i1 i2 i3 t v1 (C + 1 - (t + 1) + 1) (t + 1) u w1 0 ∧ (Sd R C w1 v1 u ∧ J t w1 v1 u i1 i2) ∧ (∀ a b, a < y → b < C → w1 (a * 5 + b) = w (a * 5 + b)) ∧ (∀ a b, y ≤ a → a < R → b < C → (w1 (a * 5 + b)).toInt = (w (a * 5 + b)).toInt - Q a * (w (t * 5 + b)).toInt) ∧ ∀ a, y ≤ a → a < R → 0 ≤ (w1 (a * 5 + t)).toInt ∧ (w1 (a * 5 + t)).toInt < (w (t * 5 + t)).toInt) := by
  intro n1
  induction n1 with
  | zero => intro n2 y w v q _ _ h; omega
  | succ n1 ih =>
    intro n2 y w v q hy0 hy h1 h2 hq hF hjj hp
    obtain ⟨n2, rfl⟩ : ∃ n, n2 = n + 1 := ⟨n2 - 1, by omega⟩
    by_cases e : R ≤ y
    · rw [D_X1_clearCross_43_s, D_X9_takeOff_4_s, hD.1.1, if_pos (ile e (by omega)), if_pos e, hD.1.2, s1, gapN (by omega) (by omega), D_X9_takeOff_j76_s]
      exact Or.inr ⟨w, v, fun _ => 0, rfl, rfl, ⟨hF, hjj⟩, fun a b _ _ => rfl, fun a b h1 h2 => absurd h2 (by omega), fun a h1 h2 => absurd h2 (by omega)⟩
    · have hx := hF.1.1 (y * 5 + t) (by omega)
      obtain ⟨G, hG, g1, g2, g3⟩ := addR_eq (r := r) (q := q) (f := f) (a := y) (b := t) (x := -(fdv (w (y * 5 + t)) (w (t * 5 + t)))) (s1' := i1) (s2' := i2) (i3 := i3) hD hR hC (by omega) ht.1 (by omega) hF (tb_fdv hx hp)
      rw [D_X1_clearCross_43_s, D_X9_takeOff_4_s, hD.1.1, if_neg (nile e (by omega)), if_pos hq, if_neg e, if_pos rfl]
      simp only [bnd1]
      rw [cget (by omega) (by omega), cget (by omega) (by omega), ds8, cpl (by omega), cpl (by omega), cdd (nzp hp), g1, g2]
      simp only [bnd2]
      rcases hG with rfl | rfl
      · rw [vq1 hq, s1]
        have hat : ∀ b, b < C → (ar C y t (-(fdv (w (y * 5 + t)) (w (t * 5 + t)))) w (y * 5 + b)).toInt = (w (y * 5 + b)).toInt - (fdv (w (y * 5 + t)) (w (t * 5 + t))).toInt * (w (t * 5 + b)).toInt := fun b hb => by
          rw [ar_at hb (by omega)]
          exact fdv_mad (hF.1.1 _ (by omega)) hx (hF.1.1 _ (by omega)) hp
        have hoff : ∀ a b, b < C → a ≠ y → ar C y t (-(fdv (w (y * 5 + t)) (w (t * 5 + t)))) w (a * 5 + b) = w (a * 5 + b) := fun a b hb ha => ar_off (by omega) ha
        have hrm : ar C y t (-(fdv (w (y * 5 + t)) (w (t * 5 + t)))) w (y * 5 + t) = rmf (w (y * 5 + t)) (w (t * 5 + t)) := by rw [ar_at ht.2 (by omega)]; rfl
        have htt : ar C y t (-(fdv (w (y * 5 + t)) (w (t * 5 + t)))) w (t * 5 + t) = w (t * 5 + t) := hoff t t ht.2 (by omega)
        rcases ih n2 (y + 1) _ _ q (by omega) (by omega) (by omega) (by omega) hq (g3 rfl) ((hJ t ht.1 ht.2 w v u i1 i2 hjj hF).2.2.2.1 y t _ (by omega) (by omega) (Nat.le_refl _) ht.1 (by omega) (tb_fdv hx hp) (g3 rfl)) (by rw [htt]; exact hp) with h | ⟨w3, v3, Q, k1, k2, k3, k4, k5, k6⟩
        · exact Or.inl h
        · refine Or.inr ⟨w3, v3, fun a => if a = y then (fdv (w (y * 5 + t)) (w (t * 5 + t))).toInt else Q a, k1, k2, k3, fun a b ha hb => ?_, fun a b ha hb hc => ?_, fun a ha hb => ?_⟩
          · rw [k4 a b (by omega) hb, hoff a b hb (by omega)]
          · show (w3 (a * 5 + b)).toInt = (w (a * 5 + b)).toInt - (if a = y then (fdv (w (y * 5 + t)) (w (t * 5 + t))).toInt else Q a) * (w (t * 5 + b)).toInt
            by_cases ea : a = y
            · rw [if_pos ea, ea, k4 y b (by omega) hc, hat b hc]
            · rw [if_neg ea, k5 a b (by omega) hb hc, hoff a b hc ea, hoff t b hc (by omega)]
          · by_cases ea : a = y
            · rw [ea, k4 y t (by omega) ht.2, hrm]
              exact rmf_int hp
            · have h5 := k6 a (by omega) hb
              rw [htt] at h5
              exact h5
      · refine Or.inl ?_
        obtain ⟨n1, rfl⟩ : ∃ n, n1 = n + 1 := ⟨n1 - 1, by omega⟩
        obtain ⟨n2, rfl⟩ : ∃ n, n2 = n + 1 := ⟨n2 - 1, by omega⟩
        rw [g43 (by rw [vu_self]; decide), r4g]
        exact ⟨_, _, _, _, _, rfl, rfl⟩
theorem LCJ (hJ : JD R C J) (hD : DH r R C) (hR : R ≤ 4) (hC : C ≤ 4) (ht : t < R ∧ t < C) : ∀ n1 n2 y : Nat, ∀ (w u : Nat → Int64) (q : Nat → Int32), t + 1 ≤ y → y ≤ C → C - y < n1 → C - y < n2 → q 1 = 0 → Sd R C w v u → J t w v u i1 i2 → 0 < (w (t * 5 + t)).toInt →
    (∃ (w1 u1 w2 v2 u2 : Nat → Int64), D_X1_clearCross_103 r (nI t) lbc yy n1 (nI y) q (ds f w v u) = lbc (yy + 1) (va_up q 1 1) (ds f w1 v u1) ∧ D_X9_takeOff_80 R C i1 i2 i3 t v n2 y u w 0 = (u2, v2, w2, 1)) ∨
    (∃ (w1 u1 : Nat → Int64) (K : Nat → Int), D_X1_clearCross_103 r (nI t) lbc yy n1 (nI y) q (ds f w v u) = D_X1_clearCross_j158 r (nI t) lbc yy q (ds f w1 v u1) ∧ D_X9_takeOff_80 R C i1 i2 i3 t v n2 y u w 0 = (u1, v, w1, 0) ∧ (Sd R C w1 v u1 ∧ J t w1 v u1 i1 i2) ∧ (∀ a b, a < R → b < y → w1 (a * 5 + b) = w (a * 5 + b)) ∧ (∀ a b, a < R → y ≤ b → b < C → (w1 (a * 5 + b)).toInt = (w (a * 5 + b)).toInt - K b * (w (a * 5 + t)).toInt) ∧ ∀ b, y ≤ b → b < C → 0 ≤ (w1 (t * 5 + b)).toInt ∧ (w1 (t * 5 + b)).toInt < (w (t * 5 + t)).toInt) := by
  intro n1
  induction n1 with
  | zero => intro n2 y w u q _ _ h; omega
  | succ n1 ih =>
    intro n2 y w u q hy0 hy h1 h2 hq hF hjj hp
    obtain ⟨n2, rfl⟩ : ∃ n, n2 = n + 1 := ⟨n2 - 1, by omega⟩
    by_cases e : C ≤ y
    · rw [D_X1_clearCross_103_s, D_X9_takeOff_80_s, hD.1.2, if_pos (ile e (by omega)), if_pos e]
      exact Or.inr ⟨w, u, fun _ => 0, rfl, rfl, ⟨hF, hjj⟩, fun a b _ _ => rfl, fun a b _ h1 h2 => absurd h2 (by omega), fun a h1 h2 => absurd h2 (by omega)⟩
    · have hx := hF.1.1 (t * 5 + y) (by omega)
      obtain ⟨G, hG, g1, g2, g3⟩ := addC_eq (r := r) (q := q) (f := f) (a := y) (b := t) (x := -(fdv (w (t * 5 + y)) (w (t * 5 + t)))) (s1' := i1) (s2' := i2) (i3 := i3) hD hR hC (by omega) ht.2 (by omega) hF (tb_fdv hx hp)
      rw [D_X1_clearCross_103_s, D_X9_takeOff_80_s, hD.1.2, if_neg (nile e (by omega)), if_pos hq, if_neg e, if_pos rfl]
      simp only [bnd1]
      rw [cget (by omega) (by omega), cget (by omega) (by omega), ds8, cpl (by omega), cpl (by omega), cdd (nzp hp), g1, g2]
      simp only [bnd2]
      have hac : ∀ a b, a < R → b < 5 → ac R y t (-(fdv (w (t * 5 + y)) (w (t * 5 + t)))) w (a * 5 + b) = if b = y then w (a * 5 + y) + -(fdv (w (t * 5 + y)) (w (t * 5 + t))) * w (a * 5 + t) else w (a * 5 + b) := fun a b ha hb => by
        unfold ac
        by_cases e : b = y
        · rw [if_pos (by omega), if_pos e, e, show (a * 5 + y) / 5 = a by omega]
        · rw [if_neg (by omega), if_neg e]
      rcases hG with rfl | rfl
      · rw [vq1 hq, s1]
        have hat : ∀ a, a < R → (ac R y t (-(fdv (w (t * 5 + y)) (w (t * 5 + t)))) w (a * 5 + y)).toInt = (w (a * 5 + y)).toInt - (fdv (w (t * 5 + y)) (w (t * 5 + t))).toInt * (w (a * 5 + t)).toInt := fun a ha => by
          rw [hac a y ha (by omega), if_pos rfl]
          exact fdv_mad (hF.1.1 _ (by omega)) hx (hF.1.1 _ (by omega)) hp
        have hoff : ∀ a b, a < R → b < C → b ≠ y → ac R y t (-(fdv (w (t * 5 + y)) (w (t * 5 + t)))) w (a * 5 + b) = w (a * 5 + b) := fun a b ha hb he => by rw [hac a b ha (by omega), if_neg he]
        have hrm : ac R y t (-(fdv (w (t * 5 + y)) (w (t * 5 + t)))) w (t * 5 + y) = rmf (w (t * 5 + y)) (w (t * 5 + t)) := by rw [hac t y ht.1 (by omega), if_pos rfl]; rfl
        have htt : ac R y t (-(fdv (w (t * 5 + y)) (w (t * 5 + t)))) w (t * 5 + t) = w (t * 5 + t) := hoff t t ht.1 ht.2 (by omega)
        rcases ih n2 (y + 1) _ _ q (by omega) (by omega) (by omega) (by omega) hq (g3 rfl) ((hJ t ht.1 ht.2 w v u i1 i2 hjj hF).2.2.2.2.1 y t _ (by omega) (by omega) (Nat.le_refl _) ht.2 (by omega) (tb_fdv hx hp) (g3 rfl)) (by rw [htt]; exact hp) with h | ⟨w3, u3, K, k1, k2, k3, k4, k5, k6⟩
        · exact Or.inl h
        · refine Or.inr ⟨w3, u3, fun b => if b = y then (fdv (w (t * 5 + y)) (w (t * 5 + t))).toInt else K b, k1, k2, k3, fun a b ha hb => ?_, fun a b ha hb hc => ?_, fun b ha hb => ?_⟩
          · rw [k4 a b ha (by omega), hoff a b ha (by omega) (by omega)]
          · show (w3 (a * 5 + b)).toInt = (w (a * 5 + b)).toInt - (if b = y then (fdv (w (t * 5 + y)) (w (t * 5 + t))).toInt else K b) * (w (a * 5 + t)).toInt
            by_cases ea : b = y
            · rw [if_pos ea, ea, k4 a y ha (by omega), hat a ha]
            · rw [if_neg ea, k5 a b ha (by omega) hc, hoff a b ha hc ea, hoff a t ha ht.2 (by omega)]
          · by_cases ea : b = y
            · rw [ea, k4 t y ht.1 (by omega), hrm]
              exact rmf_int hp
            · have h5 := k6 b (by omega) hb
              rw [htt] at h5
              exact h5
      · refine Or.inl ?_
        obtain ⟨n1, rfl⟩ : ∃ n, n1 = n + 1 := ⟨n1 - 1, by omega⟩
        obtain ⟨n2, rfl⟩ : ∃ n, n2 = n + 1 := ⟨n2 - 1, by omega⟩
        rw [g103 (by rw [vu_self]; decide), r80g]
        exact ⟨_, _, _, _, _, rfl, rfl⟩
/-- both sides have ended, with the property -/
def FdDJ (J : Nat → (Nat → Int64) → (Nat → Int64) → (Nat → Int64) → Int32 → Int32 → Prop) (R C t : Nat) (w : Nat → Int64) (q : Nat → Int32) (f : Nat → Nat → Int64) (CL : Int32 × (Nat → Int32) × (Nat → Nat → Int64)) (RF : Int32 × (Nat → Int64) × (Nat → Int64) × (Nat → Int64) × Int32 × Int32 × Int32) : Prop :=
  ∃ (G xc xr j1 j2 : Int32) (w1 v1 u1 w2 v2 u2 : Nat → Int64), (G = 0 ∨ G = 1) ∧ CL = (xc, va_up q 1 G, ds f w1 v1 u1) ∧ RF = (xr, u2, v2, w2, j1, j2, G) ∧ (G = 1 → xr = 0) ∧ (G = 0 → xc = xr ∧ (xr = 0 ∨ xr = 1) ∧ w2 = w1 ∧ v2 = v1 ∧ u2 = u1 ∧ Sd R C w1 v1 u1 ∧ Fj t w w1 ∧ (xr = 1 → ¬ w1 (t * 5 + t) = 0) ∧ (xr = 0 → ∀ a b, t ≤ a → a < R → t ≤ b → b < C → w1 (a * 5 + b) = 0) ∧ ((xr = 1 ∧ J (t + 1) w1 v1 u1 j1 j2) ∨ (xr = 0 ∧ J t w1 v1 u1 j1 j2)))
theorem dpass_eqJ (hJ : JD R C J) (hjj : J t w v u i1 i2) (hD : DH r R C) (hR : R ≤ 4) (hC : C ≤ 4) (ht : t < R ∧ t < C) (hq : q 1 = 0) (hF : Sd R C w v u) {n1 n2 y : Nat} (hy : y + 1 < 1000000) :
    FdDJ J R C t w q f (D_X1_clearCross_2 r (nI t) (n1 + 2) (nI y) q (ds f w v u)) (D_X9_isCleared_0 R C i3 t (n2 + 2) u v w i1 i2 0) ∨
    (∃ (w1 v1 u1 : Nat → Int64) (j1 j2 : Int32), Ps R C t w w1 ∧ Fj t w w1 ∧ (Sd R C w1 v1 u1 ∧ J t w1 v1 u1 j1 j2) ∧ D_X1_clearCross_2 r (nI t) (n1 + 2) (nI y) q (ds f w v u) = D_X1_clearCross_2 r (nI t) (n1 + 1) (nI (y + 1)) q (ds f w1 v1 u1) ∧ D_X9_isCleared_0 R C i3 t (n2 + 2) u v w i1 i2 0 = D_X9_isCleared_0 R C i3 t (n2 + 1) u1 v1 w1 j1 j2 0) := by
  have hcl : D_X1_clearCross_2 r (nI t) (n1 + 2) (nI y) q (ds f w v u) = if 0 ≤ D_X1_findLeastPlace r q (ds f w v u) (nI t) then D_X1_clearCross_43 r (nI t) (D_X1_clearCross_2 r (nI t) (n1 + 1)) (nI y) (R - (t + 1) + 1) (nI (t + 1)) q (D_X1_bring r q (ds f w v u) (D_X1_findLeastPlace r q (ds f w v u) (nI t) / 5) (D_X1_findLeastPlace r q (ds f w v u) (nI t) - D_X1_findLeastPlace r q (ds f w v u) (nI t) / 5 * 5) (nI t)) else (0, q, ds f w v u) := by
    rw [show n1 + 2 = (n1 + 1) + 1 from rfl, D_X1_clearCross_2_s, if_neg (show ¬ (1000000 : Int32) ≤ nI y from nile (a := 1000000) (by omega) (by omega)), if_pos hq]
    simp only [bnd1]
    rw [hD.1.1, s1, gapN (by omega) (by omega)]
  have hrf : D_X9_isCleared_0 R C i3 t (n2 + 2) u v w i1 i2 0 = D_X9_isCleared_14 R C i3 t (D_X9_isCleared_0 R C i3 t (n2 + 1)) u v w i1 i2 0 (R + 1 - t + 1) t t t := by
    rw [show n2 + 2 = (n2 + 1) + 1 from rfl, D_X9_isCleared_0_s, if_pos rfl]
  rw [hcl, hrf]
  rcases fp_eq (r := r) (q := q) (f := f) (v := v) (u := u) (i1 := i1) (i2 := i2) (i3 := i3) hD hR hC ht hF.1.1 (lbr := D_X9_isCleared_0 R C i3 t (n2 + 1)) with ⟨h1, h2, h3, h4⟩ | ⟨m, c0, h1, h2, h3, h4, h5, h6⟩
  · rw [h1, if_neg (by decide), h3, D_X9_isCleared_14_s, if_pos (Nat.le_refl _), if_pos (lgE.mpr h4)]
    exact Or.inl ⟨0, 0, 0, i1, i2, w, v, u, w, v, u, Or.inl rfl, by rw [vq1 hq], rfl, fun h => absurd h (by decide), fun _ => ⟨rfl, Or.inl rfl, rfl, rfl, rfl, hF, fun j _ => rfl, fun h => absurd h (by decide), fun _ => h2, Or.inr ⟨rfl, hjj⟩⟩⟩
  · have e1 : nI (m * 5 + c0) / 5 = nI m := by rw [nI_div5 (by omega), show (m * 5 + c0) / 5 = m by omega]
    have e2 : nI (m * 5 + c0) - nI m * 5 = nI c0 := by
      rw [show (5 : Int32) = nI 5 from rfl, nI_mul, nI_sub (by omega), show m * 5 + c0 - m * 5 = c0 by omega]
    rw [h4, if_pos (Int32.not_lt.mp (ilt0 (by omega))), e1, e2, h5, D_X9_isCleared_14_s, if_pos (Nat.le_refl _), if_neg (fun h => h2 (lgE.mp h))]
    obtain ⟨wb, vb, ub, jb1, jb2, b1, b2, ⟨b3, b3j⟩, ⟨b4, b5, s, b6, b7⟩, b8⟩ := dbr_eqJ (r := r) (q := q) (f := f) (i1 := i1) (i2 := i2) (i3 := i3) hJ hjj hD hR hC h1 hF h2
    rw [b1, b2]
    simp only [bnd5]
    have htk : D_X9_takeOff R C ub vb wb jb1 jb2 i3 0 t = D_X9_takeOff_4 R C ub jb1 jb2 i3 t (R + 1 - (t + 1) + 1) (t + 1) vb wb 0 := rfl
    rw [htk]
    rcases LRJ (J := J) (r := r) (f := f) (u := ub) (i1 := jb1) (i2 := jb2) (i3 := i3) (yy := nI y) (lbc := D_X1_clearCross_2 r (nI t) (n1 + 1)) hJ hD hR hC ht (R - (t + 1) + 1) (R + 1 - (t + 1) + 1) (t + 1) wb vb q (Nat.le_refl _) (by omega) (by omega) (by omega) hq b3 b3j b4 with ⟨w1, v1, w2, v2, u2, k1, k2⟩ | ⟨wr, vr, Q, k1, k2, ⟨k3, k3j⟩, k4, k5, k6⟩
    · rw [k1, k2]
      simp only [bnd4]
      rw [if_neg (by decide), d2g (by rw [vu_self]; decide)]
      exact Or.inl ⟨1, 0, 0, jb1, jb2, w1, v1, ub, w2, v2, u2, Or.inr rfl, rfl, rfl, fun _ => rfl, fun h => absurd h (by decide)⟩
    · rw [k1, k2]
      have hptr : wr (t * 5 + t) = wb (t * 5 + t) := k4 t t (by omega) ht.2
      rcases LCJ (J := J) (r := r) (f := f) (v := vr) (i1 := jb1) (i2 := jb2) (i3 := i3) (yy := nI y) (lbc := D_X1_clearCross_2 r (nI t) (n1 + 1)) hJ hD hR hC ht (C - (t + 1) + 1) (C + 1 - (t + 1) + 1) (t + 1) wr ub q (Nat.le_refl _) (by omega) (by omega) (by omega) hq k3 k3j (by rw [hptr]; exact b4) with ⟨w1, u1, w2, v2, u2, l1, l2⟩ | ⟨wc, uc, K, l1, l2, ⟨l3, l3j⟩, l4, l5, l6⟩
      · rw [l1, l2]
        simp only [bnd4]
        rw [if_neg (by decide), d2g (by rw [vu_self]; decide)]
        exact Or.inl ⟨1, 0, 0, jb1, jb2, w1, vr, u1, w2, v2, u2, Or.inr rfl, rfl, rfl, fun _ => rfl, fun h => absurd h (by decide)⟩
      · rw [l1, l2]
        simp only [bnd4]
        rw [if_pos trivial, D_X1_clearCross_j158_s, if_pos hq]
        simp only [bnd1]
        have hptc : wc (t * 5 + t) = wb (t * 5 + t) := by rw [l4 t t ht.1 (by omega), hptr]
        have hpc : 0 < (wc (t * 5 + t)).toInt := by rw [hptc]; exact b4
        have hFj : Fj t w wc := Fj_t b8 (fun j hj => (l4 j j (by omega) (by omega)).trans (k4 j j (by omega) (by omega)))
        have nz : ∀ z : Int64, ¬ z = 0 → z.toInt ≠ 0 := fun z h e => h (Int64.toInt_inj.mp e)
        -- the facts of this pass
        have hPs : ∀ w3 : Nat → Int64, (((∀ a b, t ≤ a → a < R → t ≤ b → b < C → (w3 (a * 5 + b)).toInt = (wc (a * 5 + b)).toInt) ∧ ((∃ a, t < a ∧ a < R ∧ (wc (a * 5 + t)).toInt ≠ 0) ∨ ∃ b, t < b ∧ b < C ∧ (wc (t * 5 + b)).toInt ≠ 0)) ∨ ((∀ a, t < a → a < R → (wc (a * 5 + t)).toInt = 0) ∧ (∀ b, t < b → b < C → (wc (t * 5 + b)).toInt = 0) ∧ ∃ i j, t < i ∧ i < R ∧ t < j ∧ j < C ∧ (wc (i * 5 + j)).toInt % (wc (t * 5 + t)).toInt ≠ 0 ∧ ∀ a b, t ≤ a → a < R → t ≤ b → b < C → (w3 (a * 5 + b)).toInt = if a = t then (wc (t * 5 + b)).toInt + (wc (i * 5 + b)).toInt else (wc (a * 5 + b)).toInt)) → Ps R C t w w3 := by
          intro w3 h
          refine ⟨m, c0, s, Q, K, fun a b => (wb (a * 5 + b)).toInt, fun a b => (wr (a * 5 + b)).toInt, fun a b => (wc (a * 5 + b)).toInt, h1, b6, h2, h3, h6, b7, b4, fun b hb1 hb2 => ?_, fun a b ha1 ha2 hb1 hb2 => ?_, fun a ha1 ha2 => ?_, fun a ha1 ha2 => ?_, fun a b ha1 ha2 hb1 hb2 => ?_, fun b hb1 hb2 => ?_, h⟩
          · show (wr (t * 5 + b)).toInt = (wb (t * 5 + b)).toInt
            rw [k4 t b (by omega) hb2]
          · exact k5 a b (by omega) ha2 hb2
          · exact k6 a (by omega) ha2
          · show (wc (a * 5 + t)).toInt = (wr (a * 5 + t)).toInt
            rw [l4 a t ha2 (by omega)]
          · exact l5 a b ha2 (by omega) hb2
          · have := l6 b (by omega) hb2
            rw [hptr] at this
            exact this
        rcases cc_eq (r := r) (q := q) (f := f) (w := wc) (v := vr) (u := uc) (i1 := jb1) (i2 := jb2) (i3 := i3) hD hR hC ht with ⟨⟨c1, c2⟩, c3, c4⟩ | ⟨c1, c3, c4⟩
        · rw [c3, c4, if_neg (show ¬ (1 : Int32) = 0 by decide), if_neg (show ¬ (1 : Int32) = 0 by decide)]
          rcases dv_eqJ (r := r) (q := q) (f := f) (w := wc) (v := vr) (u := uc) (i1 := jb1) (i2 := jb2) (i3 := i3) hD hR hC ht (nzp hpc) with ⟨g0, g1, g2⟩ | ⟨i, j, g1, g2, g3, g4, g5, g6, g7⟩
          · rw [g1, g2, if_neg (by decide)]
            simp only [bnd4]
            rw [if_pos trivial]
            exact Or.inl ⟨0, 1, 1, jb1, jb2, wc, vr, uc, wc, vr, uc, Or.inl rfl, by rw [vq1 hq], rfl, fun h => absurd h (by decide), fun _ => ⟨rfl, Or.inr rfl, rfl, rfl, rfl, l3, hFj, fun _ => nzp hpc, fun h => absurd h (by decide), Or.inl ⟨rfl, (hJ t ht.1 ht.2 wc vr uc jb1 jb2 l3j l3).2.2.2.2.2 ⟨c1, c2, hpc, g0⟩⟩⟩⟩
          · obtain ⟨G, hG, a1, a2, a3⟩ := addR_eq (r := r) (q := q) (f := f) (a := t) (b := i) (x := 1) (s1' := jb1) (s2' := jb2) (i3 := i3) hD hR hC ht.1 g2 (by omega) l3 tb91
            rw [g6, g7, if_pos (Int32.not_lt.mp (ilt0 (by omega))), a1, a2]
            simp only [bnd2, bnd4]
            rw [if_neg (by decide)]
            rcases hG with rfl | rfl
            · refine Or.inr ⟨ar C t i 1 wc, ar R t i 1 vr, uc, jb1, jb2, hPs _ (Or.inr ⟨fun a ha1 ha2 => ?_, fun b hb1 hb2 => ?_, i, j, g1, g2, g3, g4, rem_emod hpc g5, fun a b ha1 ha2 hb1 hb2 => ?_⟩), Fj_t hFj (fun j hj => ar_off (by omega) (by omega)), ⟨a3 rfl, (hJ t ht.1 ht.2 wc vr uc jb1 jb2 l3j l3).2.2.2.1 t i 1 (Nat.le_refl _) ht.1 (by omega) g2 (by omega) tb91 (a3 rfl)⟩, by rw [vq1 hq, s1], rfl⟩
              · rw [c1 a (by omega) ha2]; rfl
              · rw [c2 b (by omega) hb2]; rfl
              · by_cases ea : a = t
                · rw [if_pos ea, ea, ar_at hb2 (by omega), add_i (l3.1.1 _ (by omega)) (l3.1.1 _ (by omega))]
                · rw [if_neg ea, ar_off (by omega) ea]
            · rw [d2g (by rw [vu_self]; decide), r0g]
              exact Or.inl ⟨1, 0, 0, jb1, jb2, _, _, _, _, _, _, Or.inr rfl, rfl, rfl, fun _ => rfl, fun h => absurd h (by decide)⟩
        · rw [c3, c4, if_pos (show (0 : Int32) = 0 from rfl), if_pos (show (0 : Int32) = 0 from rfl)]
          refine Or.inr ⟨wc, vr, uc, jb1, jb2, hPs _ (Or.inl ⟨fun a b _ _ _ _ => rfl, ?_⟩), hFj, ⟨l3, l3j⟩, by rw [s1], rfl⟩
          rcases c1 with ⟨a, ha1, ha2, ha3⟩ | ⟨b, hb1, hb2, hb3⟩
          · exact Or.inl ⟨a, by omega, ha2, nz _ ha3⟩
          · exact Or.inr ⟨b, by omega, hb2, nz _ hb3⟩
theorem cross_eqJ (hJ : JD R C J) (hD : DH r R C) (hR : R ≤ 4) (hC : C ≤ 4) (ht : t < R ∧ t < C) (hq : q 1 = 0) : ∀ (B n1 n2 y : Nat) (w v u : Nat → Int64) (i1 i2 : Int32), ¬ Chn R C t B w → y + B < 1000000 → B + 1 ≤ n1 → B + 1 ≤ n2 → Sd R C w v u → J t w v u i1 i2 →
    FdDJ J R C t w q f (D_X1_clearCross_2 r (nI t) n1 (nI y) q (ds f w v u)) (D_X9_isCleared_0 R C i3 t n2 u v w i1 i2 0) := by
  intro B
  induction B with
  | zero => intro n1 n2 y w v u i1 i2 h; exact absurd trivial h
  | succ B ih =>
    intro n1 n2 y w v u i1 i2 hc hy h1 h2 hF hjj
    obtain ⟨m1, rfl⟩ : ∃ m, n1 = m + 2 := ⟨n1 - 2, by omega⟩
    obtain ⟨m2, rfl⟩ : ∃ m, n2 = m + 2 := ⟨n2 - 2, by omega⟩
    rcases dpass_eqJ (r := r) (q := q) (f := f) (i1 := i1) (i2 := i2) (i3 := i3) hJ hjj hD hR hC ht hq hF (n1 := m1) (n2 := m2) (y := y) (by omega) with h | ⟨w1, v1, u1, j1, j2, g1, g2, ⟨g3, g3j⟩, g4, g5⟩
    · exact h
    · rw [g4, g5]
      obtain ⟨G, xc, xr, k1, k2, w3, v3, u3, w4, v4, u4, e1, e2, e3, e4, e5⟩ := ih (m1 + 1) (m2 + 1) (y + 1) w1 v1 u1 j1 j2 (fun h => hc ⟨w1, g1, h⟩) (by omega) (by omega) (by omega) g3 g3j
      refine ⟨G, xc, xr, k1, k2, w3, v3, u3, w4, v4, u4, e1, e2, e3, e4, fun h => ?_⟩
      obtain ⟨a1, a2, a3, a4, a5, a6, a7, a8, a9, a10⟩ := e5 h
      exact ⟨a1, a2, a3, a4, a5, a6, Fj_t g2 a7, a8, a9, a10⟩
theorem clear_eqJ (hJ : JD R C J) (hjj : J t w v u i1 i2) (hD : DH r R C) (hR : R ≤ 4) (hC : C ≤ 4) (ht : t < R ∧ t < C) (hq : q 1 = 0) (hF : Sd R C w v u) (h0 : t = 0 → Sw R w) : FdDJ J R C t w q f (D_X1_clearCross r q (ds f w v u) (nI t)) (D_X9_isCleared R C u v w i1 i2 i3 0 t) := by
  unfold D_X1_clearCross D_X9_isCleared
  rw [show gap 1000000 0 = 1000000 - 0 from gapN (a := 1000000) (b := 0) (by omega) (by omega)]
  exact cross_eqJ hJ hD hR hC ht hq 211 (1000000 - 0 + 1) (2000000000 + 1) 0 w v u i1 i2 (no_chn hR hC ht hF.1.1 h0) (by omega) (by omega) (by omega) hF hjj
theorem dwlJ (hJ : JD R C J) (hD : DH r R C) (hR : R ≤ 4) (hC : C ≤ 4) : ∀ n1 n2 t : Nat, ∀ (w v u : Nat → Int64) (q : Nat → Int32) (i1 i2 : Int32), t ≤ R → t ≤ C → R - t < n1 → R - t < n2 → q 1 = 0 → Sd R C w v u → J t w v u i1 i2 → (t = 0 → Sw R w) → (∀ j, j < t → ¬ w (j * 5 + j) = 0) →
    ∃ (G j1 j2 : Int32) (K : Nat) (w1 v1 u1 w2 v2 u2 : Nat → Int64), (G = 0 ∨ G = 1) ∧ D_X1_walk_39 r n1 (nI t) 1 q (ds f w v u) = (r, va_up q 1 G, ds f w1 v1 u1) ∧ D_X9_init_48 R C n2 t 1 u w v i1 i2 (nI t) 0 = (u2, v2, w2, j1, j2, K, G) ∧ (G = 0 → w2 = w1 ∧ v2 = v1 ∧ u2 = u1 ∧ Sd R C w1 v1 u1 ∧ Rk R C w1 K ∧ J K w1 v1 u1 j1 j2 ∧ ∀ a b, K ≤ a → a < R → K ≤ b → b < C → w1 (a * 5 + b) = 0) := by
  intro n1
  induction n1 with
  | zero => intro n2 t w v u q i1 i2 _ _ h; omega
  | succ n1 ih =>
    intro n2 t w v u q i1 i2 hy hyC h1 h2 hq hF hjj h0 hnz
    obtain ⟨n2, rfl⟩ : ∃ n, n2 = n + 1 := ⟨n2 - 1, by omega⟩
    have hkt : (nI t).toNatClampNeg = t := nI_clamp (by omega)
    rw [D_X1_walk_39_s, D_X9_init_48_s, hD.1.1, hD.1.2, if_neg (show ¬ (1 : Int32) = 0 by decide), if_neg (show ¬ (1 : Int32) = 0 by decide)]
    have hend : R ≤ t ∨ C ≤ t → ∃ (G j1 j2 : Int32) (K : Nat) (w1 v1 u1 w2 v2 u2 : Nat → Int64), (G = 0 ∨ G = 1) ∧ (r, q, ds f w v u) = (r, va_up q 1 G, ds f w1 v1 u1) ∧ (u, v, w, i1, i2, t, (0 : Int32)) = (u2, v2, w2, j1, j2, K, G) ∧ (G = 0 → w2 = w1 ∧ v2 = v1 ∧ u2 = u1 ∧ Sd R C w1 v1 u1 ∧ Rk R C w1 K ∧ J K w1 v1 u1 j1 j2 ∧ ∀ a b, K ≤ a → a < R → K ≤ b → b < C → w1 (a * 5 + b) = 0) := fun h => ⟨0, i1, i2, t, w, v, u, w, v, u, Or.inl rfl, by rw [vq1 hq], rfl, fun _ => ⟨rfl, rfl, rfl, hF, ⟨hy, hyC, hnz, fun j _ _ _ => by omega⟩, hjj, fun a b _ _ _ _ => by omega⟩⟩
    by_cases e : R ≤ t
    · rw [if_pos (ile e (by omega)), if_pos e]
      simp only [nm, hkt]
      exact hend (Or.inl e)
    · rw [if_neg (nile e (by omega)), if_neg e]
      by_cases e2 : C ≤ t
      · rw [if_pos (ile e2 (by omega)), if_pos e2]
        simp only [nm, hkt]
        exact hend (Or.inr e2)
      · rw [if_neg (nile e2 (by omega)), if_neg e2, if_pos hq]
        obtain ⟨G, xc, xr, k1, k2, w3, v3, u3, w4, v4, u4, e1, e3, e4, e5, e6⟩ := clear_eqJ (r := r) (q := q) (f := f) (i1 := i1) (i2 := i2) (i3 := nI t) hJ hjj hD hR hC (show t < R ∧ t < C by omega) hq hF h0
        rw [e3, e4]
        simp only [bnd3, bnd7]
        obtain ⟨n1, rfl⟩ : ∃ n, n1 = n + 1 := ⟨n1 - 1, by omega⟩
        obtain ⟨n2, rfl⟩ : ∃ n, n2 = n + 1 := ⟨n2 - 1, by omega⟩
        have hk0 : (nI t + 0).toNatClampNeg = t := by rw [show nI t + 0 = nI t from Int32.add_zero _]; exact hkt
        rcases e1 with rfl | rfl
        · obtain ⟨a1, a2, rfl, rfl, rfl, a6, a7, a8, a9, a10⟩ := e6 rfl
          rw [vq1 hq, a1]
          rcases a2 with rfl | rfl
          · rw [if_pos rfl, cl0 hk0]
            refine ⟨0, k1, k2, t, w4, v4, u4, w4, v4, u4, Or.inl rfl, ?_, rfl, fun _ => ⟨rfl, rfl, rfl, a6, ⟨hy, hyC, fun j hj => ?_, fun j hj h1 h2 => a9 rfl j j hj h1 hj h2⟩, a10.elim (fun h => absurd h.1 (by decide)) (fun h => h.2), fun a b x1 x2 x3 x4 => a9 rfl a b x1 x2 x3 x4⟩⟩
            · rw [D_X1_walk_39_s, vq1 hq]
              split
              · rfl
              · split
                · rfl
                · rw [if_pos rfl]
            · rw [a7 j hj]; exact hnz j hj
          · rw [if_neg (by decide), s1]
            exact ih (n2 + 1) (t + 1) w4 v4 u4 q k1 k2 (by omega) (by omega) (by omega) (by omega) hq a6 (a10.elim (fun h => h.2) (fun h => absurd h.1 (by decide))) (fun h => absurd h (by omega)) (fun j hj => by
              by_cases ej : j = t
              · rw [ej]; exact a8 rfl
              · rw [a7 j (by omega)]; exact hnz j (by omega))
        · rw [e5 rfl, if_pos rfl, cl0 hk0, w39 (by rw [vu_self]; decide)]
          exact ⟨1, k1, k2, t, w3, v3, u3, w4, v4, u4, Or.inr rfl, rfl, rfl, fun h => absurd h (by decide)⟩
/-- the steps to the diagonal of a table, with a property that they keep -/
theorem dwalk_eqJ (hJ : JD R C J) (hjj : J 0 (cp (R * 5) g (fun _ => 0)) (un R (fun _ => 0)) (un C (fun _ => 0)) 1 1) (hT : CT r f i R C g) (h8 : i ≠ 8) (h9 : i ≠ 9) (h10 : i ≠ 10) (h1 : 1 ≤ R) (hR : R ≤ 4) (h2 : 1 ≤ C) (hC : C ≤ 4) (hg : Sw R g) (hz : zc C (R * 5) g) :
    ∃ (G j1 j2 : Int32) (K : Nat) (w1 v1 u1 w2 v2 u2 : Nat → Int64), (G = 0 ∨ G = 1) ∧ D_X1_walk r q f i = (rs (rs (rs r 8 R C) 9 R R) 10 C C, va_up q 1 G, ds f w1 v1 u1) ∧ D_X9_init R C g = (u2, v2, w2, j1, j2, K, G) ∧ (G = 0 → w2 = w1 ∧ v2 = v1 ∧ u2 = u1 ∧ Sd R C w1 v1 u1 ∧ Rk R C w1 K ∧ J K w1 v1 u1 j1 j2 ∧ ∀ a b, K ≤ a → a < R → K ≤ b → b < C → w1 (a * 5 + b) = 0) := by
  obtain ⟨a1, a2, a3⟩ := hT
  have hgn : ∀ k, k < R * 5 → ng (g k) := fun k hk => by
    have := hg k hk
    exact ⟨Int64.le_iff_toInt_le.mpr (by show (-1000000000 : Int) ≤ _; omega), Int64.le_iff_toInt_le.mpr (by show _ ≤ (1000000000 : Int); omega)⟩
  unfold D_X1_walk D_X9_init
  rw [cbl a1 a2]
  simp only [bnd3, bnd1]
  rw [rs_R' h8, a1, cun h1 hR]
  simp only [bnd3]
  rw [rs_C' h9, rs_C' h8, a2, cun h2 hC]
  simp only [bnd3]
  have hD : DH (rs (rs (rs r 8 R C) 9 R R) 10 C C) R C := ⟨⟨(rs_R' (by decide)).trans ((rs_R' (by decide)).trans rs_R), (rs_C' (by decide)).trans ((rs_C' (by decide)).trans rs_C)⟩, ⟨(rs_R' (by decide)).trans rs_R, (rs_C' (by decide)).trans rs_C⟩, rs_R, rs_C⟩
  have hf : va_up (va_up (va_up f 8 (cp 20 (f i) (f 8))) 9 (un R (zf 20 (va_up f 8 (cp 20 (f i) (f 8)) 9)))) 10 (un C (zf 20 (va_up (va_up f 8 (cp 20 (f i) (f 8))) 9 (un R (zf 20 (va_up f 8 (cp 20 (f i) (f 8)) 9))) 10))) = ds f (cp (R * 5) g (fun _ => 0)) (un R (fun _ => 0)) (un C (fun _ => 0)) := by
    unfold ds
    rw [vu_ne (show (10 : Nat) ≠ 9 by decide), vu_ne (show (10 : Nat) ≠ 8 by decide), vu_ne (show (9 : Nat) ≠ 8 by decide), un_cp hR, un_cp hC]
    congr 3
    funext k
    by_cases e : k < 20
    · rw [cpl e, cpl e, a3 k e]
    · unfold cp; rw [if_neg e, if_neg e]
  rw [hf, hD.1.1, show gap (nI R) 0 = R - 0 from gapN (b := 0) (by omega) (by omega), rcp, run, run]
  obtain ⟨G, j1, j2, K, w1, v1, u1, w2, v2, u2, hG, g1, g2, g3⟩ := dwlJ (J := J) (r := rs (rs (rs r 8 R C) 9 R R) 10 C C) (f := f) hJ hD hR hC (R - 0 + 1) (R + 1 - 0 + 1) 0 (cp (R * 5) g (fun _ => 0)) (un R (fun _ => 0)) (un C (fun _ => 0)) (va_up q 1 0) 1 1 (by omega) (by omega) (by omega) (by omega) vu_self ⟨⟨fun k _ => cp_ng hgn k, fun k _ => un_ng k, fun k _ => un_ng k⟩, cp_zo hz, un_zo, un_zo⟩ hjj (fun _ k hk => by
    show -20 ≤ (cp (R * 5) g (fun _ => 0) k).toInt ∧ _
    unfold cp
    rw [if_pos hk]
    exact hg k hk) (fun j hj => absurd hj (by omega))
  refine ⟨G, j1, j2, K, w1, v1, u1, w2, v2, u2, hG, ?_, g2, g3⟩
  rw [vu2] at g1
  exact g1
end PJD
end
section
-- 89g.pdet
/-! ===== Determinants of both sides are the same ===== -/
section PDT
variable {r q : Nat → Int32} {f : Nat → Nat → Int64} {i R C x y : Nat} {F G : Nat → Int64}
theorem and1 (t : Int32) : t &&& 1 = 0 ∨ t &&& 1 = 1 := by
  have h : (t &&& 1).toBitVec.toNat = t.toBitVec.toNat % 2 := by
    show (t.toBitVec &&& 1#32).toNat = _
    rw [BitVec.toNat_and]
    exact Nat.and_one_is_mod _
  rcases Nat.mod_two_eq_zero_or_one t.toBitVec.toNat with e | e
  · exact Or.inl (Int32.toBitVec_inj.mp (BitVec.eq_of_toNat_eq (by rw [h, e]; rfl)))
  · exact Or.inr (Int32.toBitVec_inj.mp (BitVec.eq_of_toNat_eq (by rw [h, e]; rfl)))
theorem zero1 : ¬ (0 : Int32) = 1 := by decide
theorem bsq_0 (h1 : r (2 * i) = nI R) (hR : R ≤ 4) (h : 4 ≤ R) {y : Int32} : D_X0_bySequences_0 r q f i (nI 4) y = bsv R C G 0 4 y := by
  unfold D_X0_bySequences_0
  rw [h1, if_pos (ile hR (by decide))]
  show (1 : Int64) = if 4 = R then 1 else default
  rw [if_pos (by omega)]
theorem bsl_1 (hR : R ≤ 4) (hrho : 3 < R) (h2 : r (2 * i + 1) = nI C) (hC : C ≤ 5) (hG : ∀ j, j < R * 5 → f i j = G j) (hr : ∀ y : Int32, D_X0_bySequences_0 r q f i (nI 3 + 1) y = bsv R C G 0 (3 + 1) y) {y : Int32} : ∀ n1 n2 j : Nat, ∀ s : Int64, j ≤ C → C - j < n1 → C - j < n2 → D_X0_bySequences_1_20 r q f i (nI 3) y n1 (nI j) s = D_bs_step_15 C G 3 y (bsv R C G 0) n2 j s := by
  intro n1
  induction n1 with
  | zero => intro n2 j s _ h; omega
  | succ n1 ih =>
    intro n2 j s hj h3 h4
    obtain ⟨n2, rfl⟩ : ∃ m, n2 = m + 1 := ⟨n2 - 1, by omega⟩
    rw [D_X0_bySequences_1_20_s, D_bs_step_15_s, h2]
    by_cases e : C ≤ j
    · rw [if_pos (ile e (by omega)), if_pos e]
    · rw [if_neg (nile e (by omega)), if_neg e]
      rcases and1 (y >>> (nI j &&& 31)) with b | b
      · rw [b, if_pos (show (0 : Int32) = 0 from rfl), if_neg zero1, bnd1_e, bnd1_e, cget (show 3 < 4 by decide) (show j < 5 by omega), hG (3 * 5 + j) (by omega), hr]
        dsimp only [nm]
        rw [s1]
        by_cases c : bcE (y >>> (nI (j + 1) &&& 31)) - bcE (y >>> (nI (j + 1) &&& 31)) / 2 * 2 = 0
        · rw [if_pos c, if_pos c, D_X0_bySequences_1_j80_s, if_pos rfl, D_bs_step_j56_s, t64a, s1, Int64.one_mul]
          exact ih n2 (j + 1) _ (by omega) (by omega) (by omega)
        · have hm : ∀ g k : Int64, (-1 : Int64) * g * k = -(g * k) := fun g k => by grind
          rw [if_neg c, if_neg c, D_X0_bySequences_1_j80_s, if_neg one0, D_bs_step_j56_s, t64b, s1, hm]
          exact ih n2 (j + 1) _ (by omega) (by omega) (by omega)
      · rw [b, if_neg one0, if_pos (show (1 : Int32) = 1 from rfl), s1]
        exact ih n2 (j + 1) _ (by omega) (by omega) (by omega)
theorem bsq_1 (h1 : r (2 * i) = nI R) (h2 : r (2 * i + 1) = nI C) (hR : R ≤ 4) (hC : C ≤ 5) (hG : ∀ j, j < R * 5 → f i j = G j) (h : 3 ≤ R) {y : Int32} : D_X0_bySequences_1 r q f i (nI 3) y = bsv R C G 1 3 y := by
  unfold D_X0_bySequences_1
  show _ = D_bs_step R C G 3 y (bsv R C G 0)
  rw [D_bs_step_s, h1]
  by_cases e : 3 = R
  · rw [if_pos (ile (by omega) (by decide)), if_pos e]
  · rw [if_neg (nile (by omega) (by omega)), if_neg e, if_pos (show nI 3 < (4 : Int32) by decide), h2, show gap (nI C) 0 = C - 0 from gapN (b := 0) (by omega) (by omega)]
    exact bsl_1 hR (by omega) h2 hC hG (fun y => by rw [s1]; exact bsq_0 h1 hR (by omega)) (C - 0 + 1) (C + 1 - 0 + 1) 0 0 (by omega) (by omega) (by omega)
theorem bsl_2 (hR : R ≤ 4) (hrho : 2 < R) (h2 : r (2 * i + 1) = nI C) (hC : C ≤ 5) (hG : ∀ j, j < R * 5 → f i j = G j) (hr : ∀ y : Int32, D_X0_bySequences_1 r q f i (nI 2 + 1) y = bsv R C G 1 (2 + 1) y) {y : Int32} : ∀ n1 n2 j : Nat, ∀ s : Int64, j ≤ C → C - j < n1 → C - j < n2 → D_X0_bySequences_2_20 r q f i (nI 2) y n1 (nI j) s = D_bs_step_15 C G 2 y (bsv R C G 1) n2 j s := by
  intro n1
  induction n1 with
  | zero => intro n2 j s _ h; omega
  | succ n1 ih =>
    intro n2 j s hj h3 h4
    obtain ⟨n2, rfl⟩ : ∃ m, n2 = m + 1 := ⟨n2 - 1, by omega⟩
    rw [D_X0_bySequences_2_20_s, D_bs_step_15_s, h2]
    by_cases e : C ≤ j
    · rw [if_pos (ile e (by omega)), if_pos e]
    · rw [if_neg (nile e (by omega)), if_neg e]
      rcases and1 (y >>> (nI j &&& 31)) with b | b
      · rw [b, if_pos (show (0 : Int32) = 0 from rfl), if_neg zero1, bnd1_e, bnd1_e, cget (show 2 < 4 by decide) (show j < 5 by omega), hG (2 * 5 + j) (by omega), hr]
        dsimp only [nm]
        rw [s1]
        by_cases c : bcE (y >>> (nI (j + 1) &&& 31)) - bcE (y >>> (nI (j + 1) &&& 31)) / 2 * 2 = 0
        · rw [if_pos c, if_pos c, D_X0_bySequences_2_j80_s, if_pos rfl, D_bs_step_j56_s, t64a, s1, Int64.one_mul]
          exact ih n2 (j + 1) _ (by omega) (by omega) (by omega)
        · have hm : ∀ g k : Int64, (-1 : Int64) * g * k = -(g * k) := fun g k => by grind
          rw [if_neg c, if_neg c, D_X0_bySequences_2_j80_s, if_neg one0, D_bs_step_j56_s, t64b, s1, hm]
          exact ih n2 (j + 1) _ (by omega) (by omega) (by omega)
      · rw [b, if_neg one0, if_pos (show (1 : Int32) = 1 from rfl), s1]
        exact ih n2 (j + 1) _ (by omega) (by omega) (by omega)
theorem bsq_2 (h1 : r (2 * i) = nI R) (h2 : r (2 * i + 1) = nI C) (hR : R ≤ 4) (hC : C ≤ 5) (hG : ∀ j, j < R * 5 → f i j = G j) (h : 2 ≤ R) {y : Int32} : D_X0_bySequences_2 r q f i (nI 2) y = bsv R C G 2 2 y := by
  unfold D_X0_bySequences_2
  show _ = D_bs_step R C G 2 y (bsv R C G 1)
  rw [D_bs_step_s, h1]
  by_cases e : 2 = R
  · rw [if_pos (ile (by omega) (by decide)), if_pos e]
  · rw [if_neg (nile (by omega) (by omega)), if_neg e, if_pos (show nI 2 < (4 : Int32) by decide), h2, show gap (nI C) 0 = C - 0 from gapN (b := 0) (by omega) (by omega)]
    exact bsl_2 hR (by omega) h2 hC hG (fun y => by rw [s1]; exact bsq_1 h1 h2 hR hC hG (by omega)) (C - 0 + 1) (C + 1 - 0 + 1) 0 0 (by omega) (by omega) (by omega)
theorem bsl_3 (hR : R ≤ 4) (hrho : 1 < R) (h2 : r (2 * i + 1) = nI C) (hC : C ≤ 5) (hG : ∀ j, j < R * 5 → f i j = G j) (hr : ∀ y : Int32, D_X0_bySequences_2 r q f i (nI 1 + 1) y = bsv R C G 2 (1 + 1) y) {y : Int32} : ∀ n1 n2 j : Nat, ∀ s : Int64, j ≤ C → C - j < n1 → C - j < n2 → D_X0_bySequences_3_20 r q f i (nI 1) y n1 (nI j) s = D_bs_step_15 C G 1 y (bsv R C G 2) n2 j s := by
  intro n1
  induction n1 with
  | zero => intro n2 j s _ h; omega
  | succ n1 ih =>
    intro n2 j s hj h3 h4
    obtain ⟨n2, rfl⟩ : ∃ m, n2 = m + 1 := ⟨n2 - 1, by omega⟩
    rw [D_X0_bySequences_3_20_s, D_bs_step_15_s, h2]
    by_cases e : C ≤ j
    · rw [if_pos (ile e (by omega)), if_pos e]
    · rw [if_neg (nile e (by omega)), if_neg e]
      rcases and1 (y >>> (nI j &&& 31)) with b | b
      · rw [b, if_pos (show (0 : Int32) = 0 from rfl), if_neg zero1, bnd1_e, bnd1_e, cget (show 1 < 4 by decide) (show j < 5 by omega), hG (1 * 5 + j) (by omega), hr]
        dsimp only [nm]
        rw [s1]
        by_cases c : bcE (y >>> (nI (j + 1) &&& 31)) - bcE (y >>> (nI (j + 1) &&& 31)) / 2 * 2 = 0
        · rw [if_pos c, if_pos c, D_X0_bySequences_3_j80_s, if_pos rfl, D_bs_step_j56_s, t64a, s1, Int64.one_mul]
          exact ih n2 (j + 1) _ (by omega) (by omega) (by omega)
        · have hm : ∀ g k : Int64, (-1 : Int64) * g * k = -(g * k) := fun g k => by grind
          rw [if_neg c, if_neg c, D_X0_bySequences_3_j80_s, if_neg one0, D_bs_step_j56_s, t64b, s1, hm]
          exact ih n2 (j + 1) _ (by omega) (by omega) (by omega)
      · rw [b, if_neg one0, if_pos (show (1 : Int32) = 1 from rfl), s1]
        exact ih n2 (j + 1) _ (by omega) (by omega) (by omega)
theorem bsq_3 (h1 : r (2 * i) = nI R) (h2 : r (2 * i + 1) = nI C) (hR : R ≤ 4) (hC : C ≤ 5) (hG : ∀ j, j < R * 5 → f i j = G j) (h : 1 ≤ R) {y : Int32} : D_X0_bySequences_3 r q f i (nI 1) y = bsv R C G 3 1 y := by
  unfold D_X0_bySequences_3
  show _ = D_bs_step R C G 1 y (bsv R C G 2)
  rw [D_bs_step_s, h1]
  by_cases e : 1 = R
  · rw [if_pos (ile (by omega) (by decide)), if_pos e]
  · rw [if_neg (nile (by omega) (by omega)), if_neg e, if_pos (show nI 1 < (4 : Int32) by decide), h2, show gap (nI C) 0 = C - 0 from gapN (b := 0) (by omega) (by omega)]
    exact bsl_3 hR (by omega) h2 hC hG (fun y => by rw [s1]; exact bsq_2 h1 h2 hR hC hG (by omega)) (C - 0 + 1) (C + 1 - 0 + 1) 0 0 (by omega) (by omega) (by omega)
theorem bsl_4 (hR : R ≤ 4) (hrho : 0 < R) (h2 : r (2 * i + 1) = nI C) (hC : C ≤ 5) (hG : ∀ j, j < R * 5 → f i j = G j) (hr : ∀ y : Int32, D_X0_bySequences_3 r q f i (nI 0 + 1) y = bsv R C G 3 (0 + 1) y) {y : Int32} : ∀ n1 n2 j : Nat, ∀ s : Int64, j ≤ C → C - j < n1 → C - j < n2 → D_X0_bySequences_4_20 r q f i (nI 0) y n1 (nI j) s = D_bs_step_15 C G 0 y (bsv R C G 3) n2 j s := by
  intro n1
  induction n1 with
  | zero => intro n2 j s _ h; omega
  | succ n1 ih =>
    intro n2 j s hj h3 h4
    obtain ⟨n2, rfl⟩ : ∃ m, n2 = m + 1 := ⟨n2 - 1, by omega⟩
    rw [D_X0_bySequences_4_20_s, D_bs_step_15_s, h2]
    by_cases e : C ≤ j
    · rw [if_pos (ile e (by omega)), if_pos e]
    · rw [if_neg (nile e (by omega)), if_neg e]
      rcases and1 (y >>> (nI j &&& 31)) with b | b
      · rw [b, if_pos (show (0 : Int32) = 0 from rfl), if_neg zero1, bnd1_e, bnd1_e, cget (show 0 < 4 by decide) (show j < 5 by omega), hG (0 * 5 + j) (by omega), hr]
        dsimp only [nm]
        rw [s1]
        by_cases c : bcE (y >>> (nI (j + 1) &&& 31)) - bcE (y >>> (nI (j + 1) &&& 31)) / 2 * 2 = 0
        · rw [if_pos c, if_pos c, D_X0_bySequences_4_j80_s, if_pos rfl, D_bs_step_j56_s, t64a, s1, Int64.one_mul]
          exact ih n2 (j + 1) _ (by omega) (by omega) (by omega)
        · have hm : ∀ g k : Int64, (-1 : Int64) * g * k = -(g * k) := fun g k => by grind
          rw [if_neg c, if_neg c, D_X0_bySequences_4_j80_s, if_neg one0, D_bs_step_j56_s, t64b, s1, hm]
          exact ih n2 (j + 1) _ (by omega) (by omega) (by omega)
      · rw [b, if_neg one0, if_pos (show (1 : Int32) = 1 from rfl), s1]
        exact ih n2 (j + 1) _ (by omega) (by omega) (by omega)
theorem bsq_4 (h1 : r (2 * i) = nI R) (h2 : r (2 * i + 1) = nI C) (hR : R ≤ 4) (hC : C ≤ 5) (hG : ∀ j, j < R * 5 → f i j = G j) (h : 0 ≤ R) {y : Int32} : D_X0_bySequences_4 r q f i (nI 0) y = bsv R C G 4 0 y := by
  unfold D_X0_bySequences_4
  show _ = D_bs_step R C G 0 y (bsv R C G 3)
  rw [D_bs_step_s, h1]
  by_cases e : 0 = R
  · rw [if_pos (ile (by omega) (by decide)), if_pos e]
  · rw [if_neg (nile (by omega) (by omega)), if_neg e, if_pos (show nI 0 < (4 : Int32) by decide), h2, show gap (nI C) 0 = C - 0 from gapN (b := 0) (by omega) (by omega)]
    exact bsl_4 hR (by omega) h2 hC hG (fun y => by rw [s1]; exact bsq_3 h1 h2 hR hC hG (by omega)) (C - 0 + 1) (C + 1 - 0 + 1) 0 0 (by omega) (by omega) (by omega)
/-- by sequences -/
theorem seq_eq (h1 : r (2 * i) = nI R) (h2 : r (2 * i + 1) = nI C) (hR : R ≤ 4) (hC : C ≤ 5) (hG : ∀ j, j < R * 5 → f i j = G j) : D_X0_bySequences_4 r q f i 0 0 = bsv R C G 4 0 0 := bsq_4 h1 h2 hR hC hG (Nat.zero_le _)
theorem pcm : ∀ R, R < 6 → pc5 (2 ^ R - 1) = R := by decide +kernel
/-- by the first row -/
theorem bfr (h1 : r (2 * i) = nI R) (h2 : r (2 * i + 1) = nI R) (hR1 : 1 ≤ R) (hR : R ≤ 4) (hG : ∀ j, j < R * 5 → f i j = G j) : D_X0_byFirstRow r q f i = mnv G R R (2 ^ R - 1) (2 ^ R - 1) := by
  have p1 : 2 ^ 1 ≤ 2 ^ R := Nat.pow_le_pow_right (by decide) hR1
  have p2 : (2 : Nat) ^ 1 = 2 := rfl
  unfold D_X0_byFirstRow
  rw [h1, h2, fpm R (by omega), bnd1_e, min_eq (R := R) (C := R) hR (by omega) hG (by omega) (by omega) (by omega) rfl, pcm R (by omega)]
theorem bfr_dt (h1 : r (2 * i) = nI R) (h2 : r (2 * i + 1) = nI R) (hR1 : 1 ≤ R) (hR : R ≤ 4) (hG : ∀ j, j < R * 5 → f i j = G j) : D_X0_byFirstRow r q f i = dtn R G := (bfr h1 h2 hR1 hR hG).trans (mn_dt hR1 hR G)
theorem dx_xc {n i j : Nat} (h1 : 1 ≤ n) (h : n ≤ 4) (hi : i < n) (hj : j < n) (hij : i ≠ j) (f : Nat → Int64) : dtn n (xc n i j f) = -dtn n f := by
  rcases c4 h1 h with rfl | rfl | rfl | rfl
  · omega
  · rcases l4 (i := i) (by omega) with rfl | rfl | rfl | rfl <;> rcases l4 (i := j) (by omega) with rfl | rfl | rfl | rfl <;> first | (exfalso; omega) | (simp [dtn, dt2, xc]; try grind)
  · rcases l4 (i := i) (by omega) with rfl | rfl | rfl | rfl <;> rcases l4 (i := j) (by omega) with rfl | rfl | rfl | rfl <;> first | (exfalso; omega) | (simp [dtn, dt3, xc]; try grind)
  · rcases l4 (i := i) (by omega) with rfl | rfl | rfl | rfl <;> rcases l4 (i := j) (by omega) with rfl | rfl | rfl | rfl <;> first | (exfalso; omega) | (simp [dtn, dt4, xc]; try grind)
theorem dx_ac {n i j : Nat} (h1 : 1 ≤ n) (h : n ≤ 4) (hi : i < n) (hj : j < n) (hij : i ≠ j) (t : Int64) (f : Nat → Int64) : dtn n (ac n i j t f) = dtn n f := by
  rcases c4 h1 h with rfl | rfl | rfl | rfl
  · omega
  · rcases l4 (i := i) (by omega) with rfl | rfl | rfl | rfl <;> rcases l4 (i := j) (by omega) with rfl | rfl | rfl | rfl <;> first | (exfalso; omega) | (simp [dtn, dt2, ac]; try grind)
  · rcases l4 (i := i) (by omega) with rfl | rfl | rfl | rfl <;> rcases l4 (i := j) (by omega) with rfl | rfl | rfl | rfl <;> first | (exfalso; omega) | (simp [dtn, dt3, ac]; try grind)
  · rcases l4 (i := i) (by omega) with rfl | rfl | rfl | rfl <;> rcases l4 (i := j) (by omega) with rfl | rfl | rfl | rfl <;> first | (exfalso; omega) | (simp [dtn, dt4, ac]; try grind)
theorem un_dt (h1 : 1 ≤ R) (h : R ≤ 4) : dtn R (un R (fun _ => 0)) = 1 := by
  rcases c4 h1 h with rfl | rfl | rfl | rfl <;> simp [dtn, dt2, dt3, dt4, un]
/-- a side, and the determinant that it tells -/
def Sg (s : Int32) (d : Int64) : Prop := (s = 1 ∧ d = 1) ∨ (s = -1 ∧ d = -1)
theorem Sg_neg {s : Int32} {d : Int64} (h : Sg s d) : Sg (-s) (-d) := by
  rcases h with ⟨rfl, rfl⟩ | ⟨rfl, rfl⟩
  · exact Or.inr ⟨rfl, rfl⟩
  · exact Or.inl ⟨by decide, by decide +kernel⟩
theorem Sg_64 {s : Int32} {d : Int64} (h : Sg s d) : s.toInt64 = d := by
  rcases h with ⟨rfl, rfl⟩ | ⟨rfl, rfl⟩
  · exact t64a
  · exact t64b
theorem Sg_32 {s : Int32} {d : Int64} (h : Sg s d) : d.toInt32 = s := by
  rcases h with ⟨rfl, rfl⟩ | ⟨rfl, rfl⟩ <;> decide +kernel
theorem jr_det (h1 : 1 ≤ R) (h : R ≤ 4) : JR R C (fun _ _ _ v s => Sg s (dtn R v)) := by
  intro x y hx hy w v s hj hF
  refine ⟨fun i j a1 a2 a3 a4 a5 => ?_, fun i a1 a2 => ?_, fun i j t a1 a2 a3 a4 _ _ => ?_, fun _ => hj, fun _ => hj⟩
  · show Sg (-s) (dtn R (xr R i j v))
    rw [dx_xr h1 h a2 a4 a5]; exact Sg_neg hj
  · show Sg (-s) (dtn R (tr R i v))
    rw [dx_tr h1 h a2]; exact Sg_neg hj
  · show Sg s (dtn R (ar R i j t v))
    rw [dx_ar h1 h a1 a3 a4]; exact hj
theorem jd_det (h1 : 1 ≤ R) (h : R ≤ 4) (g1 : 1 ≤ C) (g : C ≤ 4) : JD R C (fun _ _ v u s1 s2 => Sg s1 (dtn R v) ∧ Sg s2 (dtn C u)) := by
  intro t hx hy w v u s1 s2 hj hF
  refine ⟨fun i j a1 a2 a3 a4 a5 => ⟨?_, hj.2⟩, fun i j a1 a2 a3 a4 a5 => ⟨hj.1, ?_⟩, fun i a1 a2 => ⟨?_, hj.2⟩, fun i j t a0 a1 a2 a3 a4 _ _ => ⟨?_, hj.2⟩, fun i j t a0 a1 a2 a3 a4 _ _ => ⟨hj.1, ?_⟩, fun _ => hj⟩
  · rw [dx_xr h1 h a2 a4 a5]; exact Sg_neg hj.1
  · rw [dx_xc g1 g a2 a4 a5]; exact Sg_neg hj.2
  · rw [dx_tr h1 h a2]; exact Sg_neg hj.1
  · rw [dx_ar h1 h a1 a3 a4]; exact hj.1
  · rw [dx_ac g1 g a1 a3 a4]; exact hj.2
theorem Sg_un (h1 : 1 ≤ R) (h : R ≤ 4) : Sg 1 (dtn R (un R (fun _ => 0))) := Or.inl ⟨rfl, un_dt h1 h⟩
end PDT
section PAC
variable {r q r1 q1 : Nat → Int32} {f f1 : Nat → Nat → Int64} {r' : Nat → Nat} {f' : Nat → Nat → Int64} {q' Q : Nat → Int32} {R C i n m a b : Nat} {x x' y z p u v t : Int32}
/-- along the diagonal -/
theorem fdt_l {w v0 : Nat → Int64} {t32 t84 : Int32} (hn : n < 4) (h6 : r (2 * 6) = nI (r' (2 * n))) (hR : r' (2 * n) ≤ 4) : ∀ n1 n2 k : Nat, ∀ s : Int64, k ≤ r' (2 * n) → r' (2 * n) - k < n1 → r' (2 * n) - k < n2 → D_X10_determinant_146 r' q' (nI n) t32 w t84 n2 k s = ((D_X4_findDeterminant_10 r q (cs f w v0) n1 (nI k) s).toInt32, va_up (va_up q' 3 t32) 3 t84) := by
  intro n1
  induction n1 with
  | zero => intro n2 k s _ h; omega
  | succ n1 ih =>
    intro n2 k s hk h1 h2
    obtain ⟨n2, rfl⟩ : ∃ m, n2 = m + 1 := ⟨n2 - 1, by omega⟩
    rw [D_X10_determinant_146_s, D_X4_findDeterminant_10_s, h6, nI_clamp (show n < 2 ^ 31 by omega)]
    by_cases e : r' (2 * n) ≤ k
    · rw [if_pos e, if_pos (ile e (by omega))]
    · rw [if_neg e, if_neg (nile e (by omega)), bnd1_e, cget (by omega) (by omega), cs6, cpl (by omega), s1]
      exact ih n2 (k + 1) _ (by omega) (by omega) (by omega)
set_option maxHeartbeats 4000000 in
set_option maxRecDepth 100000 in
theorem an_determinant (h : Rl r q f r' f' q') : AW cs3 (D_X5_determinant r q f y z) (D_X10_determinant r' f' q' y z) := by
  unfold D_X5_determinant D_X10_determinant
  rcases ntb (r := r) (q := q) (f := f) (p := y) with ⟨n, hn, rfl, h1, h2, h3⟩ | ⟨E, x1, x2, h1, h2⟩
  · rw [h1, h2]
    dsimp only [bnd2, bnd1]
    rw [if_pos rfl, if_neg one0, h3]
    have hT := h.1 n hn
    have hb := hT.2.1
    have hE : ("java/lang/IllegalArgumentException", (2 : Int32)) ∈ cs3 := List.mem_cons_of_mem _ List.mem_cons_self
    have hS : ("java/lang/IllegalStateException", (3 : Int32)) ∈ cs3 := List.mem_cons_of_mem _ (List.mem_cons_of_mem _ List.mem_cons_self)
    have hj0 : D_X5_determinant_j20 r q f z n 0 = ("java/lang/IllegalArgumentException", 0, r, q, f) := by
      unfold D_X5_determinant_j20
      rw [bnd1_e, ia0, if_neg e_ne2]
    by_cases a1 : z < 0
    · rw [if_pos a1, if_pos a1, hj0]; exact aw_e hE
    · rw [if_neg a1, if_neg a1]
      by_cases a2 : 2 < z
      · rw [if_pos a2, if_neg (Int32.not_le.mpr a2), hj0]; exact aw_e hE
      · have a3 : z ≤ 2 := Int32.not_lt.mp a2
        rw [if_neg a2, if_pos a3]
        unfold D_X5_determinant_j20
        rw [bnd1_e, ia1, if_pos rfl, hT.1.1, hT.1.2.1]
        by_cases c : r' (2 * n) = r' (2 * n + 1)
        · have hz3 : z = 0 ∨ z = 1 ∨ z = 2 := by
            rcases fo5 a1 (Int32.le_trans a3 (by decide)) with e | e | e | rfl | rfl
            · exact Or.inl e
            · exact Or.inr (Or.inl e)
            · exact Or.inr (Or.inr e)
            · exact absurd a3 (by decide)
            · exact absurd a3 (by decide)
          have hv : ∀ k, k < r' (2 * n) * 5 → f n k = f' n k := fun k hk => tb_v hT hk
          have hC : r (2 * n + 1) = nI (r' (2 * n)) := hT.1.2.1.trans (congrArg nI c.symm)
          rw [if_pos (congrArg nI c)]
          unfold D_X5_determinant_j39
          rw [bnd1_e, is1, if_pos rfl]
          rcases hz3 with rfl | rfl | rfl
          · simp only [if_pos c, if_pos (show (0 : Int32) = 0 from rfl), if_neg (show ¬ (0 : Int32) = 2 by decide), if_neg (show ¬ (0 : Int32) = 1 by decide)]
            rw [bnd1_e, bfr hT.1.1 hC hb.1 hb.2.1 hv, ← c]
            exact aw_v rfl
          · simp only [if_pos c, if_pos (show (1 : Int32) = 1 from rfl), if_neg (show ¬ (1 : Int32) = 2 by decide), if_neg (show ¬ (1 : Int32) = 0 by decide)]
            rw [bnd1_e, seq_eq hT.1.1 hT.1.2.1 hb.2.1 (by omega) hv]
            exact aw_v rfl
          · simp only [if_pos c, if_pos (show (2 : Int32) = 2 from rfl), if_neg (show ¬ (2 : Int32) = 0 by decide), if_neg (show ¬ (2 : Int32) = 1 by decide)]
            obtain ⟨G, s1, w1, v1, w2, v2, hG, e1, e2, e3⟩ := walk_eqJ (q := q) (jr_det (C := r' (2 * n + 1)) hb.1 hb.2.1) (Sg_un hb.1 hb.2.1) hT.1 (show n ≠ 6 by omega) (show n ≠ 7 by omega) hb.1 hb.2.1 hb.2.2.1 (by omega) (fun k hk => sm_ng (hT.2.2.1 k hk)) hT.2.2.2
            rw [e1, e2]
            dsimp only [bnd3, bnd4]
            rcases hG with rfl | rfl
            · obtain ⟨rfl, rfl, hSf, x1, y1, _, _, _, hsg⟩ := e3 rfl
              rw [if_pos (show va_up q 0 0 0 = 0 from vu_self), if_pos rfl]
              unfold D_X5_determinant_j88
              rw [bnd1_e, is1, if_pos rfl, bnd1_e]
              unfold D_X4_findDeterminant
              have h6 : (rs (rs r 6 (r' (2 * n)) (r' (2 * n + 1))) 7 (r' (2 * n)) (r' (2 * n))) (2 * 6) = nI (r' (2 * n)) := (rs_R' (by decide)).trans rs_R
              rw [bnd1_e, bfr_dt (R := r' (2 * n)) (G := v2) rs_R rs_C hb.1 hb.2.1 (fun k hk => by rw [cs7, cpl (by omega)]), h6, show gap (nI (r' (2 * n))) 0 = r' (2 * n) - 0 from gapN (b := 0) (by omega) (by omega), Sg_64 hsg, fdt_l (r := rs (rs r 6 (r' (2 * n)) (r' (2 * n + 1))) 7 (r' (2 * n)) (r' (2 * n))) (q := va_up q 0 0) (f := f) (v0 := v2) hn h6 hb.2.1 (r' (2 * n) - 0 + 1) (r' (2 * n) + 1 - 0 + 1) 0 _ (by omega) (by omega) (by omega)]
              exact aw_v rfl
            · rw [if_neg (show ¬ va_up q 0 1 0 = 0 by rw [vu_self]; decide), if_neg one0]
              unfold D_X5_determinant_j88
              rw [bnd1_e, is0, if_neg e_ne3]
              exact aw_e hS
        · rw [if_neg (fun e => c (nI_inj (by omega) (by omega) e))]
          unfold D_X5_determinant_j39
          rw [bnd1_e, is0, if_neg e_ne3]
          simp only [if_neg c, ite_self]
          exact aw_e hS
  · rw [h1, h2]
    dsimp only [bnd2, bnd1]
    rw [if_neg x1, if_pos rfl, th2_11, th2_10, ite_self, ite_self, x2]
    exact aw_e List.mem_cons_self
theorem ff1 (h0 : ¬ p = 0) (h1 : p = 1) : D_X5_findForm r q f n p = bnd3 (D_X4_walk r q f n) (fun r1 q1 f1 => if q1 0 = 0 then (7, r1, q1, f1) else (15, r1, q1, f1)) := by
  unfold D_X5_findForm
  simp only [if_neg h0, if_pos h1]
theorem ff3 (h0 : ¬ p = 0) (h1 : ¬ p = 1) (h2 : ¬ p = 2) (h3 : p = 3) : D_X5_findForm r q f n p = bnd3 (D_X1_walk r q f n) (fun r1 q1 f1 => if q1 1 = 0 then (9, r1, q1, f1) else (15, r1, q1, f1)) := by
  unfold D_X5_findForm
  simp only [if_neg h0, if_neg h1, if_neg h2, if_pos h3]
theorem ff4 (h0 : ¬ p = 0) (h1 : ¬ p = 1) (h2 : ¬ p = 2) (h3 : ¬ p = 3) : D_X5_findForm r q f n p = bnd3 (D_X1_walk r q f n) (fun r1 q1 f1 => if q1 1 = 0 then (10, r1, q1, f1) else (15, r1, q1, f1)) := by
  unfold D_X5_findForm
  simp only [if_neg h0, if_neg h1, if_neg h2, if_neg h3]
theorem cg_n {i : Nat} (hi : ¬ i = 15) (e : D_X5_findForm r q f n p = (i, r1, q1, f1)) : D_X5_change_j101 r q f n p = ("", (D_X0_byFirstRow r1 q1 f1 i).toInt32, r1, q1, f1) := by
  unfold D_X5_change_j101
  rw [e, bnd4_e, if_neg hi, bnd1_e]
theorem cg_g (e : D_X5_findForm r q f n p = (15, r1, q1, f1)) : D_X5_change_j101 r q f n p = ("java/lang/IllegalStateException", 0, r1, q1, f1) := by
  unfold D_X5_change_j101
  rw [e, bnd4_e, if_pos rfl]
set_option maxHeartbeats 4000000 in
set_option maxRecDepth 100000 in
theorem an_change (h : Rl r q f r' f' q') : AW cs3 (D_X5_change r q f y z) (D_X10_change r' f' q' y z) := by
  unfold D_X5_change D_X10_change
  rcases ntb (r := r) (q := q) (f := f) (p := y) with ⟨n, hn, rfl, h1, h2, h3⟩ | ⟨E, x1, x2, h1, h2⟩
  · rw [h1, h2]
    dsimp only [bnd2, bnd1]
    rw [if_pos rfl, if_neg one0, h3]
    have hT := h.1 n hn
    have hb := hT.2.1
    have hE : ("java/lang/IllegalArgumentException", (2 : Int32)) ∈ cs3 := List.mem_cons_of_mem _ List.mem_cons_self
    have hS : ("java/lang/IllegalStateException", (3 : Int32)) ∈ cs3 := List.mem_cons_of_mem _ (List.mem_cons_of_mem _ List.mem_cons_self)
    have hj0 : D_X5_change_j20 r q f z n 0 = ("java/lang/IllegalArgumentException", 0, r, q, f) := by
      unfold D_X5_change_j20
      rw [bnd1_e, ia0, if_neg e_ne2]
    by_cases a1 : z < 0
    · rw [if_pos a1, if_pos a1, hj0]; exact aw_e hE
    · rw [if_neg a1, if_neg a1]
      by_cases a2 : 4 < z
      · rw [if_pos a2, if_neg (Int32.not_le.mpr a2), hj0]; exact aw_e hE
      · have a3 : z ≤ 4 := Int32.not_lt.mp a2
        rw [if_neg a2, if_pos a3]
        unfold D_X5_change_j20
        rw [bnd1_e, ia1, if_pos rfl]
        obtain ⟨G, s1, w1, v1, w2, v2, hG, e1, e2, e3⟩ := walk_eqJ (q := q) (jr_det (C := r' (2 * n + 1)) hb.1 hb.2.1) (Sg_un hb.1 hb.2.1) hT.1 (show n ≠ 6 by omega) (show n ≠ 7 by omega) hb.1 hb.2.1 hb.2.2.1 (by omega) (fun k hk => sm_ng (hT.2.2.1 k hk)) hT.2.2.2
        obtain ⟨G', j1, j2, K, w3, v3, u3, w4, v4, u4, hG', e4, e5, e6⟩ := dwalk_eqJ (q := q) (jd_det hb.1 hb.2.1 hb.2.2.1 hb.2.2.2) ⟨Sg_un hb.1 hb.2.1, Sg_un hb.2.2.1 hb.2.2.2⟩ hT.1 (show n ≠ 8 by omega) (show n ≠ 9 by omega) (show n ≠ 10 by omega) hb.1 hb.2.1 hb.2.2.1 hb.2.2.2 (sw_of hT) hT.2.2.2
        have hq1 : ¬ va_up q 1 1 1 = 0 := by rw [vu_self]; decide
        have hq0 : ¬ va_up q 0 1 0 = 0 := by rw [vu_self]; decide
        have hp1 : va_up q 1 0 1 = 0 := vu_self
        have hp0 : va_up q 0 0 0 = 0 := vu_self
        rcases fo5 a1 a3 with e | e | e | e | e
        · simp only [if_pos (show z = 0 from e)]
          rw [e1, e2, bnd3_e, bnd4_e]
          rcases hG with rfl | rfl
          · rw [if_pos hp0, if_pos rfl]; exact aw_v rfl
          · rw [if_neg hq0, if_neg one0]; exact aw_v rfl
        · simp only [if_pos (show z = 1 from e), if_neg (show ¬ z = 0 by rw [e]; decide), if_neg (show ¬ z = 2 by rw [e]; decide)]
          rw [e4, e5, bnd3_e]
          dsimp only [bnd7]
          rcases hG' with rfl | rfl
          · rw [if_pos hp1, if_pos rfl]; exact aw_v rfl
          · rw [if_neg hq1, if_neg one0]; exact aw_v rfl
        · simp only [if_pos (show z = 2 from e), if_neg (show ¬ z = 0 by rw [e]; decide), if_neg (show ¬ z = 1 by rw [e]; decide)]
          rw [e2, bnd4_e]
          have hff := ff1 (r := r) (q := q) (f := f) (n := n) (p := 1) one0 rfl
          rw [e1, bnd3_e] at hff
          rcases hG with rfl | rfl
          · obtain ⟨rfl, rfl, hSf, x1, y1, _, _, _, hsg⟩ := e3 rfl
            rw [if_pos hp0] at hff
            rw [cg_n (by decide) hff, th3_000]
            dsimp only
            rw [if_pos rfl, bfr_dt (R := r' (2 * n)) (G := v2) rs_R rs_C hb.1 hb.2.1 (fun k hk => by rw [cs7, cpl (by omega)])]
            exact aw_v (Sg_32 hsg)
          · rw [if_neg hq0] at hff
            rw [cg_g hff, th3_001]
            dsimp only
            rw [if_neg one0]
            exact aw_e hS
        · simp only [if_pos (show z = 3 from e), if_neg (show ¬ z = 0 by rw [e]; decide), if_neg (show ¬ z = 1 by rw [e]; decide), if_neg (show ¬ z = 2 by rw [e]; decide)]
          rw [e5]
          dsimp only [bnd7]
          have hff := ff3 (r := r) (q := q) (f := f) (n := n) (p := 3) (by decide) (by decide) (by decide) rfl
          rw [e4, bnd3_e] at hff
          rcases hG' with rfl | rfl
          · obtain ⟨rfl, rfl, rfl, hSd, hK, hsg, _⟩ := e6 rfl
            rw [if_pos hp1] at hff
            rw [cg_n (by decide) hff, th3_000]
            dsimp only
            rw [if_pos rfl, bfr_dt (R := r' (2 * n)) (G := v4) ((rs_R' (by decide)).trans rs_R) ((rs_C' (by decide)).trans rs_C) hb.1 hb.2.1 (fun k hk => by rw [ds9, cpl (by omega)])]
            exact aw_v (Sg_32 hsg.1)
          · rw [if_neg hq1] at hff
            rw [cg_g hff, th3_001]
            dsimp only
            rw [if_neg one0]
            exact aw_e hS
        · simp only [if_neg (show ¬ z = 0 by rw [e]; decide), if_neg (show ¬ z = 1 by rw [e]; decide), if_neg (show ¬ z = 2 by rw [e]; decide), if_neg (show ¬ z = 3 by rw [e]; decide)]
          rw [e5]
          dsimp only [bnd7]
          have hff := ff4 (r := r) (q := q) (f := f) (n := n) (p := 4) (by decide) (by decide) (by decide) (by decide)
          rw [e4, bnd3_e] at hff
          rcases hG' with rfl | rfl
          · obtain ⟨rfl, rfl, rfl, hSd, hK, hsg, _⟩ := e6 rfl
            rw [if_pos hp1] at hff
            rw [cg_n (by decide) hff, th3_000]
            dsimp only
            rw [if_pos rfl, bfr_dt (R := r' (2 * n + 1)) (G := u4) rs_R rs_C hb.2.2.1 hb.2.2.2 (fun k hk => by rw [ds10, cpl (by omega)])]
            exact aw_v (Sg_32 hsg.2)
          · rw [if_neg hq1] at hff
            rw [cg_g hff, th3_001]
            dsimp only
            rw [if_neg one0]
            exact aw_e hS
  · rw [h1, h2]
    dsimp only [bnd2, bnd1]
    rw [if_neg x1, if_pos rfl, th2_11, th2_10, ite_self, ite_self, x2]
    exact aw_e List.mem_cons_self
end PAC
end
