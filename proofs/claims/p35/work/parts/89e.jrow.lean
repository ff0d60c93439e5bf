/-! ===== The row steps once more, with a property that each step keeps ===== -/
/-- a property of form, change and side, at row x and column y, that every step keeps -/
def JR (R C : Nat) (J : Nat → Nat → (Nat → Int64) → (Nat → Int64) → Int32 → Prop) : Prop := ∀ x y, x < R → y < C → ∀ w v s, J x y w v s → Sf R C w v →
  (∀ i j, x ≤ i → i < R → x ≤ j → j < R → i ≠ j → J x y (xr C i j w) (xr R i j v) (-s)) ∧
  (∀ i, x ≤ i → i < R → J x y (tr C i w) (tr R i v) (-s)) ∧
  (∀ i j t, i < R → x ≤ j → j < R → i ≠ j → tb9 t → Sf R C (ar C i j t w) (ar R i j t v) → J x y (ar C i j t w) (ar R i j t v) s) ∧
  ((∀ a, x ≤ a → a < R → w (a * 5 + y) = 0) → J x (y + 1) w v s) ∧
  ((0 < (w (x * 5 + y)).toInt ∧ ∀ a, x < a → a < R → w (a * 5 + y) = 0) → J (x + 1) (y + 1) w v s)
section PJR
variable {r q : Nat → Int32} {f : Nat → Nat → Int64} {w v g : Nat → Int64} {R C i j rr c m : Nat} {s : Int32} {t : Int64} {J : Nat → Nat → (Nat → Int64) → (Nat → Int64) → Int32 → Prop}
theorem L164J (hJ : JR R C J) (hS : SH r R C) (hR : R ≤ 4) (hC : C ≤ 5) (hr : rr < R) (hc : c < C) : ∀ n1 n2 y : Nat, ∀ (w v : Nat → Int64) (q : Nat → Int32), y ≤ rr → rr - y < n1 → rr - y < n2 → q 0 = 0 → Sf R C w v → J rr c w v s → 0 < (w (rr * 5 + c)).toInt →
    ∃ (G : Int32) (w1 v1 w2 v2 : Nat → Int64), (G = 0 ∨ G = 1) ∧ D_X4_clearColumn_95 r (nI rr) (nI c) n1 (nI y) q (cs f w v) = (1, va_up q 0 G, cs f w1 v1) ∧ D_X8_isCleared_164 R C rr c n2 y v w s 0 = (1, v2, w2, s, G) ∧ (G = 0 → w2 = w1 ∧ v2 = v1 ∧ Sf R C w1 v1 ∧ J rr c w1 v1 s ∧ ∀ a, rr ≤ a → w1 (a * 5 + c) = w (a * 5 + c)) := by
  intro n1
  induction n1 with
  | zero => intro n2 y w v q _ h; omega
  | succ n1 ih =>
    intro n2 y w v q hy h1 h2 hq hF hj hp
    obtain ⟨n2, rfl⟩ : ∃ n, n2 = n + 1 := ⟨n2 - 1, by omega⟩
    rw [D_X4_clearColumn_95_s, D_X8_isCleared_164_s]
    by_cases e : rr ≤ y
    · rw [if_pos (ile e (by omega)), if_pos e]
      exact ⟨0, w, v, w, v, Or.inl rfl, by rw [vq0 hq], rfl, fun _ => ⟨rfl, rfl, hF, hj, fun _ _ => rfl⟩⟩
    · rw [if_neg (nile e (by omega)), if_pos hq, if_neg e]
      obtain ⟨G, w1, v1, hG, ⟨hw1, hv1⟩, g1, g2, g3⟩ := to_eq (r := r) (q := q) (f := f) (s := s) hS hR hC (show y < R by omega) hr hc (by omega) hF.1.1 hF.1.2 hp
      rw [g1, g2]
      simp only [bnd2, bnd4]
      rcases hG with rfl | rfl
      · rw [s1, vq0 hq]
        have hF1 : Sf R C w1 v1 := ⟨g3 rfl, by rw [hw1]; exact zo_ar (by omega) hF.2.1, by rw [hv1]; exact zo_ar (by omega) hF.2.2⟩
        have hj1 : J rr c w1 v1 s := by
          have hF2 := hF1
          rw [hw1, hv1] at hF2 ⊢
          exact (hJ rr c hr hc w v s hj hF).2.2.1 y rr _ (by omega) (Nat.le_refl _) hr (by omega) (tb_fdv (hF.1.1 _ (by omega)) hp) hF2
        have hk : ∀ a, rr ≤ a → w1 (a * 5 + c) = w (a * 5 + c) := fun a ha => by rw [hw1]; unfold ar; rw [if_neg (by omega)]
        obtain ⟨G, w3, v3, w4, v4, k1, k2, k3, k4⟩ := ih n2 (y + 1) w1 v1 q (by omega) (by omega) (by omega) hq hF1 hj1 (by rw [hk rr (Nat.le_refl _)]; exact hp)
        exact ⟨G, w3, v3, w4, v4, k1, k2, k3, fun h => ⟨(k4 h).1, (k4 h).2.1, (k4 h).2.2.1, (k4 h).2.2.2.1, fun a ha => ((k4 h).2.2.2.2 a ha).trans (hk a ha)⟩⟩
      · refine ⟨1, w1, v1, w1, v1, Or.inr rfl, ?_, r164 _ _ (by omega), fun h => absurd h (by decide)⟩
        obtain ⟨n1, rfl⟩ : ∃ n, n1 = n + 1 := ⟨n1 - 1, by omega⟩
        rw [D_X4_clearColumn_95_s, s1]
        split
        · rfl
        · rw [if_neg (by rw [vu_self]; decide)]
theorem L109J (hJ : JR R C J) (hS : SH r R C) (hR : R ≤ 4) (hC : C ≤ 5) (hr : rr < R) (hc : c < C) {lbc : Int32 → (Nat → Int32) → (Nat → Nat → Int64) → Int32 × (Nat → Int32) × (Nat → Nat → Int64)} {yy : Int32} {lbr : Int32 → (Nat → Int64) → (Nat → Int64) → Int32 → Int32 → Int32 × (Nat → Int64) × (Nat → Int64) × Int32 × Int32} : ∀ n1 n2 y : Nat, ∀ (M : Int32) (w v : Nat → Int64) (q : Nat → Int32), rr + 1 ≤ y → y ≤ R → R - y < n1 → R - y < n2 → q 0 = 0 → Sf R C w v → J rr c w v s → 0 < (w (rr * 5 + c)).toInt →
    (∃ (M1 : Int32) (w1 v1 w2 v2 : Nat → Int64), D_X4_clearColumn_43 r (nI rr) (nI c) lbc yy n1 (nI y) q (cs f w v) = D_X4_clearColumn_j76 r (nI rr) (nI c) lbc yy (va_up q 0 1) (cs f w1 v1) ∧ D_X8_isCleared_109 R C rr c lbr n2 y M v w s 0 = lbr M1 v2 w2 s 1) ∨
    (∃ (M1 : Int32) (w1 v1 : Nat → Int64), D_X4_clearColumn_43 r (nI rr) (nI c) lbc yy n1 (nI y) q (cs f w v) = D_X4_clearColumn_j76 r (nI rr) (nI c) lbc yy q (cs f w1 v1) ∧ D_X8_isCleared_109 R C rr c lbr n2 y M v w s 0 = lbr M1 v1 w1 s 0 ∧ (Sf R C w1 v1 ∧ J rr c w1 v1 s) ∧ (∀ a, a < y → w1 (a * 5 + c) = w (a * 5 + c)) ∧ (∀ a, y ≤ a → a < R → w1 (a * 5 + c) = rmf (w (a * 5 + c)) (w (rr * 5 + c))) ∧ (M1 = 0 ↔ M = 0 ∧ ∀ a, y ≤ a → a < R → w1 (a * 5 + c) = 0)) := by
  intro n1
  induction n1 with
  | zero => intro n2 y M w v q _ _ h; omega
  | succ n1 ih =>
    intro n2 y M w v q hy0 hy h1 h2 hq hF hj hp
    obtain ⟨n2, rfl⟩ : ∃ n, n2 = n + 1 := ⟨n2 - 1, by omega⟩
    rw [D_X4_clearColumn_43_s, D_X8_isCleared_109_s, hS.1]
    by_cases e : R ≤ y
    · rw [if_pos (ile e (by omega)), if_pos e]
      exact Or.inr ⟨M, w, v, rfl, rfl, ⟨hF, hj⟩, fun a _ => rfl, fun a ha hb => absurd hb (by omega), fun h => ⟨h, fun a ha hb => absurd hb (by omega)⟩, fun h => h.1⟩
    · rw [if_neg (nile e (by omega)), if_pos hq, if_neg e]
      obtain ⟨G, w1, v1, hG, ⟨hw1, hv1⟩, g1, g2, g3⟩ := to_eq (r := r) (q := q) (f := f) (s := s) hS hR hC (show y < R by omega) hr hc (by omega) hF.1.1 hF.1.2 hp
      rw [g1, g2]
      simp only [bnd2, bnd4]
      have hat : w1 (y * 5 + c) = rmf (w (y * 5 + c)) (w (rr * 5 + c)) := by rw [hw1, ar_at hc hC]; rfl
      have hoff : ∀ a, a ≠ y → w1 (a * 5 + c) = w (a * 5 + c) := fun a ha => by rw [hw1, ar_off (by omega) ha]
      rcases hG with rfl | rfl
      · have hF1 : Sf R C w1 v1 := ⟨g3 rfl, by rw [hw1]; exact zo_ar (by omega) hF.2.1, by rw [hv1]; exact zo_ar (by omega) hF.2.2⟩
        have hj1 : J rr c w1 v1 s := by
          have hF2 := hF1
          rw [hw1, hv1] at hF2 ⊢
          exact (hJ rr c hr hc w v s hj hF).2.2.1 y rr _ (by omega) (Nat.le_refl _) hr (by omega) (tb_fdv (hF.1.1 _ (by omega)) hp) hF2
        have hp1 : 0 < (w1 (rr * 5 + c)).toInt := by rw [hoff rr (by omega)]; exact hp
        rw [s1, vq0 hq]
        have key : ∀ M0 : Int32, (M0 = 0 ↔ M = 0 ∧ w1 (y * 5 + c) = 0) → (∃ (M1 : Int32) (w3 v3 w2 v2 : Nat → Int64), D_X4_clearColumn_43 r (nI rr) (nI c) lbc yy n1 (nI (y + 1)) q (cs f w1 v1) = D_X4_clearColumn_j76 r (nI rr) (nI c) lbc yy (va_up q 0 1) (cs f w3 v3) ∧ D_X8_isCleared_109 R C rr c lbr n2 (y + 1) M0 v1 w1 s 0 = lbr M1 v2 w2 s 1) ∨
            (∃ (M1 : Int32) (w3 v3 : Nat → Int64), D_X4_clearColumn_43 r (nI rr) (nI c) lbc yy n1 (nI (y + 1)) q (cs f w1 v1) = D_X4_clearColumn_j76 r (nI rr) (nI c) lbc yy q (cs f w3 v3) ∧ D_X8_isCleared_109 R C rr c lbr n2 (y + 1) M0 v1 w1 s 0 = lbr M1 v3 w3 s 0 ∧ (Sf R C w3 v3 ∧ J rr c w3 v3 s) ∧ (∀ a, a < y → w3 (a * 5 + c) = w (a * 5 + c)) ∧ (∀ a, y ≤ a → a < R → w3 (a * 5 + c) = rmf (w (a * 5 + c)) (w (rr * 5 + c))) ∧ (M1 = 0 ↔ M = 0 ∧ ∀ a, y ≤ a → a < R → w3 (a * 5 + c) = 0)) := by
          intro M0 hM0
          rcases ih n2 (y + 1) M0 w1 v1 q (by omega) (by omega) (by omega) (by omega) hq hF1 hj1 hp1 with h | ⟨M1, w3, v3, k1, k2, k3, k4, k5, k6⟩
          · exact Or.inl h
          · refine Or.inr ⟨M1, w3, v3, k1, k2, k3, fun a ha => (k4 a (by omega)).trans (hoff a (by omega)), fun a ha hb => ?_, ?_⟩
            · by_cases ea : a = y
              · subst ea; rw [k4 a (by omega)]; exact hat
              · rw [k5 a (by omega) hb, hoff a ea, hoff rr (by omega)]
            · rw [k6, hM0]
              constructor
              · rintro ⟨⟨h3, h4⟩, h5⟩
                refine ⟨h3, fun a ha hb => ?_⟩
                by_cases ea : a = y
                · subst ea; rw [k4 a (by omega)]; exact h4
                · exact h5 a (by omega) hb
              · rintro ⟨h3, h4⟩
                refine ⟨⟨h3, ?_⟩, fun a ha hb => h4 a (by omega) hb⟩
                have := h4 y (Nat.le_refl _) (by omega)
                rw [k4 y (by omega)] at this
                exact this
        by_cases e0 : w1 (y * 5 + c) = 0
        · rw [if_pos (lgE.mpr e0)]
          exact key _ (by rw [Int32.or_zero]; exact ⟨fun h => ⟨h, e0⟩, fun h => h.1⟩)
        · rw [if_neg (fun h => e0 (lgE.mp h))]
          exact key _ ⟨fun h => absurd h (or1 M), fun h => absurd h.2 e0⟩
      · refine Or.inl ?_
        obtain ⟨n1, rfl⟩ : ∃ n, n1 = n + 1 := ⟨n1 - 1, by omega⟩
        have hcl : D_X4_clearColumn_43 r (nI rr) (nI c) lbc yy (n1 + 1) (nI y + 1) (va_up q 0 1) (cs f w1 v1) = D_X4_clearColumn_j76 r (nI rr) (nI c) lbc yy (va_up q 0 1) (cs f w1 v1) := by
          rw [D_X4_clearColumn_43_s]
          split
          · rfl
          · rw [if_neg (by rw [vu_self]; decide)]
        split
        · obtain ⟨M1, h⟩ := r109 (R := R) (C := C) (rr := rr) (c := c) (v := v1) (w := w1) (s := s) (lb := lbr) n2 (y + 1) (M ||| 0) (by omega)
          exact ⟨M1, w1, v1, w1, v1, hcl, h⟩
        · obtain ⟨M1, h⟩ := r109 (R := R) (C := C) (rr := rr) (c := c) (v := v1) (w := w1) (s := s) (lb := lbr) n2 (y + 1) (M ||| 1) (by omega)
          exact ⟨M1, w1, v1, w1, v1, hcl, h⟩
theorem br2J (hJ : JR R C J) (hj : J rr c w v s) (hS : SH r R C) (hR : R ≤ 4) (hC : C ≤ 5) (hr : rr < R) (hc : c < C) (hF : Sf R C w v) (hnz : ¬ w (rr * 5 + c) = 0) : ∃ (w1 v1 : Nat → Int64) (s1 : Int32), D_X4_bring_j25 r q (nI rr) (nI c) (cs f w v) = cs f w1 v1 ∧ (∀ lb i2, D_X8_isCleared_j63 R C rr c lb i2 v w s = D_X8_isCleared_j102 R C rr c lb i2 v1 w1 s1) ∧ (Sf R C w1 v1 ∧ J rr c w1 v1 s1) ∧ 0 < (w1 (rr * 5 + c)).toInt ∧ na (w1 (rr * 5 + c)) = na (w (rr * 5 + c)) ∧ ∀ a, rr < a → a < R → w1 (a * 5 + c) = w (a * 5 + c) := by
  rw [cj25 hS hR hC hr hc]
  by_cases e : 0 ≤ lg_cmp (w (rr * 5 + c)) 0
  · refine ⟨w, v, s, if_pos e, fun lb i2 => ?_, ⟨hF, hj⟩, pos_of e hnz, rfl, fun a _ _ => rfl⟩
    rw [D_X8_isCleared_j63_s, if_pos e]
  · refine ⟨tr C rr w, tr R rr v, -s, if_neg e, fun lb i2 => ?_, ⟨Sf_tr hr hF, (hJ rr c hr hc w v s hj hF).2.1 rr (Nat.le_refl _) hr⟩, ?_, ?_, fun a h1 h2 => ?_⟩
    · rw [D_X8_isCleared_j63_s, if_neg e]
    · rw [tr_r hc hC]; exact pos_neg (hF.1.1 _ (by omega)) e
    · rw [tr_r hc hC, na_neg (hF.1.1 _ (by omega))]
    · unfold tr; rw [if_neg (by omega)]
theorem br_eqJ (hJ : JR R C J) (hj : J rr c w v s) (hS : SH r R C) (hR : R ≤ 4) (hC : C ≤ 5) (hr : rr ≤ m) (hm : m < R) (hc : c < C) (hF : Sf R C w v) (hnz : ¬ w (m * 5 + c) = 0) : ∃ (w1 v1 : Nat → Int64) (s1 : Int32), D_X4_bring r q (cs f w v) (nI m) (nI rr) (nI c) = cs f w1 v1 ∧ (∀ lb i2, (if m = rr then D_X8_isCleared_j63 R C rr c lb i2 v w s else D_X8_isCleared_j63 R C rr c lb i2 (xr R m rr v) (xr C m rr w) (-s)) = D_X8_isCleared_j102 R C rr c lb i2 v1 w1 s1) ∧ (Sf R C w1 v1 ∧ J rr c w1 v1 s1) ∧ 0 < (w1 (rr * 5 + c)).toInt ∧ na (w1 (rr * 5 + c)) = na (w (m * 5 + c)) ∧ ∀ a, rr < a → a < R → w1 (a * 5 + c) = if a = m then w (rr * 5 + c) else w (a * 5 + c) := by
  unfold D_X4_bring
  by_cases e : m = rr
  · subst e
    rw [if_pos rfl]
    obtain ⟨w1, v1, s1, h1, h2, h3, h4, h5, h6⟩ := br2J (q := q) (f := f) (s := s) hJ hj hS hR hC hm hc hF hnz
    refine ⟨w1, v1, s1, h1, fun lb i2 => ?_, h3, h4, h5, fun a ha hb => ?_⟩
    · rw [if_pos rfl]; exact h2 lb i2
    · rw [if_neg (by omega)]; exact h6 a ha hb
  · have hS0 := hS
    obtain ⟨a1, a2, a3, a4⟩ := hS0
    rw [if_neg (by rw [neqP (by omega) (by omega)]; exact e)]
    simp only [bnd1]
    rw [cexR a2 hC (by omega) (by omega), cs6, cp_xr (by omega) (by omega), cs_s6, cexR a4 (by omega) (by omega) (by omega), cs7, cp_xr (by omega) (by omega), cs_s7]
    have hx : xr C m rr w (rr * 5 + c) = w (m * 5 + c) := xr_r hc hC
    obtain ⟨w1, v1, s1, h1, h2, h3, h4, h5, h6⟩ := br2J (q := q) (f := f) (s := -s) hJ ((hJ rr c (by omega) hc w v s hj hF).1 m rr hr hm (Nat.le_refl _) (by omega) e) hS hR hC (show rr < R by omega) hc (Sf_xr hm (show rr < R by omega) hF) (by rw [hx]; exact hnz)
    refine ⟨w1, v1, s1, h1, fun lb i2 => ?_, h3, h4, by rw [h5, hx], fun a ha hb => ?_⟩
    · rw [if_neg e]; exact h2 lb i2
    · rw [h6 a ha hb]
      unfold xr
      by_cases ea : a = m
      · rw [if_pos ea, if_pos (by omega)]; congr 1; omega
      · rw [if_neg ea, if_neg (by omega), if_neg (by omega)]
/-- both sides have ended, with the property -/
def FnJ (J : Nat → Nat → (Nat → Int64) → (Nat → Int64) → Int32 → Prop) (R C rr c : Nat) (q : Nat → Int32) (f : Nat → Nat → Int64) (CL : Int32 × (Nat → Int32) × (Nat → Nat → Int64)) (RF : Int32 × (Nat → Int64) × (Nat → Int64) × Int32 × Int32) : Prop :=
  ∃ (G xc xr s1 : Int32) (w1 v1 w2 v2 : Nat → Int64), (G = 0 ∨ G = 1) ∧ CL = (xc, va_up q 0 G, cs f w1 v1) ∧ RF = (xr, v2, w2, s1, G) ∧ (G = 0 → xc = xr ∧ (xr = 0 ∨ xr = 1) ∧ w2 = w1 ∧ v2 = v1 ∧ Sf R C w1 v1 ∧ ((xr = 1 ∧ J (rr + 1) (c + 1) w1 v1 s1) ∨ (xr = 0 ∧ J rr (c + 1) w1 v1 s1)))
theorem pass_eqJ (hJ : JR R C J) (hj : J rr c w v s) (hS : SH r R C) (hR : R ≤ 4) (hC : C ≤ 5) (hr : rr < R) (hc : c < C) (hq : q 0 = 0) (hF : Sf R C w v) {M : Int32} (hM : ¬ M = 0) {n1 n2 y : Nat} (hy : y + 1 < 1000000) :
    FnJ J R C rr c q f (D_X4_clearColumn_2 r (nI rr) (nI c) (n1 + 2) (nI y) q (cs f w v)) (D_X8_isCleared_2 R C rr c (n2 + 2) M v w s 0) ∨
    (∃ (w1 v1 : Nat → Int64) (s1 M1 : Int32) (m : Nat), ¬ M1 = 0 ∧ (Sf R C w1 v1 ∧ J rr c w1 v1 s1) ∧ (rr ≤ m ∧ m < R ∧ ¬ w (m * 5 + c) = 0 ∧ ∀ i, rr ≤ i → i < R → w (i * 5 + c) ≠ 0 → na (w (m * 5 + c)) ≤ na (w (i * 5 + c))) ∧ 0 < (w1 (rr * 5 + c)).toInt ∧ na (w1 (rr * 5 + c)) = na (w (m * 5 + c)) ∧
      (∀ a, rr < a → a < R → w1 (a * 5 + c) = rmf (if a = m then w (rr * 5 + c) else w (a * 5 + c)) (w1 (rr * 5 + c))) ∧ (∃ a, rr < a ∧ a < R ∧ ¬ w1 (a * 5 + c) = 0) ∧
      D_X4_clearColumn_2 r (nI rr) (nI c) (n1 + 2) (nI y) q (cs f w v) = D_X4_clearColumn_2 r (nI rr) (nI c) (n1 + 1) (nI (y + 1)) q (cs f w1 v1) ∧ D_X8_isCleared_2 R C rr c (n2 + 2) M v w s 0 = D_X8_isCleared_2 R C rr c (n2 + 1) M1 v1 w1 s1 0) := by
  have hcl : D_X4_clearColumn_2 r (nI rr) (nI c) (n1 + 2) (nI y) q (cs f w v) = if 0 ≤ D_X8_least R C v w s 0 rr c then D_X4_clearColumn_43 r (nI rr) (nI c) (D_X4_clearColumn_2 r (nI rr) (nI c) (n1 + 1)) (nI y) (R - (rr + 1) + 1) (nI (rr + 1)) q (D_X4_bring r q (cs f w v) (D_X8_least R C v w s 0 rr c) (nI rr) (nI c)) else (0, q, cs f w v) := by
    rw [show n1 + 2 = (n1 + 1) + 1 from rfl, D_X4_clearColumn_2_s, if_neg (show ¬ (1000000 : Int32) ≤ nI y from nile (a := 1000000) (by omega) (by omega)), if_pos hq]
    simp only [bnd1]
    rw [le_eq (s := s) hS hR (by omega) hr, hS.1, s1, gapN (by omega) (by omega)]
  have hl := rle (C := C) (v := v) (s := s) hF.1.1 hR (show c < 5 by omega) hr
  have hrf : D_X8_isCleared_2 R C rr c (n2 + 2) M v w s 0 = if D_X8_least R C v w s 0 rr c = -1 then (0, v, w, s, 0) else (if (D_X8_least R C v w s 0 rr c).toNatClampNeg = rr then D_X8_isCleared_j63 R C rr c (D_X8_isCleared_2 R C rr c (n2 + 1)) 0 v w s else D_X8_isCleared_j63 R C rr c (D_X8_isCleared_2 R C rr c (n2 + 1)) 0 (xr R (D_X8_least R C v w s 0 rr c).toNatClampNeg rr v) (xr C (D_X8_least R C v w s 0 rr c).toNatClampNeg rr w) (-s)) := by
    rw [show n2 + 2 = (n2 + 1) + 1 from rfl, D_X8_isCleared_2_s, if_neg hM, if_pos rfl]
    rfl
  rw [hcl, hrf]
  generalize D_X8_least R C v w s 0 rr c = x at hl
  rcases hl with ⟨rfl, hz⟩ | ⟨m, rfl, hm1, hm2, hm3, hm4⟩
  · rw [if_neg (by decide), if_pos rfl]
    exact Or.inl ⟨0, 0, 0, s, w, v, w, v, Or.inl rfl, by rw [vq0 hq], rfl, fun _ => ⟨rfl, Or.inl rfl, rfl, rfl, hF, Or.inr ⟨rfl, (hJ rr c hr hc w v s hj hF).2.2.2.1 hz⟩⟩⟩
  · rw [if_pos (Int32.not_lt.mp (ilt0 (by omega))), if_neg (nI_m1 (by omega)), nI_clamp (by omega)]
    obtain ⟨w1, v1, s2, h1, h2, ⟨h3, h3j⟩, h4, h5, h6⟩ := br_eqJ (q := q) (f := f) (s := s) hJ hj hS hR hC hm1 hm2 hc hF hm3
    rw [h1, h2, D_X8_isCleared_j102_s]
    rcases L109J (J := J) (r := r) (f := f) (s := s2) (lbc := D_X4_clearColumn_2 r (nI rr) (nI c) (n1 + 1)) (yy := nI y) (lbr := D_X8_isCleared_2 R C rr c (n2 + 1)) hJ hS hR hC hr hc (R - (rr + 1) + 1) (R + 1 - (rr + 1) + 1) (rr + 1) 0 w1 v1 q (by omega) (by omega) (by omega) (by omega) hq h3 h3j h4 with ⟨M1, w3, v3, w4, v4, k1, k2⟩ | ⟨M1, w3, v3, k1, k2, ⟨k3, k3j⟩, k4, k5, k6⟩
    · rw [k1, k2, r2g, D_X4_clearColumn_j76_s, if_neg (by rw [vu_self]; decide)]
      refine Or.inl ⟨1, 0, 1, s2, w3, v3, w4, v4, Or.inr rfl, ?_, rfl, fun h => absurd h (by decide)⟩
      rw [D_X4_clearColumn_2_s]
      split
      · rfl
      · rw [if_neg (by rw [vu_self]; decide)]
    · rw [k1, k2, D_X4_clearColumn_j76_s, if_pos hq]
      simp only [bnd1]
      have hpv : w3 (rr * 5 + c) = w1 (rr * 5 + c) := k4 rr (by omega)
      rcases cb (r := r) (q := q) (f := f) (w := w3) (v := v3) (c := c) hS hR (by omega) hr with ⟨b1, b2⟩ | ⟨⟨a, b1, b2, b3⟩, b4⟩
      · rw [b2, if_neg (by decide)]
        have hM1 : M1 = 0 := k6.mpr ⟨rfl, fun a ha hb => b1 a ha hb⟩
        rw [hM1, D_X8_isCleared_2_s, if_pos rfl, show gap (nI rr) 0 = rr - 0 from gapN (b := 0) (by omega) (by omega)]
        obtain ⟨G, w5, v5, w6, v6, g1, g2, g3, g4⟩ := L164J (J := J) (r := r) (f := f) (s := s2) hJ hS hR hC hr hc (rr - 0 + 1) (rr + 1 - 0 + 1) 0 w3 v3 q (by omega) (by omega) (by omega) hq k3 k3j (by rw [hpv]; exact h4)
        exact Or.inl ⟨G, 1, 1, s2, w5, v5, w6, v6, g1, g2, g3, fun h => ⟨rfl, Or.inr rfl, (g4 h).1, (g4 h).2.1, (g4 h).2.2.1, Or.inl ⟨rfl, (hJ rr c hr hc w5 v5 s2 (g4 h).2.2.2.1 (g4 h).2.2.1).2.2.2.2 ⟨by rw [(g4 h).2.2.2.2 rr (Nat.le_refl _), hpv]; exact h4, fun a ha hb => by rw [(g4 h).2.2.2.2 a (by omega)]; exact b1 a ha hb⟩⟩⟩⟩
      · rw [b4, if_pos rfl]
        have hM1 : ¬ M1 = 0 := fun h => b3 ((k6.mp h).2 a b1 b2)
        refine Or.inr ⟨w3, v3, s2, M1, m, hM1, ⟨k3, k3j⟩, ⟨hm1, hm2, hm3, hm4⟩, by rw [hpv]; exact h4, by rw [hpv, h5], fun a' ha hb => ?_, ⟨a, by omega, b2, b3⟩, by rw [s1], rfl⟩
        rw [k5 a' (by omega) hb, h6 a' ha hb, hpv]
theorem all_eqJ (hJ : JR R C J) (hS : SH r R C) (hR : R ≤ 4) (hC : C ≤ 5) (hr : rr < R) (hc : c < C) (hq : q 0 = 0) : ∀ K n1 n2 y : Nat, ∀ (w v : Nat → Int64) (s M : Int32), ¬ M = 0 → Sf R C w v → J rr c w v s → y + 2 * K + 3 < 1000000 → 2 * K + 2 ≤ n1 → 2 * K + 2 ≤ n2 → Lt R rr c K w →
    FnJ J R C rr c q f (D_X4_clearColumn_2 r (nI rr) (nI c) n1 (nI y) q (cs f w v)) (D_X8_isCleared_2 R C rr c n2 M v w s 0) := by
  intro K
  induction K with
  | zero =>
    intro n1 n2 y w v s M hM hF hj hy h1 h2 hL
    obtain ⟨n1, rfl⟩ : ∃ n, n1 = n + 2 := ⟨n1 - 2, by omega⟩
    obtain ⟨n2, rfl⟩ : ∃ n, n2 = n + 2 := ⟨n2 - 2, by omega⟩
    rcases pass_eqJ (r := r) (f := f) (s := s) hJ hj hS hR hC hr hc hq hF hM (n1 := n1) (n2 := n2) (y := y) (by omega) with h | ⟨w1, v1, s1, M1, m, a1, ⟨a2, a2j⟩, ⟨b1, b2, b3, b4⟩, _⟩
    · exact h
    · rcases hL with h | ⟨i, h1, h2, h3, h4⟩
      · exact absurd (h m b1 b2) b3
      · exact absurd (na0.mp (show na (w (i * 5 + c)) = 0 by omega)) h3
  | succ K ih =>
    intro n1 n2 y w v s M hM hF hj hy h1 h2 hL
    obtain ⟨n1, rfl⟩ : ∃ n, n1 = n + 2 := ⟨n1 - 2, by omega⟩
    obtain ⟨n2, rfl⟩ : ∃ n, n2 = n + 2 := ⟨n2 - 2, by omega⟩
    rcases pass_eqJ (r := r) (f := f) (s := s) hJ hj hS hR hC hr hc hq hF hM (n1 := n1) (n2 := n2) (y := y) (by omega) with h | ⟨w1, v1, s1, M1, m, a1, ⟨a2, a2j⟩, ⟨b1, b2, b3, b4⟩, a3, a4, a5, ⟨a, a6, a7, a8⟩, a9, a10⟩
    · exact h
    · rw [a9, a10]
      obtain ⟨n1, rfl⟩ : ∃ n, n1 = n + 1 := ⟨n1 - 1, by omega⟩
      obtain ⟨n2, rfl⟩ : ∃ n, n2 = n + 1 := ⟨n2 - 1, by omega⟩
      -- the pivot now, P < 2 ^ (K + 1)
      have hP : na (w1 (rr * 5 + c)) < 2 ^ (K + 1) := by
        rw [a4]
        rcases hL with h | ⟨i, h1, h2, h3, h4⟩
        · exact absurd (h m b1 b2) b3
        · exact Nat.lt_of_le_of_lt (b4 i h1 h2 h3) h4
      rcases pass_eqJ (r := r) (f := f) (s := s1) hJ a2j hS hR hC hr hc hq a2 a1 (n1 := n1) (n2 := n2) (y := y + 1) (by omega) with h | ⟨w2, v2, s2, M2, m2, c1, ⟨c2, c2j⟩, ⟨d1, d2, d3, d4⟩, c3, c4, c5, ⟨a', c6, c7, c8⟩, c9, c10⟩
      · exact h
      · rw [c9, c10]
        refine ih _ _ _ w2 v2 s2 M2 c1 c2 c2j (by omega) (by omega) (by omega) (Or.inr ?_)
        -- all below are less than the pivot of their pass
        have hlt : ∀ b, rr < b → b < R → 0 ≤ (w1 (b * 5 + c)).toInt ∧ (w1 (b * 5 + c)).toInt < (w1 (rr * 5 + c)).toInt := fun b hb1 hb2 => by rw [a5 b hb1 hb2]; exact rmf_int a3
        have hlt2 : ∀ b, rr < b → b < R → 0 ≤ (w2 (b * 5 + c)).toInt ∧ (w2 (b * 5 + c)).toInt < (w2 (rr * 5 + c)).toInt := fun b hb1 hb2 => by rw [c5 b hb1 hb2]; exact rmf_int c3
        have e1 := na_pos (Int.le_of_lt a3)
        have e2 := na_pos (Int.le_of_lt c3)
        have hpow : 2 ^ (K + 1) = 2 ^ K * 2 := Nat.pow_succ 2 K
        have hm2 : m2 ≠ rr := by
          intro e
          have h5 := d4 a (by omega) a7 a8
          rw [e] at h5
          have h6 := hlt a a6 a7
          have h7 : na (w1 (a * 5 + c)) < na (w1 (rr * 5 + c)) := by
            have := na_pos h6.1
            omega
          omega
        have h5 := hlt m2 (by omega) d2
        have e3 := na_pos h5.1
        by_cases hK : na (w2 (rr * 5 + c)) < 2 ^ K
        · have h6 := hlt2 a' c6 c7
          have h7 := na_pos h6.1
          exact ⟨a', by omega, c7, c8, by omega⟩
        · -- the elder pivot is left with less
          have h6 : w2 (m2 * 5 + c) = rmf (w1 (rr * 5 + c)) (w2 (rr * 5 + c)) := by rw [c5 m2 (by omega) d2, if_pos rfl]
          have h7 := rmf_mod (Int.le_of_lt a3) c3
          have h8 : (w1 (rr * 5 + c)).toInt % (w2 (rr * 5 + c)).toInt = (w1 (rr * 5 + c)).toInt - (w2 (rr * 5 + c)).toInt := by
            rw [← Int.sub_emod_right, Int.emod_eq_of_lt (by omega) (by omega)]
          refine ⟨m2, by omega, d2, ?_, ?_⟩
          · intro e
            rw [h6] at e
            rw [e, h8, show (0 : Int64).toInt = 0 from rfl] at h7
            omega
          · have h9 : 0 ≤ (w2 (m2 * 5 + c)).toInt := (hlt2 m2 (by omega) d2).1
            have h10 := na_pos h9
            rw [h6] at h10
            rw [h6]
            omega
theorem col_eqJ (hJ : JR R C J) (hj : J rr c w v s) (hS : SH r R C) (hR : R ≤ 4) (hC : C ≤ 5) (hr : rr < R) (hc : c < C) (hq : q 0 = 0) (hF : Sf R C w v) : FnJ J R C rr c q f (D_X4_clearColumn r q (cs f w v) (nI rr) (nI c)) (D_X8_isCleared R C v w s 0 rr c) := by
  unfold D_X4_clearColumn D_X8_isCleared
  rw [show gap 1000000 0 = 1000000 - 0 from gapN (a := 1000000) (b := 0) (by omega) (by omega)]
  refine all_eqJ hJ hS hR hC hr hc hq 30 (1000000 - 0 + 1) (1000000000 + 1) 0 w v s 1 (by decide) hF hj (by omega) (by omega) (by omega) ?_
  by_cases h : ∀ i, rr ≤ i → i < R → w (i * 5 + c) = 0
  · exact Or.inl h
  · have ⟨i, hi⟩ := Classical.not_forall.mp h
    have ⟨h1, h2⟩ := Classical.not_imp.mp hi
    have ⟨h3, h4⟩ := Classical.not_imp.mp h2
    have h5 := ng_int (hF.1.1 (i * 5 + c) (by omega))
    exact Or.inr ⟨i, h1, h3, h4, by unfold na; omega⟩
theorem wk_lJ (hJ : JR R C J) (hS : SH r R C) (hR : R ≤ 4) (hC : C ≤ 5) : ∀ n1 n2 y x : Nat, ∀ (w v : Nat → Int64) (q : Nat → Int32) (s : Int32), x ≤ R → y ≤ C → C - y < n1 → C - y < n2 → q 0 = 0 → Sf R C w v → J x y w v s →
    ∃ (G s1 : Int32) (w1 v1 w2 v2 : Nat → Int64), (G = 0 ∨ G = 1) ∧ D_X4_walk_28 r n1 (nI y) (nI x) q (cs f w v) = (r, va_up q 0 G, cs f w1 v1) ∧ D_X8_init_32 R C n2 y x w v s 0 = (v2, w2, s1, G) ∧ (G = 0 → w2 = w1 ∧ v2 = v1 ∧ Sf R C w1 v1 ∧ ∃ x1 y1, (C ≤ y1 ∨ R ≤ x1) ∧ x1 ≤ R ∧ y1 ≤ C ∧ J x1 y1 w1 v1 s1) := by
  intro n1
  induction n1 with
  | zero => intro n2 y x w v q s _ _ h; omega
  | succ n1 ih =>
    intro n2 y x w v q s hx hy h1 h2 hq hF hj
    obtain ⟨n2, rfl⟩ : ∃ n, n2 = n + 1 := ⟨n2 - 1, by omega⟩
    rw [D_X4_walk_28_s, D_X8_init_32_s, hS.2.1, hS.1]
    by_cases e : C ≤ y
    · rw [if_pos (ile e (by omega)), if_pos e]
      exact ⟨0, s, w, v, w, v, Or.inl rfl, by rw [vq0 hq], rfl, fun _ => ⟨rfl, rfl, hF, x, y, Or.inl e, hx, hy, hj⟩⟩
    · rw [if_neg (nile e (by omega)), if_neg e]
      by_cases e2 : R ≤ x
      · rw [if_pos (ile e2 (by omega)), if_pos e2]
        exact ⟨0, s, w, v, w, v, Or.inl rfl, by rw [vq0 hq], rfl, fun _ => ⟨rfl, rfl, hF, x, y, Or.inr e2, hx, hy, hj⟩⟩
      · rw [if_neg (nile e2 (by omega)), if_neg e2, if_pos hq, if_pos rfl]
        obtain ⟨G, xc, xr0, s1', w1, v1, w2, v2, hG, g1, g2, g3⟩ := col_eqJ (r := r) (f := f) (s := s) hJ hj hS hR hC (show x < R by omega) (show y < C by omega) hq hF
        rw [g1, g2]
        simp only [bnd3, bnd5]
        obtain ⟨n1, rfl⟩ : ∃ n, n1 = n + 1 := ⟨n1 - 1, by omega⟩
        obtain ⟨n2, rfl⟩ : ∃ n, n2 = n + 1 := ⟨n2 - 1, by omega⟩
        rcases hG with rfl | rfl
        · obtain ⟨rfl, hx01, rfl, rfl, hF1, hj1⟩ := g3 rfl
          rw [vq0 hq]
          rcases hx01 with rfl | rfl
          · rw [if_pos rfl, if_pos rfl, s1]
            exact ih (n2 + 1) (y + 1) x w2 v2 q s1' (by omega) (by omega) (by omega) (by omega) hq hF1 (hj1.elim (fun h => absurd h.1 (by decide)) (fun h => h.2))
          · rw [if_neg (by decide), if_neg (by decide), s1, s1]
            exact ih (n2 + 1) (y + 1) (x + 1) w2 v2 q s1' (by omega) (by omega) (by omega) (by omega) hq hF1 (hj1.elim (fun h => h.2) (fun h => absurd h.1 (by decide)))
        · refine ⟨1, s1', w1, v1, w2, v2, Or.inr rfl, ?_, ?_, fun h => absurd h (by decide)⟩
          · have hcl : ∀ z1 z2 : Int32, D_X4_walk_28 r (n1 + 1) z1 z2 (va_up q 0 1) (cs f w1 v1) = (r, va_up q 0 1, cs f w1 v1) := by
              intro z1 z2
              rw [D_X4_walk_28_s]
              split
              · rfl
              · split
                · rfl
                · rw [if_neg (by rw [vu_self]; decide)]
            split
            · exact hcl _ _
            · exact hcl _ _
          · have hrf : ∀ z1 z2 : Nat, D_X8_init_32 R C (n2 + 1) z1 z2 w2 v2 s1' 1 = (v2, w2, s1', 1) := by
              intro z1 z2
              rw [D_X8_init_32_s]
              split
              · rfl
              · split
                · rfl
                · rw [if_neg (by decide)]
            split
            · exact hrf _ _
            · exact hrf _ _
/-- the row steps of a table, with a property that they keep -/
theorem walk_eqJ (hJ : JR R C J) (hj : J 0 0 (cp (R * 5) g (fun _ => 0)) (un R (fun _ => 0)) 1) (hT : CT r f i R C g) (h6 : i ≠ 6) (h7 : i ≠ 7) (h1 : 1 ≤ R) (hR : R ≤ 4) (h2 : 1 ≤ C) (hC : C ≤ 5) (hg : ∀ k, k < R * 5 → ng (g k)) (hz : zc C (R * 5) g) :
    ∃ (G s1 : Int32) (w1 v1 w2 v2 : Nat → Int64), (G = 0 ∨ G = 1) ∧ D_X4_walk r q f i = (rs (rs r 6 R C) 7 R R, va_up q 0 G, cs f w1 v1) ∧ D_X8_init R C g = (v2, w2, s1, G) ∧ (G = 0 → w2 = w1 ∧ v2 = v1 ∧ Sf R C w1 v1 ∧ ∃ x1 y1, (C ≤ y1 ∨ R ≤ x1) ∧ x1 ≤ R ∧ y1 ≤ C ∧ J x1 y1 w1 v1 s1) := by
  obtain ⟨a1, a2, a3⟩ := hT
  unfold D_X4_walk D_X8_init
  rw [cbl a1 a2]
  simp only [bnd3, bnd1]
  rw [rs_R' h6, a1, cun h1 hR]
  simp only [bnd3]
  have hSH : SH (rs (rs r 6 R C) 7 R R) R C := ⟨(rs_R' (by decide)).trans rs_R, (rs_C' (by decide)).trans rs_C, rs_R, rs_C⟩
  have hf : va_up (va_up f 6 (cp 20 (f i) (f 6))) 7 (un R (zf 20 (va_up f 6 (cp 20 (f i) (f 6)) 7))) = cs f (cp (R * 5) g (fun _ => 0)) (un R (fun _ => 0)) := by
    unfold cs
    rw [vu_ne (show (7 : Nat) ≠ 6 by decide), un_cp hR]
    congr 2
    funext k
    by_cases e : k < 20
    · rw [cpl e, cpl e, a3 k e]
    · unfold cp; rw [if_neg e, if_neg e]
  rw [hf, hSH.2.1, show gap (nI C) 0 = C - 0 from gapN (b := 0) (by omega) (by omega), rcp, run]
  obtain ⟨G, s1', w1, v1, w2, v2, hG, g1, g2, g3⟩ := wk_lJ (f := f) hJ hSH hR hC (C - 0 + 1) (C + 1 - 0 + 1) 0 0 (cp (R * 5) g (fun _ => 0)) (un R (fun _ => 0)) (va_up q 0 0) 1 (by omega) (by omega) (by omega) (by omega) vu_self ⟨⟨fun k _ => cp_ng hg k, fun k _ => un_ng k⟩, cp_zo hz, un_zo⟩ hj
  refine ⟨G, s1', w1, v1, w2, v2, hG, ?_, g2, g3⟩
  rw [vu2] at g1
  exact g1
end PJR
