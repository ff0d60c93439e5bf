section PRC
variable {r q : Nat → Int32} {f : Nat → Nat → Int64} {w v : Nat → Int64} {R C i j rr c m : Nat} {s : Int32} {t : Int64}
theorem ar_at {C i j c : Nat} {t : Int64} {w : Nat → Int64} (hc : c < C) (h5 : C ≤ 5) : ar C i j t w (i * 5 + c) = w (i * 5 + c) + t * w (j * 5 + c) := by
  unfold ar
  rw [if_pos (by omega), show (i * 5 + c) % 5 = c by omega]
theorem ar_off {C i j c a : Nat} {t : Int64} {w : Nat → Int64} (h5 : c < 5) (h : a ≠ i) : ar C i j t w (a * 5 + c) = w (a * 5 + c) := by
  unfold ar
  rw [if_neg (by omega)]
/-- the rows below -/
theorem L109 (hS : SH r R C) (hR : R ≤ 4) (hC : C ≤ 5) (hr : rr < R) (hc : c < C) {lbc : Int32 → (Nat → Int32) → (Nat → Nat → Int64) → Int32 × (Nat → Int32) × (Nat → Nat → Int64)} {yy : Int32} {lbr : Int32 → (Nat → Int64) → (Nat → Int64) → Int32 → Int32 → Int32 × (Nat → Int64) × (Nat → Int64) × Int32 × Int32} : ∀ n1 n2 y : Nat, ∀ (M : Int32) (w v : Nat → Int64) (q : Nat → Int32), rr + 1 ≤ y → y ≤ R → R - y < n1 → R - y < n2 → q 0 = 0 → Sf R C w v → 0 < (w (rr * 5 + c)).toInt →
    (∃ (M1 : Int32) (w1 v1 w2 v2 : Nat → Int64), D_X4_clearColumn_43 r (nI rr) (nI c) lbc yy n1 (nI y) q (cs f w v) = D_X4_clearColumn_j76 r (nI rr) (nI c) lbc yy (va_up q 0 1) (cs f w1 v1) ∧ D_X8_isCleared_109 R C rr c lbr n2 y M v w s 0 = lbr M1 v2 w2 s 1) ∨
    (∃ (M1 : Int32) (w1 v1 : Nat → Int64), D_X4_clearColumn_43 r (nI rr) (nI c) lbc yy n1 (nI y) q (cs f w v) = D_X4_clearColumn_j76 r (nI rr) (nI c) lbc yy q (cs f w1 v1) ∧ D_X8_isCleared_109 R C rr c lbr n2 y M v w s 0 = lbr M1 v1 w1 s 0 ∧ Sf R C w1 v1 ∧ (∀ a, a < y → w1 (a * 5 + c) = w (a * 5 + c)) ∧ (∀ a, y ≤ a → a < R → w1 (a * 5 + c) = rmf (w (a * 5 + c)) (w (rr * 5 + c))) ∧ (M1 = 0 ↔ M = 0 ∧ ∀ a, y ≤ a → a < R → w1 (a * 5 + c) = 0)) := by
  intro n1
  induction n1 with
  | zero => intro n2 y M w v q _ _ h; omega
  | succ n1 ih =>
    intro n2 y M w v q hy0 hy h1 h2 hq hF hp
    obtain ⟨n2, rfl⟩ : ∃ n, n2 = n + 1 := ⟨n2 - 1, by omega⟩
    rw [D_X4_clearColumn_43_s, D_X8_isCleared_109_s, hS.1]
    by_cases e : R ≤ y
    · rw [if_pos (ile e (by omega)), if_pos e]
      exact Or.inr ⟨M, w, v, rfl, rfl, hF, fun a _ => rfl, fun a ha hb => absurd hb (by omega), fun h => ⟨h, fun a ha hb => absurd hb (by omega)⟩, fun h => h.1⟩
    · rw [if_neg (nile e (by omega)), if_pos hq, if_neg e]
      obtain ⟨G, w1, v1, hG, ⟨hw1, hv1⟩, g1, g2, g3⟩ := to_eq (r := r) (q := q) (f := f) (s := s) hS hR hC (show y < R by omega) hr hc (by omega) hF.1.1 hF.1.2 hp
      rw [g1, g2]
      simp only [bnd2, bnd4]
      have hat : w1 (y * 5 + c) = rmf (w (y * 5 + c)) (w (rr * 5 + c)) := by rw [hw1, ar_at hc hC]; rfl
      have hoff : ∀ a, a ≠ y → w1 (a * 5 + c) = w (a * 5 + c) := fun a ha => by rw [hw1, ar_off (by omega) ha]
      rcases hG with rfl | rfl
      · have hF1 : Sf R C w1 v1 := ⟨g3 rfl, by rw [hw1]; exact zo_ar (by omega) hF.2.1, by rw [hv1]; exact zo_ar (by omega) hF.2.2⟩
        have hp1 : 0 < (w1 (rr * 5 + c)).toInt := by rw [hoff rr (by omega)]; exact hp
        rw [s1, vq0 hq]
        have key : ∀ M0 : Int32, (M0 = 0 ↔ M = 0 ∧ w1 (y * 5 + c) = 0) → (∃ (M1 : Int32) (w3 v3 w2 v2 : Nat → Int64), D_X4_clearColumn_43 r (nI rr) (nI c) lbc yy n1 (nI (y + 1)) q (cs f w1 v1) = D_X4_clearColumn_j76 r (nI rr) (nI c) lbc yy (va_up q 0 1) (cs f w3 v3) ∧ D_X8_isCleared_109 R C rr c lbr n2 (y + 1) M0 v1 w1 s 0 = lbr M1 v2 w2 s 1) ∨
            (∃ (M1 : Int32) (w3 v3 : Nat → Int64), D_X4_clearColumn_43 r (nI rr) (nI c) lbc yy n1 (nI (y + 1)) q (cs f w1 v1) = D_X4_clearColumn_j76 r (nI rr) (nI c) lbc yy q (cs f w3 v3) ∧ D_X8_isCleared_109 R C rr c lbr n2 (y + 1) M0 v1 w1 s 0 = lbr M1 v3 w3 s 0 ∧ Sf R C w3 v3 ∧ (∀ a, a < y → w3 (a * 5 + c) = w (a * 5 + c)) ∧ (∀ a, y ≤ a → a < R → w3 (a * 5 + c) = rmf (w (a * 5 + c)) (w (rr * 5 + c))) ∧ (M1 = 0 ↔ M = 0 ∧ ∀ a, y ≤ a → a < R → w3 (a * 5 + c) = 0)) := by
          intro M0 hM0
          rcases ih n2 (y + 1) M0 w1 v1 q (by omega) (by omega) (by omega) (by omega) hq hF1 hp1 with h | ⟨M1, w3, v3, k1, k2, k3, k4, k5, k6⟩
          · exact Or.inl h
          · refine Or.inr ⟨M1, w3, v3, k1, k2, k3, fun a ha => (k4 a (by omega)).trans (hoff a (by omega)), fun a ha hb => ?_, ?_⟩
            · by_cases ea : a = y
              · subst ea; rw [k4 a (by omega)]; exact hat
              · rw [k5 a (by omega) hb, hoff a ea, hoff rr (by omega)]
            · rw [k6, hM0]
              constructor
              · rintro ⟨⟨h3, h4⟩, h5⟩
                refine ⟨h3, fun a ha hb => ?_⟩
                by_cases ea : a = y
                · subst ea; rw [k4 a (by omega)]; exact h4
                · exact h5 a (by omega) hb
              · rintro ⟨h3, h4⟩
                refine ⟨⟨h3, ?_⟩, fun a ha hb => h4 a (by omega) hb⟩
                have := h4 y (Nat.le_refl _) (by omega)
                rw [k4 y (by omega)] at this
                exact this
        by_cases e0 : w1 (y * 5 + c) = 0
        · rw [if_pos (lgE.mpr e0)]
          exact key _ (by rw [Int32.or_zero]; exact ⟨fun h => ⟨h, e0⟩, fun h => h.1⟩)
        · rw [if_neg (fun h => e0 (lgE.mp h))]
          exact key _ ⟨fun h => absurd h (or1 M), fun h => absurd h.2 e0⟩
      · refine Or.inl ?_
        obtain ⟨n1, rfl⟩ : ∃ n, n1 = n + 1 := ⟨n1 - 1, by omega⟩
        have hcl : D_X4_clearColumn_43 r (nI rr) (nI c) lbc yy (n1 + 1) (nI y + 1) (va_up q 0 1) (cs f w1 v1) = D_X4_clearColumn_j76 r (nI rr) (nI c) lbc yy (va_up q 0 1) (cs f w1 v1) := by
          rw [D_X4_clearColumn_43_s]
          split
          · rfl
          · rw [if_neg (by rw [vu_self]; decide)]
        split
        · obtain ⟨M1, h⟩ := r109 (R := R) (C := C) (rr := rr) (c := c) (v := v1) (w := w1) (s := s) (lb := lbr) n2 (y + 1) (M ||| 0) (by omega)
          exact ⟨M1, w1, v1, w1, v1, hcl, h⟩
        · obtain ⟨M1, h⟩ := r109 (R := R) (C := C) (rr := rr) (c := c) (v := v1) (w := w1) (s := s) (lb := lbr) n2 (y + 1) (M ||| 1) (by omega)
          exact ⟨M1, w1, v1, w1, v1, hcl, h⟩
theorem Sf_xr (hi : i < R) (hj : j < R) (hF : Sf R C w v) : Sf R C (xr C i j w) (xr R i j v) := ⟨⟨ng_xr hi hj hF.1.1, ng_xr hi hj hF.1.2⟩, zo_xr hi hj hF.2.1, zo_xr hi hj hF.2.2⟩
theorem Sf_tr (hi : i < R) (hF : Sf R C w v) : Sf R C (tr C i w) (tr R i v) := ⟨⟨ng_tr hF.1.1, ng_tr hF.1.2⟩, zo_tr hi hF.2.1, zo_tr hi hF.2.2⟩
theorem cj25 (hS : SH r R C) (hR : R ≤ 4) (hC : C ≤ 5) (hr : rr < R) (hc : c < C) : D_X4_bring_j25 r q (nI rr) (nI c) (cs f w v) = if 0 ≤ lg_cmp (w (rr * 5 + c)) 0 then cs f w v else cs f (tr C rr w) (tr R rr v) := by
  obtain ⟨a1, a2, a3, a4⟩ := hS
  unfold D_X4_bring_j25
  simp only [bnd1]
  rw [cget (by omega) (by omega), cs6, cpl (by omega), ctuR a2 hC (by omega), cs6, cp_tr (by omega), cs_s6, ctuR a4 (by omega) (by omega), cs7, cp_tr (by omega), cs_s7]
theorem br2 (hS : SH r R C) (hR : R ≤ 4) (hC : C ≤ 5) (hr : rr < R) (hc : c < C) (hF : Sf R C w v) (hnz : ¬ w (rr * 5 + c) = 0) : ∃ (w1 v1 : Nat → Int64) (s1 : Int32), D_X4_bring_j25 r q (nI rr) (nI c) (cs f w v) = cs f w1 v1 ∧ (∀ lb i2, D_X8_isCleared_j63 R C rr c lb i2 v w s = D_X8_isCleared_j102 R C rr c lb i2 v1 w1 s1) ∧ Sf R C w1 v1 ∧ 0 < (w1 (rr * 5 + c)).toInt ∧ na (w1 (rr * 5 + c)) = na (w (rr * 5 + c)) ∧ ∀ a, rr < a → a < R → w1 (a * 5 + c) = w (a * 5 + c) := by
  rw [cj25 hS hR hC hr hc]
  by_cases e : 0 ≤ lg_cmp (w (rr * 5 + c)) 0
  · refine ⟨w, v, s, if_pos e, fun lb i2 => ?_, hF, pos_of e hnz, rfl, fun a _ _ => rfl⟩
    rw [D_X8_isCleared_j63_s, if_pos e]
  · refine ⟨tr C rr w, tr R rr v, -s, if_neg e, fun lb i2 => ?_, Sf_tr hr hF, ?_, ?_, fun a h1 h2 => ?_⟩
    · rw [D_X8_isCleared_j63_s, if_neg e]
    · rw [tr_r hc hC]; exact pos_neg (hF.1.1 _ (by omega)) e
    · rw [tr_r hc hC, na_neg (hF.1.1 _ (by omega))]
    · unfold tr; rw [if_neg (by omega)]
/-- the least comes to its row -/
theorem br_eq (hS : SH r R C) (hR : R ≤ 4) (hC : C ≤ 5) (hr : rr ≤ m) (hm : m < R) (hc : c < C) (hF : Sf R C w v) (hnz : ¬ w (m * 5 + c) = 0) : ∃ (w1 v1 : Nat → Int64) (s1 : Int32), D_X4_bring r q (cs f w v) (nI m) (nI rr) (nI c) = cs f w1 v1 ∧ (∀ lb i2, (if m = rr then D_X8_isCleared_j63 R C rr c lb i2 v w s else D_X8_isCleared_j63 R C rr c lb i2 (xr R m rr v) (xr C m rr w) (-s)) = D_X8_isCleared_j102 R C rr c lb i2 v1 w1 s1) ∧ Sf R C w1 v1 ∧ 0 < (w1 (rr * 5 + c)).toInt ∧ na (w1 (rr * 5 + c)) = na (w (m * 5 + c)) ∧ ∀ a, rr < a → a < R → w1 (a * 5 + c) = if a = m then w (rr * 5 + c) else w (a * 5 + c) := by
  unfold D_X4_bring
  by_cases e : m = rr
  · subst e
    rw [if_pos rfl]
    obtain ⟨w1, v1, s1, h1, h2, h3, h4, h5, h6⟩ := br2 (q := q) (f := f) (s := s) hS hR hC hm hc hF hnz
    refine ⟨w1, v1, s1, h1, fun lb i2 => ?_, h3, h4, h5, fun a ha hb => ?_⟩
    · rw [if_pos rfl]; exact h2 lb i2
    · rw [if_neg (by omega)]; exact h6 a ha hb
  · have hS0 := hS
    obtain ⟨a1, a2, a3, a4⟩ := hS0
    rw [if_neg (by rw [neqP (by omega) (by omega)]; exact e)]
    simp only [bnd1]
    rw [cexR a2 hC (by omega) (by omega), cs6, cp_xr (by omega) (by omega), cs_s6, cexR a4 (by omega) (by omega) (by omega), cs7, cp_xr (by omega) (by omega), cs_s7]
    have hx : xr C m rr w (rr * 5 + c) = w (m * 5 + c) := xr_r hc hC
    obtain ⟨w1, v1, s1, h1, h2, h3, h4, h5, h6⟩ := br2 (q := q) (f := f) (s := -s) hS hR hC (show rr < R by omega) hc (Sf_xr hm (show rr < R by omega) hF) (by rw [hx]; exact hnz)
    refine ⟨w1, v1, s1, h1, fun lb i2 => ?_, h3, h4, by rw [h5, hx], fun a ha hb => ?_⟩
    · rw [if_neg e]; exact h2 lb i2
    · rw [h6 a ha hb]
      unfold xr
      by_cases ea : a = m
      · rw [if_pos ea, if_pos (by omega)]; congr 1; omega
      · rw [if_neg ea, if_neg (by omega), if_neg (by omega)]
end PRC
