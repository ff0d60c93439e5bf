/-! ===== The row steps: a pass, the passes, the columns ===== -/
/-- what lies beyond the shape is 0 -/
def zo (R C : Nat) (w : Nat → Int64) : Prop := ∀ k, k < 20 → (R ≤ k / 5 ∨ C ≤ k % 5) → w k = 0
/-- a form and its change: small enough, nothing beyond -/
def Sf (R C : Nat) (w v : Nat → Int64) : Prop := ((∀ k, k < R * 5 → ng (w k)) ∧ ∀ k, k < R * 5 → ng (v k)) ∧ zo R C w ∧ zo R R v
section PRB
variable {r q : Nat → Int32} {f : Nat → Nat → Int64} {w v : Nat → Int64} {R C i j rr c m : Nat} {s : Int32} {t : Int64}
theorem zo_ar (hi : i < R) (h : zo R C w) : zo R C (ar C i j t w) := by
  intro k hk hb
  unfold ar
  rw [if_neg (by omega)]
  exact h k hk hb
theorem zo_xr (hi : i < R) (hj : j < R) (h : zo R C w) : zo R C (xr C i j w) := by
  intro k hk hb
  unfold xr
  rw [if_neg (by omega), if_neg (by omega)]
  exact h k hk hb
theorem zo_tr (hi : i < R) (h : zo R C w) : zo R C (tr C i w) := by
  intro k hk hb
  unfold tr
  rw [if_neg (by omega)]
  exact h k hk hb
theorem ab0 {x : Int64} : ab x = 0 ↔ x = 0 := by
  unfold ab
  by_cases h : 0 < x
  · rw [if_pos h]
  · rw [if_neg h]
    constructor
    · intro e
      have := congrArg (fun z => -z) e
      simpa using this
    · intro e
      rw [e]; rfl
/-- the least of a column -/
theorem le_l (hS : SH r R C) (hR : R ≤ 4) (hc : c < 5) : ∀ n1 n2 y : Nat, ∀ x : Int32, y ≤ R → R - y < n1 → R - y < n2 → (x = -1 ∨ ∃ m, m < R ∧ x = nI m) → D_X4_findLeastRow_5 r q (cs f w v) (nI c) n1 (nI y) x = D_X8_least_5 R w c n2 y x := by
  intro n1
  induction n1 with
  | zero => intro n2 y x _ h; omega
  | succ n1 ih =>
    intro n2 y x hy h1 h2 hx
    obtain ⟨n2, rfl⟩ : ∃ n, n2 = n + 1 := ⟨n2 - 1, by omega⟩
    rw [D_X4_findLeastRow_5_s, D_X8_least_5_s, hS.1]
    by_cases e : R ≤ y
    · rw [if_pos (ile e (by omega)), if_pos e]
    · rw [if_neg (nile e (by omega)), if_neg e]
      simp only [bnd1, nm]
      rw [cget (by omega) hc, cs6, cpl (by omega)]
      by_cases e0 : w (y * 5 + c) = 0
      · rw [if_pos (lgE.mpr (ab0.mpr e0)), if_pos (lgE.mpr e0), s1]
        exact ih n2 (y + 1) x (by omega) (by omega) (by omega) hx
      · rw [if_neg (fun h => e0 (ab0.mp (lgE.mp h))), if_neg (fun h => e0 (lgE.mp h))]
        rcases hx with rfl | ⟨m, hm, rfl⟩
        · rw [if_pos (by decide), if_pos (by decide), s1]
          exact ih n2 (y + 1) _ (by omega) (by omega) (by omega) (Or.inr ⟨y, by omega, rfl⟩)
        · rw [if_neg (ilt0 (by omega)), if_neg (ilt0 (by omega)), cget (by omega) hc, cs6, cpl (by omega), nI_clamp (by omega)]
          by_cases e1 : 0 ≤ lg_cmp (ab (w (y * 5 + c))) (ab (w (m * 5 + c)))
          · rw [if_pos e1, if_pos e1, s1]
            exact ih n2 (y + 1) _ (by omega) (by omega) (by omega) (Or.inr ⟨m, hm, rfl⟩)
          · rw [if_neg e1, if_neg e1, s1]
            exact ih n2 (y + 1) _ (by omega) (by omega) (by omega) (Or.inr ⟨y, by omega, rfl⟩)
theorem le_eq (hS : SH r R C) (hR : R ≤ 4) (hc : c < 5) (hr : rr < R) : D_X4_findLeastRow r q (cs f w v) (nI rr) (nI c) = D_X8_least R C v w s 0 rr c := by
  unfold D_X4_findLeastRow D_X8_least
  rw [hS.1, gapN (by omega) (by omega)]
  exact le_l hS hR hc _ _ rr (-1) (by omega) (by omega) (by omega) (Or.inl rfl)
theorem rle_l (hng : ∀ k, k < R * 5 → ng (w k)) (hR : R ≤ 4) (hc : c < 5) : ∀ n y : Nat, ∀ x : Int32, rr ≤ y → y ≤ R → R - y < n → LPr R rr c w y x → LPr R rr c w R (D_X8_least_5 R w c n y x) := by
  intro n
  induction n with
  | zero => intro y x _ _ h; omega
  | succ n ih =>
    intro y x h0 hy hn hx
    rw [D_X8_least_5_s]
    by_cases e : R ≤ y
    · rw [if_pos e, show R = y by omega]
      rw [show R = y by omega] at hx
      exact hx
    · rw [if_neg e]
      by_cases e0 : lg_cmp (w (y * 5 + c)) 0 = 0
      · rw [if_pos e0]
        exact ih (y + 1) x (by omega) (by omega) (by omega) (LPr_z hx e0)
      · rw [if_neg e0]
        by_cases e1 : x < 0
        · rw [if_pos e1]
          exact ih (y + 1) _ (by omega) (by omega) (by omega) (LPr_n1 hx hR h0 (by omega) e0 e1)
        · rw [if_neg e1]
          simp only [nm]
          by_cases e2 : 0 ≤ lg_cmp (ab (w (y * 5 + c))) (ab (w (x.toNatClampNeg * 5 + c)))
          · rw [if_pos e2]
            exact ih (y + 1) _ (by omega) (by omega) (by omega) (LPr_k hx hc hng hR (by omega) e1 rfl rfl e2)
          · rw [if_neg e2]
            exact ih (y + 1) _ (by omega) (by omega) (by omega) (LPr_n2 hx hc hng hR h0 (by omega) e0 e1 rfl rfl e2)
theorem rle (hng : ∀ k, k < R * 5 → ng (w k)) (hR : R ≤ 4) (hc : c < 5) (hr : rr < R) : LPr R rr c w R (D_X8_least R C v w s 0 rr c) :=
  rle_l hng hR hc (R + 1 - rr + 1) rr (-1) (Nat.le_refl _) (by omega) (by omega) LPr_0
/-- nothing below -/
theorem cb_l (hS : SH r R C) (hR : R ≤ 4) (hc : c < 5) : ∀ n y : Nat, y ≤ R → R - y < n → ((∀ i, y ≤ i → i < R → w (i * 5 + c) = 0) ∧ D_X4_isClearBelow_4 r q (cs f w v) (nI c) n (nI y) = 1) ∨ ((∃ i, y ≤ i ∧ i < R ∧ ¬ w (i * 5 + c) = 0) ∧ D_X4_isClearBelow_4 r q (cs f w v) (nI c) n (nI y) = 0) := by
  intro n
  induction n with
  | zero => intro y _ h; omega
  | succ n ih =>
    intro y hy hn
    rw [D_X4_isClearBelow_4_s, hS.1]
    by_cases e : R ≤ y
    · rw [if_pos (ile e (by omega))]
      exact Or.inl ⟨fun i h1 h2 => absurd h2 (by omega), rfl⟩
    · rw [if_neg (nile e (by omega))]
      simp only [bnd1]
      rw [cget (by omega) hc, cs6, cpl (by omega)]
      by_cases e0 : w (y * 5 + c) = 0
      · rw [if_pos (lgE.mpr e0), s1]
        rcases ih (y + 1) (by omega) (by omega) with ⟨h1, h2⟩ | ⟨⟨i, h1, h2, h3⟩, h4⟩
        · refine Or.inl ⟨fun i h3 h4 => ?_, h2⟩
          by_cases e1 : i = y
          · rw [e1]; exact e0
          · exact h1 i (by omega) h4
        · exact Or.inr ⟨⟨i, by omega, h2, h3⟩, h4⟩
      · rw [if_neg (fun h => e0 (lgE.mp h))]
        exact Or.inr ⟨⟨y, Nat.le_refl _, by omega, e0⟩, rfl⟩
theorem cb (hS : SH r R C) (hR : R ≤ 4) (hc : c < 5) (hr : rr < R) : ((∀ i, rr + 1 ≤ i → i < R → w (i * 5 + c) = 0) ∧ D_X4_isClearBelow r q (cs f w v) (nI rr) (nI c) = 1) ∨ ((∃ i, rr + 1 ≤ i ∧ i < R ∧ ¬ w (i * 5 + c) = 0) ∧ D_X4_isClearBelow r q (cs f w v) (nI rr) (nI c) = 0) := by
  unfold D_X4_isClearBelow
  rw [hS.1, s1, gapN (by omega) (by omega)]
  exact cb_l hS hR hc _ (rr + 1) (by omega) (by omega)
/-- once great, the reference changes nothing more -/
theorem rto1 : D_X8_takeOff R C v w s 1 i rr c = (v, w, s, 1) := by
  unfold D_X8_takeOff
  split
  · rfl
  · rw [if_neg (by decide)]
theorem r164 : ∀ n y : Nat, rr - y < n → D_X8_isCleared_164 R C rr c n y v w s 1 = (1, v, w, s, 1) := by
  intro n
  induction n with
  | zero => intro y h; omega
  | succ n ih =>
    intro y h
    rw [D_X8_isCleared_164_s]
    by_cases e : rr ≤ y
    · rw [if_pos e]
    · rw [if_neg e, rto1]
      exact ih (y + 1) (by omega)
theorem r164b : ∀ n y : Nat, rr - y < n → D_X8_isCleared_164_1 R C rr c n y v w s 1 = (1, v, w, s, 1) := by
  intro n
  induction n with
  | zero => intro y h; omega
  | succ n ih =>
    intro y h
    rw [D_X8_isCleared_164_1_s]
    by_cases e : rr ≤ y
    · rw [if_pos e]
    · rw [if_neg e, rto1]
      exact ih (y + 1) (by omega)
theorem r2g {n : Nat} {M : Int32} : D_X8_isCleared_2 R C rr c (n + 1) M v w s 1 = (1, v, w, s, 1) := by
  rw [D_X8_isCleared_2_s]
  by_cases e : M = 0
  · rw [if_pos e]
    exact r164 _ 0 (by omega)
  · rw [if_neg e, if_neg (by decide)]
    exact r164b _ 0 (by omega)
theorem r109 {lb : Int32 → (Nat → Int64) → (Nat → Int64) → Int32 → Int32 → Int32 × (Nat → Int64) × (Nat → Int64) × Int32 × Int32} : ∀ n y : Nat, ∀ M : Int32, R - y < n → ∃ M1, D_X8_isCleared_109 R C rr c lb n y M v w s 1 = lb M1 v w s 1 := by
  intro n
  induction n with
  | zero => intro y M h; omega
  | succ n ih =>
    intro y M h
    rw [D_X8_isCleared_109_s]
    by_cases e : R ≤ y
    · rw [if_pos e]; exact ⟨M, rfl⟩
    · rw [if_neg e, rto1]
      simp only [bnd4]
      split
      · exact ih (y + 1) _ (by omega)
      · exact ih (y + 1) _ (by omega)
/-- the rows above -/
theorem L164 (hS : SH r R C) (hR : R ≤ 4) (hC : C ≤ 5) (hr : rr < R) (hc : c < C) : ∀ n1 n2 y : Nat, ∀ (w v : Nat → Int64) (q : Nat → Int32), y ≤ rr → rr - y < n1 → rr - y < n2 → q 0 = 0 → Sf R C w v → 0 < (w (rr * 5 + c)).toInt →
    ∃ (G : Int32) (w1 v1 w2 v2 : Nat → Int64), (G = 0 ∨ G = 1) ∧ D_X4_clearColumn_95 r (nI rr) (nI c) n1 (nI y) q (cs f w v) = (1, va_up q 0 G, cs f w1 v1) ∧ D_X8_isCleared_164 R C rr c n2 y v w s 0 = (1, v2, w2, s, G) ∧ (G = 0 → w2 = w1 ∧ v2 = v1 ∧ Sf R C w1 v1) := by
  intro n1
  induction n1 with
  | zero => intro n2 y w v q _ h; omega
  | succ n1 ih =>
    intro n2 y w v q hy h1 h2 hq hF hp
    obtain ⟨n2, rfl⟩ : ∃ n, n2 = n + 1 := ⟨n2 - 1, by omega⟩
    rw [D_X4_clearColumn_95_s, D_X8_isCleared_164_s]
    by_cases e : rr ≤ y
    · rw [if_pos (ile e (by omega)), if_pos e]
      exact ⟨0, w, v, w, v, Or.inl rfl, by rw [vq0 hq], rfl, fun _ => ⟨rfl, rfl, hF⟩⟩
    · rw [if_neg (nile e (by omega)), if_pos hq, if_neg e]
      obtain ⟨G, w1, v1, hG, ⟨hw1, hv1⟩, g1, g2, g3⟩ := to_eq (r := r) (q := q) (f := f) (s := s) hS hR hC (show y < R by omega) hr hc (by omega) hF.1.1 hF.1.2 hp
      rw [g1, g2]
      simp only [bnd2, bnd4]
      rcases hG with rfl | rfl
      · rw [s1, vq0 hq]
        refine ih n2 (y + 1) w1 v1 q (by omega) (by omega) (by omega) hq ⟨g3 rfl, ?_, ?_⟩ ?_
        · rw [hw1]; exact zo_ar (by omega) hF.2.1
        · rw [hv1]; exact zo_ar (by omega) hF.2.2
        · rw [hw1, show ar C y rr (-(fdv (w (y * 5 + c)) (w (rr * 5 + c)))) w (rr * 5 + c) = w (rr * 5 + c) by unfold ar; rw [if_neg (by omega)]]
          exact hp
      · refine ⟨1, w1, v1, w1, v1, Or.inr rfl, ?_, r164 _ _ (by omega), fun h => absurd h (by decide)⟩
        obtain ⟨n1, rfl⟩ : ∃ n, n1 = n + 1 := ⟨n1 - 1, by omega⟩
        rw [D_X4_clearColumn_95_s, s1]
        split
        · rfl
        · rw [if_neg (by rw [vu_self]; decide)]
end PRB
