/-- all ahead of a place are above it in size -/
def Fi (R C t : Nat) (w : Nat → Int64) (row col : Nat) : Prop := ∀ a b, t ≤ a → a < R → t ≤ b → b < C → (a < row ∨ a = row ∧ b < col) → w (a * 5 + b) = 0 ∨ na (w (row * 5 + col)) < na (w (a * 5 + b))
/-- the least so far, as both sides keep it -/
def IP (R C t : Nat) (w : Nat → Int64) (fr : Prop) (sz : Int64) (pl : Int32) (row col : Nat) : Prop := (pl = -1 ∧ (row = t ∧ col = t) ∧ (w (t * 5 + t) = 0 ∨ fr)) ∨ (pl = nI (row * 5 + col) ∧ (t ≤ row ∧ row < R ∧ t ≤ col ∧ col < C) ∧ ¬ w (row * 5 + col) = 0 ∧ sz = ab (w (row * 5 + col)) ∧ Fi R C t w row col)
section PDB
variable {r q : Nat → Int32} {f : Nat → Nat → Int64} {w v u : Nat → Int64} {R C a b t : Nat} {x : Int64} {i1 i2 i3 : Int32}
theorem cix {i j : Nat} : (nI i * 5) + nI j = nI (i * 5 + j) := by rw [show (5 : Int32) = nI 5 from rfl, nI_mul, nI_add]
theorem rless {x y : Int64} (hx : ng x) (hy : ng y) : (D_X9_isLess R C u v w i1 i2 i3 0 x y = 0 ∧ (x = 0 ∨ ¬ y = 0 ∧ ¬ x = 0 ∧ 0 ≤ lg_cmp (ab x) (ab y) ∧ na y ≤ na x)) ∨ (D_X9_isLess R C u v w i1 i2 i3 0 x y = 1 ∧ ¬ x = 0 ∧ (y = 0 ∨ ¬ y = 0 ∧ ¬ 0 ≤ lg_cmp (ab x) (ab y) ∧ na x < na y)) := by
  unfold D_X9_isLess
  simp only [nm]
  by_cases e1 : y = 0
  · rw [if_pos (lgE.mpr e1)]
    by_cases e2 : x = 0
    · rw [if_pos (lgE.mpr e2)]; exact Or.inl ⟨rfl, Or.inl e2⟩
    · rw [if_neg (fun h => e2 (lgE.mp h))]; exact Or.inr ⟨rfl, e2, Or.inl e1⟩
  · rw [if_neg (fun h => e1 (lgE.mp h))]
    by_cases e2 : x = 0
    · rw [if_pos (lgE.mpr e2)]; exact Or.inl ⟨rfl, Or.inl e2⟩
    · rw [if_neg (fun h => e2 (lgE.mp h))]
      have hl := ab_lt hx hy
      by_cases e3 : 0 ≤ lg_cmp (ab x) (ab y)
      · rw [if_pos e3]
        refine Or.inl ⟨rfl, Or.inr ⟨e1, e2, e3, ?_⟩⟩
        exact Nat.not_lt.mp (fun h => absurd (hl.mpr h) (Int32.not_lt.mpr e3))
      · rw [if_neg e3]
        exact Or.inr ⟨rfl, e2, Or.inr ⟨e1, e3, hl.mp (Int32.not_le.mp e3)⟩⟩
theorem fp_in (hD : DH r R C) (hR : R ≤ 4) (hC : C ≤ 4) (ht : t < R ∧ t < C) (hw : Nw R w) {i : Nat} (hi : t ≤ i ∧ i < R) {lbc : Int32 → Int64 → Int32 → Int32} {lbr : Nat → Nat → Nat → Int32 × (Nat → Int64) × (Nat → Int64) × (Nat → Int64) × Int32 × Int32 × Int32} : ∀ n1 n2 j row col : Nat, ∀ (sz : Int64) (pl : Int32), t ≤ j → j ≤ C → C - j < n1 → C - j < n2 → IP R C t w (i = t ∧ j = t) sz pl row col → MIf R C t w i j row col →
    ∃ (sz' : Int64) (pl' : Int32) (row' col' : Nat), IP R C t w False sz' pl' row' col' ∧ MIf R C t w i C row' col' ∧ D_X1_findLeastPlace_22 r q (ds f w v u) lbc (nI i) n1 (nI j) sz pl = lbc (nI (i + 1)) sz' pl' ∧ D_X9_isCleared_29 R C i3 u v w i1 i2 0 lbr i n2 j col row = lbr (i + 1) col' row' := by
  intro n1
  induction n1 with
  | zero => intro n2 j row col sz pl _ _ h; omega
  | succ n1 ih =>
    intro n2 j row col sz pl hj0 hj h1 h2 hI hM
    obtain ⟨n2, rfl⟩ : ∃ n, n2 = n + 1 := ⟨n2 - 1, by omega⟩
    rw [D_X1_findLeastPlace_22_s, D_X9_isCleared_29_s, hD.1.2]
    by_cases e : C ≤ j
    · rw [if_pos (ile e (by omega)), if_pos e, s1]
      have hjC : j = C := by omega
      refine ⟨sz, pl, row, col, ?_, hjC ▸ hM, rfl, rfl⟩
      rcases hI with ⟨h1, h2, h3⟩ | h
      · refine Or.inl ⟨h1, h2, ?_⟩
        rcases h3 with h3 | h3
        · exact Or.inl h3
        · omega
      · exact Or.inr h
    · rw [if_neg (nile e (by omega)), if_neg e]
      simp only [bnd1, nm]
      rw [cget (by omega) (by omega), ds8, cpl (by omega)]
      have hx := hw (i * 5 + j) (by omega)
      have hrc := hM.1
      have hy := hw (row * 5 + col) (by omega)
      have hset : ¬ w (i * 5 + j) = 0 → Fi R C t w i j → IP R C t w (i = t ∧ j + 1 = t) (ab (w (i * 5 + j))) (nI (i * 5 + j)) i j := fun h hf => Or.inr ⟨rfl, ⟨hi.1, hi.2, hj0, by omega⟩, h, rfl, hf⟩
      by_cases e0 : w (i * 5 + j) = 0
      · rw [if_pos (lgE.mpr (ab0.mpr e0))]
        have hL : D_X9_isLess R C u v w i1 i2 i3 0 (w (i * 5 + j)) (w (row * 5 + col)) = 0 := by
          rcases rless (R := R) (C := C) (u := u) (v := v) (w := w) (i1 := i1) (i2 := i2) (i3 := i3) hx hy with ⟨h, _⟩ | ⟨_, h, _⟩
          · exact h
          · exact absurd e0 h
        rw [hL, if_pos rfl, s1]
        refine ih n2 (j + 1) row col sz pl (by omega) (by omega) (by omega) (by omega) ?_ (MI_k hM (Or.inl e0))
        rcases hI with ⟨h1, h2, h3⟩ | h
        · refine Or.inl ⟨h1, h2, ?_⟩
          rcases h3 with h3 | ⟨h3, h4⟩
          · exact Or.inl h3
          · subst h3; subst h4; exact Or.inl e0
        · exact Or.inr h
      · rw [if_neg (fun h => e0 (ab0.mp (lgE.mp h)))]
        rcases hI with ⟨h1, ⟨h2, h3⟩, h4⟩ | ⟨h1, h2, h3, h4, h6⟩
        · rw [h1, if_pos (by decide), cix, s1]
          by_cases ez : w (row * 5 + col) = 0
          · have hL : D_X9_isLess R C u v w i1 i2 i3 0 (w (i * 5 + j)) (w (row * 5 + col)) = 1 := by
              rcases rless (R := R) (C := C) (u := u) (v := v) (w := w) (i1 := i1) (i2 := i2) (i3 := i3) hx hy with ⟨_, h⟩ | ⟨h, _⟩
              · rcases h with h | h
                · exact absurd h e0
                · exact absurd ez h.1
              · exact h
            rw [hL, if_neg (show ¬ (1 : Int32) = 0 by decide)]
            exact ih n2 (j + 1) i j _ _ (by omega) (by omega) (by omega) (by omega) (hset e0 (fun a b k1 k2 k3 k4 k5 => by
              by_cases en : w (a * 5 + b) = 0
              · exact Or.inl en
              · exact absurd ez (hM.2.1 a b k1 k2 k3 k4 k5 en).1)) (MI_n hM ⟨hi.1, hi.2, hj0, by omega⟩ e0 (Or.inl ez))
          · -- the first place itself
            have hit : i = t ∧ j = t := h4.resolve_left (by rw [h2, h3] at ez; exact ez)
            have heq : i * 5 + j = row * 5 + col := by omega
            have hL : D_X9_isLess R C u v w i1 i2 i3 0 (w (i * 5 + j)) (w (row * 5 + col)) = 0 := by
              rcases rless (R := R) (C := C) (u := u) (v := v) (w := w) (i1 := i1) (i2 := i2) (i3 := i3) hx hy with ⟨h, _⟩ | ⟨_, _, h⟩
              · exact h
              · rcases h with h | h
                · exact absurd h ez
                · have h5 := h.2.2
                  rw [heq] at h5
                  exact absurd h5 (Nat.lt_irrefl _)
            rw [hL, if_pos (show (0 : Int32) = 0 from rfl)]
            exact ih n2 (j + 1) row col _ _ (by omega) (by omega) (by omega) (by omega) (Or.inr ⟨by rw [heq], hrc, ez, by rw [heq], fun a b m1 _ m3 _ m5 => by omega⟩) (MI_k hM (Or.inr ⟨ez, by rw [heq]; exact Nat.le_refl _⟩))
        · rw [h1, if_neg (ilt0 (by omega)), h4]
          rcases rless (R := R) (C := C) (u := u) (v := v) (w := w) (i1 := i1) (i2 := i2) (i3 := i3) hx hy with ⟨k1, k2⟩ | ⟨k1, _, k2⟩
          · rcases k2 with k2 | ⟨_, _, k3, k4⟩
            · exact absurd k2 e0
            · rw [k1, if_pos k3, if_pos (show (0 : Int32) = 0 from rfl), s1]
              exact ih n2 (j + 1) row col _ _ (by omega) (by omega) (by omega) (by omega) (Or.inr ⟨rfl, h2, h3, rfl, h6⟩) (MI_k hM (Or.inr ⟨h3, k4⟩))
          · rcases k2 with k2 | ⟨_, k3, k4⟩
            · exact absurd k2 h3
            · rw [k1, if_neg k3, if_neg (show ¬ (1 : Int32) = 0 by decide), cix, s1]
              exact ih n2 (j + 1) i j _ _ (by omega) (by omega) (by omega) (by omega) (hset e0 (fun a b m1 m2 m3 m4 m5 => by
                by_cases en : w (a * 5 + b) = 0
                · exact Or.inl en
                · exact Or.inr (Nat.lt_of_lt_of_le k4 (hM.2.1 a b m1 m2 m3 m4 m5 en).2))) (MI_n hM ⟨hi.1, hi.2, hj0, by omega⟩ e0 (Or.inr k4))
theorem fp_out (hD : DH r R C) (hR : R ≤ 4) (hC : C ≤ 4) (ht : t < R ∧ t < C) (hw : Nw R w) {lbr : (Nat → Int64) → (Nat → Int64) → (Nat → Int64) → Int32 → Int32 → Int32 → Int32 × (Nat → Int64) × (Nat → Int64) × (Nat → Int64) × Int32 × Int32 × Int32} : ∀ n1 n2 i row col : Nat, ∀ (sz : Int64) (pl : Int32), t ≤ i → i ≤ R → R - i < n1 → R - i < n2 → IP R C t w (i = t) sz pl row col → MIf R C t w i t row col →
    ∃ (sz' : Int64) (row' col' : Nat), IP R C t w False sz' (D_X1_findLeastPlace_7 r q (ds f w v u) (nI t) n1 (nI i) sz pl) row' col' ∧ MIf R C t w R t row' col' ∧ D_X9_isCleared_14 R C i3 t lbr u v w i1 i2 0 n2 i col row = D_X9_isCleared_14 R C i3 t lbr u v w i1 i2 0 1 R col' row' := by
  intro n1
  induction n1 with
  | zero => intro n2 i row col sz pl _ _ h; omega
  | succ n1 ih =>
    intro n2 i row col sz pl hi0 hi h1 h2 hI hM
    obtain ⟨n2, rfl⟩ : ∃ n, n2 = n + 1 := ⟨n2 - 1, by omega⟩
    rw [D_X1_findLeastPlace_7_s, hD.1.1]
    by_cases e : R ≤ i
    · have hiR : i = R := by omega
      rw [if_pos (ile e (by omega))]
      refine ⟨sz, row, col, ?_, hiR ▸ hM, ?_⟩
      · rcases hI with ⟨h1, h2, h3⟩ | h
        · refine Or.inl ⟨h1, h2, ?_⟩
          rcases h3 with h3 | h3
          · exact Or.inl h3
          · omega
        · exact Or.inr h
      · rw [hiR, D_X9_isCleared_14_s, D_X9_isCleared_14_s (nn := 0), if_pos (Nat.le_refl _), if_pos (Nat.le_refl _)]
    · rw [if_neg (nile e (by omega)), hD.1.2, gapN (by omega) (by omega), D_X9_isCleared_14_s, if_neg e]
      obtain ⟨sz', pl', row', col', g1, g2, g3, g4⟩ := fp_in (r := r) (q := q) (f := f) (v := v) (u := u) (i1 := i1) (i2 := i2) (i3 := i3) hD hR hC ht hw ⟨hi0, by omega⟩ (lbc := D_X1_findLeastPlace_7 r q (ds f w v u) (nI t) n1) (lbr := D_X9_isCleared_14 R C i3 t lbr u v w i1 i2 0 n2) (C - t + 1) (C + 1 - t + 1) t row col sz pl (Nat.le_refl _) (by omega) (by omega) (by omega) (by
        rcases hI with ⟨h1, h2, h3⟩ | h
        · exact Or.inl ⟨h1, h2, h3.elim Or.inl (fun h => Or.inr ⟨h, rfl⟩)⟩
        · exact Or.inr h) hM
      rw [g3, g4]
      exact ih n2 (i + 1) row' col' sz' pl' (by omega) (by omega) (by omega) (by omega) (by
        rcases g1 with ⟨h1, h2, h3⟩ | h
        · exact Or.inl ⟨h1, h2, h3.elim Or.inl (fun h => h.elim)⟩
        · exact Or.inr h) (MI_r g2 rfl)
/-- the least of the block from t, t -/
theorem fp_eq (hD : DH r R C) (hR : R ≤ 4) (hC : C ≤ 4) (ht : t < R ∧ t < C) (hw : Nw R w) {lbr : (Nat → Int64) → (Nat → Int64) → (Nat → Int64) → Int32 → Int32 → Int32 → Int32 × (Nat → Int64) × (Nat → Int64) × (Nat → Int64) × Int32 × Int32 × Int32} :
    (D_X1_findLeastPlace r q (ds f w v u) (nI t) = -1 ∧ (∀ a b, t ≤ a → a < R → t ≤ b → b < C → w (a * 5 + b) = 0) ∧ D_X9_isCleared_14 R C i3 t lbr u v w i1 i2 0 (R + 1 - t + 1) t t t = D_X9_isCleared_14 R C i3 t lbr u v w i1 i2 0 1 R t t ∧ w (t * 5 + t) = 0) ∨
    (∃ row col : Nat, (t ≤ row ∧ row < R ∧ t ≤ col ∧ col < C) ∧ ¬ w (row * 5 + col) = 0 ∧ (∀ a b, t ≤ a → a < R → t ≤ b → b < C → ¬ w (a * 5 + b) = 0 → na (w (row * 5 + col)) ≤ na (w (a * 5 + b))) ∧ D_X1_findLeastPlace r q (ds f w v u) (nI t) = nI (row * 5 + col) ∧ D_X9_isCleared_14 R C i3 t lbr u v w i1 i2 0 (R + 1 - t + 1) t t t = D_X9_isCleared_14 R C i3 t lbr u v w i1 i2 0 1 R col row ∧ Fi R C t w row col) := by
  unfold D_X1_findLeastPlace
  rw [hD.1.1, gapN (by omega) (by omega)]
  obtain ⟨sz', row, col, g1, g2, g3⟩ := fp_out (r := r) (q := q) (f := f) (v := v) (u := u) (i1 := i1) (i2 := i2) (i3 := i3) hD hR hC ht hw (lbr := lbr) (R - t + 1) (R + 1 - t + 1) t t t 0 (-1) (Nat.le_refl _) (by omega) (by omega) (by omega) (Or.inl ⟨rfl, ⟨rfl, rfl⟩, Or.inr rfl⟩) (MI_0 ht.1 ht.2)
  rcases g1 with ⟨h1, ⟨h2, h3⟩, h4⟩ | ⟨h1, h2, h3, _, h6⟩
  · subst h2; subst h3
    have h4 := h4.resolve_right id
    refine Or.inl ⟨h1, fun a b ha ha2 hb hb2 => ?_, g3, h4⟩
    by_cases e : w (a * 5 + b) = 0
    · exact e
    · exact absurd h4 (g2.2.1 a b ha ha2 hb hb2 (Or.inl ha2) e).1
  · exact Or.inr ⟨row, col, h2, h3, fun a b ha ha2 hb hb2 hn => (g2.2.1 a b ha ha2 hb hb2 (Or.inl ha2) hn).2, h1, g3, h6⟩
end PDB
