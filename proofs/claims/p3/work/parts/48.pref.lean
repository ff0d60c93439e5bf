/-! ===== The reference's grids: what their methods answer, plainly ===== -/
section PRG
variable {R C Ro Co a b : Nat} {f g fo : Nat → Int64}
theorem rcp_l : ∀ n y : Nat, y ≤ R * 5 → R * 5 - y < n → D_X7_copy_18 R f n y (cp y f (fun _ => 0)) = cp (R * 5) f (fun _ => 0) := by
  intro n
  induction n with
  | zero => intro y _ h; omega
  | succ n ih =>
    intro y hy hn
    rw [D_X7_copy_18_s]
    by_cases e : R * 5 ≤ y
    · rw [if_pos e, show y = R * 5 by omega]
    · rw [if_neg e, cp_s]
      exact ih (y + 1) (by omega) (by omega)
theorem rcp : D_X7_copy R C f = cp (R * 5) f (fun _ => 0) := by
  have h := rcp_l (R := R) (f := f) (R * 5 + 1 - 0 + 1) 0 (by omega) (by omega)
  rw [cp0] at h
  exact h
theorem run_l {m : Nat} : ∀ n y : Nat, y ≤ m → m - y < n → D_X7_unit_12 m n y (un y (fun _ => 0)) = un m (fun _ => 0) := by
  intro n
  induction n with
  | zero => intro y _ h; omega
  | succ n ih =>
    intro y hy hn
    rw [D_X7_unit_12_s]
    by_cases e : m ≤ y
    · rw [if_pos e, show y = m by omega]
    · rw [if_neg e, un_s]
      exact ih (y + 1) (by omega) (by omega)
theorem run {m : Nat} : D_X7_unit m = un m (fun _ => 0) := by
  have h := run_l (m := m) (m + 1 - 0 + 1) 0 (by omega) (by omega)
  rw [un0] at h
  exact h
theorem rig_l : ∀ n y : Nat, y ≤ R * 5 → R * 5 - y < n → ((∀ k, y ≤ k → k < R * 5 → ng (f k)) ∧ D_X7_isGreat_10 R f n y = 0) ∨ ((∃ k, k < R * 5 ∧ ¬ ng (f k)) ∧ D_X7_isGreat_10 R f n y = 1) := by
  intro n
  induction n with
  | zero => intro y _ h; omega
  | succ n ih =>
    intro y hy hn
    rw [D_X7_isGreat_10_s]
    by_cases e : R * 5 ≤ y
    · rw [if_pos e]; exact Or.inl ⟨fun k h1 h2 => absurd h2 (by omega), rfl⟩
    · rw [if_neg e]
      by_cases e1 : 0 < lg_cmp (f y) 1000000000
      · rw [if_pos e1]
        exact Or.inr ⟨⟨y, by omega, fun h => absurd ((lg_cmp_gt _ _).mp e1) (Int64.not_lt.mpr h.2)⟩, rfl⟩
      · rw [if_neg e1]
        by_cases e2 : 0 ≤ lg_cmp (f y) (-1000000000)
        · rw [if_pos e2]
          rcases ih (y + 1) (by omega) (by omega) with ⟨h1, h2⟩ | h
          · refine Or.inl ⟨fun k h3 h4 => ?_, h2⟩
            by_cases e3 : k = y
            · subst e3; exact ng_of e1 e2
            · exact h1 k (by omega) h4
          · exact Or.inr h
        · rw [if_neg e2]
          exact Or.inr ⟨⟨y, by omega, fun h => e2 ((lg_cmp_ge _ _).mpr h.1)⟩, rfl⟩
theorem rig : ((∀ k, k < R * 5 → ng (f k)) ∧ D_X7_isGreat R C f = 0) ∨ ((∃ k, k < R * 5 ∧ ¬ ng (f k)) ∧ D_X7_isGreat R C f = 1) := by
  rcases rig_l (R := R) (f := f) (R * 5 + 1 - 0 + 1) 0 (by omega) (by omega) with ⟨h1, h2⟩ | h
  · exact Or.inl ⟨fun k hk => h1 k (Nat.zero_le _) hk, h2⟩
  · exact Or.inr h
theorem ril_l : ∀ n y : Nat, y ≤ R * 5 → R * 5 - y < n → ((∀ k, y ≤ k → k < R * 5 → sm (f k)) ∧ D_X7_isLet_10 R f n y = 1) ∨ ((∃ k, k < R * 5 ∧ ¬ sm (f k)) ∧ D_X7_isLet_10 R f n y = 0) := by
  intro n
  induction n with
  | zero => intro y _ h; omega
  | succ n ih =>
    intro y hy hn
    rw [D_X7_isLet_10_s]
    by_cases e : R * 5 ≤ y
    · rw [if_pos e]; exact Or.inl ⟨fun k h1 h2 => absurd h2 (by omega), rfl⟩
    · rw [if_neg e]
      by_cases e1 : 0 < lg_cmp (f y) 20
      · rw [if_pos e1]
        exact Or.inr ⟨⟨y, by omega, fun h => absurd ((lg_cmp_gt _ _).mp e1) (Int64.not_lt.mpr h.2)⟩, rfl⟩
      · rw [if_neg e1]
        by_cases e2 : 0 ≤ lg_cmp (f y) (-20)
        · rw [if_pos e2]
          rcases ih (y + 1) (by omega) (by omega) with ⟨h1, h2⟩ | h
          · refine Or.inl ⟨fun k h3 h4 => ?_, h2⟩
            by_cases e3 : k = y
            · subst e3; exact sm_of e1 e2
            · exact h1 k (by omega) h4
          · exact Or.inr h
        · rw [if_neg e2]
          exact Or.inr ⟨⟨y, by omega, fun h => e2 ((lg_cmp_ge _ _).mpr h.1)⟩, rfl⟩
theorem ril : ((∀ k, k < R * 5 → sm (f k)) ∧ D_X7_isLet R C f = 1) ∨ ((∃ k, k < R * 5 ∧ ¬ sm (f k)) ∧ D_X7_isLet R C f = 0) := by
  rcases ril_l (R := R) (f := f) (R * 5 + 1 - 0 + 1) 0 (by omega) (by omega) with ⟨h1, h2⟩ | h
  · exact Or.inl ⟨fun k hk => h1 k (Nat.zero_le _) hk, h2⟩
  · exact Or.inr h
theorem rot_l : ∀ n y : Nat, y ≤ R * 5 → R * 5 - y < n → D_X7_others_13 R f n y (cnt y (nzb f)) = nI (cnt (R * 5) (nzb f)) := by
  intro n
  induction n with
  | zero => intro y _ h; omega
  | succ n ih =>
    intro y hy hn
    rw [D_X7_others_13_s]
    by_cases e : R * 5 ≤ y
    · rw [if_pos e, show y = R * 5 by omega]
    · rw [if_neg e]
      by_cases e2 : f y = 0
      · rw [if_pos (lgE.mpr e2), show cnt y (nzb f) + 0 = cnt (y + 1) (nzb f) by rw [cnt_s]; simp [nzb, e2]]
        exact ih (y + 1) (by omega) (by omega)
      · rw [if_neg (fun h => e2 (lgE.mp h)), show cnt y (nzb f) + 1 = cnt (y + 1) (nzb f) by rw [cnt_s]; simp [nzb, e2]]
        exact ih (y + 1) (by omega) (by omega)
theorem rot : D_X7_others R C f = nI (cnt (R * 5) (nzb f)) := rot_l (R * 5 + 1 - 0 + 1) 0 (by omega) (by omega)
theorem rul_l : ∀ n y : Nat, y ≤ R * 5 → R * 5 - y < n → D_X7_unlike_4 R f fo n y (cnt y (neb f fo)) = nI (cnt (R * 5) (neb f fo)) := by
  intro n
  induction n with
  | zero => intro y _ h; omega
  | succ n ih =>
    intro y hy hn
    rw [D_X7_unlike_4_s]
    by_cases e : R * 5 ≤ y
    · rw [if_pos e, show y = R * 5 by omega]
    · rw [if_neg e]
      by_cases e2 : f y = fo y
      · rw [if_pos (lgE.mpr e2), show cnt y (neb f fo) + 0 = cnt (y + 1) (neb f fo) by rw [cnt_s]; simp [neb, e2]]
        exact ih (y + 1) (by omega) (by omega)
      · rw [if_neg (fun h => e2 (lgE.mp h)), show cnt y (neb f fo) + 1 = cnt (y + 1) (neb f fo) by rw [cnt_s]; simp [neb, e2]]
        exact ih (y + 1) (by omega) (by omega)
theorem rul : D_X7_unlike R C f Ro Co fo = nI (cnt (R * 5) (neb f fo)) := rul_l (R * 5 + 1 - 0 + 1) 0 (by omega) (by omega)
theorem ris_l : ∀ n y : Nat, y ≤ R * 5 → R * 5 - y < n → ((∀ k, y ≤ k → k < R * 5 → f k = fo k) ∧ D_X7_isSame_26 R f fo n y = 1) ∨ ((∃ k, k < R * 5 ∧ ¬ f k = fo k) ∧ D_X7_isSame_26 R f fo n y = 0) := by
  intro n
  induction n with
  | zero => intro y _ h; omega
  | succ n ih =>
    intro y hy hn
    rw [D_X7_isSame_26_s]
    by_cases e : R * 5 ≤ y
    · rw [if_pos e]; exact Or.inl ⟨fun k h1 h2 => absurd h2 (by omega), rfl⟩
    · rw [if_neg e]
      by_cases e1 : f y = fo y
      · rw [if_pos (lgE.mpr e1)]
        rcases ih (y + 1) (by omega) (by omega) with ⟨h1, h2⟩ | h
        · refine Or.inl ⟨fun k h3 h4 => ?_, h2⟩
          by_cases e3 : k = y
          · subst e3; exact e1
          · exact h1 k (by omega) h4
        · exact Or.inr h
      · rw [if_neg (fun h => e1 (lgE.mp h))]
        exact Or.inr ⟨⟨y, by omega, e1⟩, rfl⟩
theorem ris : (D_X7_isSame R C f Ro Co fo = 1 ∧ R = Ro ∧ C = Co ∧ ∀ k, k < R * 5 → f k = fo k) ∨ (D_X7_isSame R C f Ro Co fo = 0 ∧ ¬ (R = Ro ∧ C = Co ∧ ∀ k, k < R * 5 → f k = fo k)) := by
  unfold D_X7_isSame
  by_cases e1 : R = Ro
  · rw [if_pos e1]
    by_cases e2 : C = Co
    · rw [if_pos e2]
      rcases ris_l (R := R) (f := f) (fo := fo) (R * 5 + 1 - 0 + 1) 0 (by omega) (by omega) with ⟨h1, h2⟩ | ⟨⟨k, h1, h2⟩, h3⟩
      · exact Or.inl ⟨h2, e1, e2, fun k hk => h1 k (Nat.zero_le _) hk⟩
      · exact Or.inr ⟨h3, fun h => h2 (h.2.2 k h1)⟩
    · rw [if_neg e2]; exact Or.inr ⟨rfl, fun h => e2 h.2.1⟩
  · rw [if_neg e1]; exact Or.inr ⟨rfl, fun h => e1 h.1⟩
theorem rpd_k {lb : Nat → (Nat → Int64) → Nat → Int64} : ∀ n y : Nat, y ≤ C → C - y < n → D_X7_product_44 C f fo a lb b g n y (dot y f fo a b) = lb (b + 1) (vp_updL g (a * 5 + b) (dot C f fo a b)) := by
  intro n
  induction n with
  | zero => intro y _ h; omega
  | succ n ih =>
    intro y hy hn
    rw [D_X7_product_44_s]
    by_cases e : C ≤ y
    · rw [if_pos e, show y = C by omega]
    · rw [if_neg e, ← dot_s]
      exact ih (y + 1) (by omega) (by omega)
theorem rpd_in {lb : Nat → (Nat → Int64) → Nat → Int64} (h5 : Co ≤ 5) {u : Nat → Int64} : ∀ n y : Nat, y ≤ Co → Co - y < n → D_X7_product_29 C f Co fo lb a n y (pd C a y Co f fo u) = lb (a + 1) (pd C (a + 1) 0 Co f fo u) := by
  intro n
  induction n with
  | zero => intro y _ h; omega
  | succ n ih =>
    intro y hy hn
    rw [D_X7_product_29_s]
    by_cases e : Co ≤ y
    · rw [if_pos e, show y = Co by omega, pd_r]
    · rw [if_neg e]
      have h := rpd_k (C := C) (f := f) (fo := fo) (a := a) (b := y) (g := pd C a y Co f fo u) (lb := D_X7_product_29 C f Co fo lb a n) (C + 1 - 0 + 1) 0 (by omega) (by omega)
      rw [show dot 0 f fo a y = 0 from rfl] at h
      rw [h, pd_s (by omega) h5]
      exact ih (y + 1) (by omega) (by omega)
theorem rpd_l (h5 : Co ≤ 5) {u : Nat → Int64} : ∀ n y : Nat, y ≤ R → R - y < n → D_X7_product_18 R C f Co fo n y (pd C y 0 Co f fo u) = pd C R 0 Co f fo u := by
  intro n
  induction n with
  | zero => intro y _ h; omega
  | succ n ih =>
    intro y hy hn
    rw [D_X7_product_18_s]
    by_cases e : R ≤ y
    · rw [if_pos e, show y = R by omega]
    · rw [if_neg e, rpd_in h5 (Co + 1 - 0 + 1) 0 (by omega) (by omega)]
      exact ih (y + 1) (by omega) (by omega)
theorem rpd (h5 : Co ≤ 5) : D_X7_product R C f Ro Co fo = pd C R 0 Co f fo (fun _ => 0) := by
  have h := rpd_l (R := R) (C := C) (f := f) (fo := fo) h5 (u := fun _ => 0) (R + 1 - 0 + 1) 0 (by omega) (by omega)
  rw [pd0] at h
  exact h
/-- rows become columns, so far -/
def fl (a b c : Nat) (g h : Nat → Int64) : Nat → Int64 := fun k => if (k % 5 < a ∧ k / 5 < c) ∨ (k % 5 = a ∧ k / 5 < b) then g (k % 5 * 5 + k / 5) else h k
theorem fl_s {g h : Nat → Int64} {c : Nat} (ha : a < 5) (hb : b < c) : vp_updL (fl a b c g h) (b * 5 + a) (g (a * 5 + b)) = fl a (b + 1) c g h := by
  funext k
  unfold vp_updL fl
  by_cases e : k = b * 5 + a
  · subst e; rw [if_pos rfl, if_pos (by omega)]; congr 1; omega
  · rw [if_neg e]
    by_cases h : (k % 5 < a ∧ k / 5 < c) ∨ (k % 5 = a ∧ k / 5 < b)
    · rw [if_pos h, if_pos (by omega)]
    · rw [if_neg h, if_neg (by omega)]
theorem fl_r {g h : Nat → Int64} {c : Nat} : fl a c c g h = fl (a + 1) 0 c g h := by
  funext k
  unfold fl
  by_cases e : (k % 5 < a ∧ k / 5 < c) ∨ (k % 5 = a ∧ k / 5 < c)
  · rw [if_pos e, if_pos (by omega)]
  · rw [if_neg e, if_neg (by omega)]
theorem fl0 {g h : Nat → Int64} {c : Nat} : fl 0 0 c g h = h := by funext k; unfold fl; rw [if_neg (by omega)]
theorem rfl_in {lb : Nat → (Nat → Int64) → Nat → Int64} (ha : a < 5) {u : Nat → Int64} : ∀ n y : Nat, y ≤ Co → Co - y < n → D_X10_flipped_28 Co fo lb a n y (fl a y Co fo u) = lb (a + 1) (fl (a + 1) 0 Co fo u) := by
  intro n
  induction n with
  | zero => intro y _ h; omega
  | succ n ih =>
    intro y hy hn
    rw [D_X10_flipped_28_s]
    by_cases e : Co ≤ y
    · rw [if_pos e, show y = Co by omega, fl_r]
    · rw [if_neg e, fl_s ha (by omega)]
      exact ih (y + 1) (by omega) (by omega)
theorem rfl_l (h4 : Ro ≤ 4) {u : Nat → Int64} : ∀ n y : Nat, y ≤ Ro → Ro - y < n → D_X10_flipped_18 Ro Co fo n y (fl y 0 Co fo u) = fl Ro 0 Co fo u := by
  intro n
  induction n with
  | zero => intro y _ h; omega
  | succ n ih =>
    intro y hy hn
    rw [D_X10_flipped_18_s]
    by_cases e : Ro ≤ y
    · rw [if_pos e, show y = Ro by omega]
    · rw [if_neg e, rfl_in (by omega) (Co + 1 - 0 + 1) 0 (by omega) (by omega)]
      exact ih (y + 1) (by omega) (by omega)
theorem rflp (h4 : Ro ≤ 4) : D_X10_flipped Ro Co fo = fl Ro 0 Co fo (fun _ => 0) := by
  have h := rfl_l (Ro := Ro) (Co := Co) (fo := fo) h4 (u := fun _ => 0) (Ro + 1 - 0 + 1) 0 (by omega) (by omega)
  rw [fl0] at h
  exact h
theorem rco_l {c0 : Nat} : ∀ n y : Nat, y ≤ Ro → Ro - y < n → D_X10_column_21 Ro fo c0 n y (co y c0 fo (fun _ => 0)) = co Ro c0 fo (fun _ => 0) := by
  intro n
  induction n with
  | zero => intro y _ h; omega
  | succ n ih =>
    intro y hy hn
    rw [D_X10_column_21_s]
    by_cases e : Ro ≤ y
    · rw [if_pos e, show y = Ro by omega]
    · rw [if_neg e, co_s]
      exact ih (y + 1) (by omega) (by omega)
theorem rco {p q s t : Int32} {y : Int32} {c0 : Nat} : D_X10_column p q s t Ro Co fo y c0 = co Ro c0 fo (fun _ => 0) := by
  have h := rco_l (Ro := Ro) (fo := fo) (c0 := c0) (Ro + 1 - 0 + 1) 0 (by omega) (by omega)
  rw [co0] at h
  exact h
end PRG
