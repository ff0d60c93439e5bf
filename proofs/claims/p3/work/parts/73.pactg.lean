section PSO
variable {r q r1 q1 : Nat → Int32} {f f1 : Nat → Nat → Int64} {r' r1' : Nat → Nat} {f' f1' : Nat → Nat → Int64} {q' : Nat → Int32} {R C i n m R2 C2 a b c K : Nat} {g G w v F u : Nat → Int64} {x x' y z p : Int32}
theorem cget0 (ha : a < 4) : D_X3_get r q f i (nI a) 0 = f i (a * 5 + 0) := cget (b := 0) ha (by decide)
theorem cset0 {x : Int64} (ha : a < 4) : D_X3_set r q f i (nI a) 0 x = va_up f i (vp_updL (f i) (a * 5 + 0) x) := cset (b := 0) ha (by decide)
/-- so many on the diagonal -/
theorem crk (h1 : r (2 * 8) = nI R) (h2 : r (2 * 8 + 1) = nI C) (hR : R ≤ 4) (hC : C ≤ 4) (hw : ∀ k, k < 20 → f 8 k = w k) (hk : Rk R C w K) : ∀ m y : Nat, y ≤ R → y ≤ C → R - y < m → D_X1_countRank_4 r q f m (nI y) (nI (min y K)) = nI K := by
  obtain ⟨k1, k2, k3, k4⟩ := hk
  intro m
  induction m with
  | zero => intro y _ _ h; omega
  | succ m ih =>
    intro y hy hyC hm
    rw [D_X1_countRank_4_s, h1, h2]
    by_cases e : R ≤ y
    · rw [if_pos (ile e (by omega)), show min y K = K by omega]
    · rw [if_neg (nile e (by omega))]
      by_cases e2 : C ≤ y
      · rw [if_pos (ile e2 (by omega)), show min y K = K by omega]
      · rw [if_neg (nile e2 (by omega))]
        dsimp only [bnd1]
        rw [cget (by omega) (by omega), hw _ (by omega)]
        by_cases e3 : y < K
        · rw [if_neg (fun z => k3 y e3 (lg0.mp z)), s1, s1, show min y K + 1 = min (y + 1) K by omega]
          exact ih (y + 1) (by omega) (by omega) (by omega)
        · rw [if_pos (lg0.mpr (k4 y (by omega) (by omega) (by omega))), s1, show min y K = min (y + 1) K by omega]
          exact ih (y + 1) (by omega) (by omega) (by omega)
theorem crank (h1 : r (2 * 8) = nI R) (h2 : r (2 * 8 + 1) = nI C) (hR : R ≤ 4) (hC : C ≤ 4) (hw : ∀ k, k < 20 → f 8 k = w k) (hk : Rk R C w K) : D_X1_countRank r q f = nI K := by
  unfold D_X1_countRank
  have e := crk (q := q) h1 h2 hR hC hw hk (R - 0 + 1) 0 (by omega) (by omega) (by omega)
  rw [show min 0 K = 0 by omega] at e
  rw [h1, show gap (nI R) 0 = R - 0 from gapN (b := 0) (by omega) (by omega)]
  exact e
/-- a row of the equation goes -/
def okw (w F : Nat → Int64) (K y : Nat) : Prop := if K ≤ y then F (y * 5 + 0) = 0 else F (y * 5 + 0) - F (y * 5 + 0) / w (y * 5 + y) * w (y * 5 + y) = 0
/-- the shares so far -/
def sd (w F : Nat → Int64) (K y : Nat) (u : Nat → Int64) : Nat → Int64 := fun k => if k % 5 = 0 ∧ k / 5 < y ∧ k / 5 < K then F (k / 5 * 5 + 0) / w (k / 5 * 5 + k / 5) else u k
theorem sd_s (hy : a < K) : vp_updL (sd w F K a u) (a * 5 + 0) (F (a * 5 + 0) / w (a * 5 + a)) = sd w F K (a + 1) u := by
  funext k
  unfold vp_updL sd
  by_cases e : k = a * 5 + 0
  · subst e; rw [if_pos rfl, if_pos (by omega), show (a * 5 + 0) / 5 = a by omega]
  · rw [if_neg e]
    by_cases h : k % 5 = 0 ∧ k / 5 < a ∧ k / 5 < K
    · rw [if_pos h, if_pos (by omega)]
    · rw [if_neg h, if_neg (by omega)]
theorem sd_k (hy : K ≤ a) : sd w F K a u = sd w F K (a + 1) u := by
  funext k
  unfold sd
  by_cases h : k % 5 = 0 ∧ k / 5 < a ∧ k / 5 < K
  · rw [if_pos h, if_pos (by omega)]
  · rw [if_neg h, if_neg (by omega)]
theorem sd0 : sd w F K 0 u = u := by funext k; unfold sd; rw [if_neg (by omega)]
theorem rgo_l : ∀ m y : Nat, y ≤ R → R - y < m → ((∀ j, y ≤ j → j < R → okw w F K j) ∧ D_X10_goes_2 w K R F m y = 1) ∨ ((∃ j, j < R ∧ ¬ okw w F K j) ∧ D_X10_goes_2 w K R F m y = 0) := by
  intro m
  induction m with
  | zero => intro y _ h; omega
  | succ m ih =>
    intro y hy hm
    rw [D_X10_goes_2_s]
    by_cases e : R ≤ y
    · rw [if_pos e]
      exact Or.inl ⟨fun j _ _ => by omega, rfl⟩
    · rw [if_neg e]
      have hstep : okw w F K y → ((∀ j, y ≤ j → j < R → okw w F K j) ∧ D_X10_goes_2 w K R F m (y + 1) = 1) ∨ ((∃ j, j < R ∧ ¬ okw w F K j) ∧ D_X10_goes_2 w K R F m (y + 1) = 0) := by
        intro hok
        rcases ih (y + 1) (by omega) (by omega) with ⟨h1, h2⟩ | h
        · refine Or.inl ⟨fun j h3 h4 => ?_, h2⟩
          by_cases ej : j = y
          · rw [ej]; exact hok
          · exact h1 j (by omega) h4
        · exact Or.inr h
      by_cases c : K ≤ y
      · rw [if_pos c]
        by_cases z : F (y * 5 + 0) = 0
        · rw [if_pos (lg0.mpr z)]
          exact hstep (by unfold okw; rw [if_pos c]; exact z)
        · rw [if_neg (fun h => z (lg0.mp h))]
          exact Or.inr ⟨⟨y, by omega, by unfold okw; rw [if_pos c]; exact z⟩, rfl⟩
      · rw [if_neg c]
        by_cases z : F (y * 5 + 0) - F (y * 5 + 0) / w (y * 5 + y) * w (y * 5 + y) = 0
        · rw [if_pos (lg0.mpr z)]
          exact hstep (by unfold okw; rw [if_neg c]; exact z)
        · rw [if_neg (fun h => z (lg0.mp h))]
          exact Or.inr ⟨⟨y, by omega, by unfold okw; rw [if_neg c]; exact z⟩, rfl⟩
theorem rgo {s t : Int32} {d : Int32} : ((∀ j, j < R → okw w F K j) ∧ D_X10_goes R C w K s t d R 1 F = 1) ∨ ((∃ j, j < R ∧ ¬ okw w F K j) ∧ D_X10_goes R C w K s t d R 1 F = 0) := by
  rcases rgo_l (R := R) (w := w) (F := F) (K := K) (R + 1 - 0 + 1) 0 (by omega) (by omega) with ⟨h1, h2⟩ | h
  · exact Or.inl ⟨fun j hj => h1 j (by omega) hj, h2⟩
  · exact Or.inr h
theorem fdv_ex {x y : Int64} (h : x - x / y * y = 0) : fdv x y = x / y := by
  have e : x / y * y = x := by
    have := congrArg (fun z => z + x / y * y) h
    simp only [Int64.sub_add_cancel, Int64.zero_add] at this
    exact this.symm
  unfold fdv
  split
  · rfl
  · rw [e, if_pos (lgE.mpr rfl)]
theorem div0 {o x : Int64} (ho : o = 0) : D_X5_divides o x = if lg_cmp x 0 = 0 then 1 else 0 := by
  unfold D_X5_divides
  exact if_pos (lg0.mpr ho)
theorem divz {o x : Int64} (ho : ¬ o = 0) : D_X5_divides o x = if lg_cmp (x - x / o * o) 0 = 0 then 1 else 0 := by
  unfold D_X5_divides
  exact if_neg (fun h => ho (lg0.mp h))
theorem bnd1_e {α β : Type} {p : α} {k : α → β} : bnd1 p k = k p := rfl
theorem cdv_l (h12 : r (2 * 12) = nI R) (hR : R ≤ 4) (hK : K ≤ 4) (hF : ∀ j, j < R → f 12 (j * 5 + 0) = F (j * 5 + 0)) (hw : ∀ j, j < R → f 8 (j * 5 + j) = w (j * 5 + j)) (hnz : ∀ j, j < K → ¬ w (j * 5 + j) = 0) : ∀ m y : Nat, y ≤ R → R - y < m → ((∀ j, y ≤ j → j < R → okw w F K j) ∧ D_X2_divide_48 r q (nI K) m (nI y) (va_up f 13 (sd w F K y u)) = (1, r, q, va_up f 13 (sd w F K R u))) ∨ ((∃ j, j < R ∧ ¬ okw w F K j) ∧ ∃ g, D_X2_divide_48 r q (nI K) m (nI y) (va_up f 13 (sd w F K y u)) = (0, r, q, va_up f 13 g)) := by
  intro m
  induction m with
  | zero => intro y _ h; omega
  | succ m ih =>
    intro y hy hm
    rw [D_X2_divide_48_s, h12]
    by_cases e : R ≤ y
    · rw [if_pos (ile e (by omega)), show y = R by omega]
      exact Or.inl ⟨fun j _ _ => by omega, rfl⟩
    · rw [if_neg (nile e (by omega))]
      have hstep : okw w F K y → ((∀ j, y ≤ j → j < R → okw w F K j) ∧ D_X2_divide_48 r q (nI K) m (nI (y + 1)) (va_up f 13 (sd w F K (y + 1) u)) = (1, r, q, va_up f 13 (sd w F K R u))) ∨ ((∃ j, j < R ∧ ¬ okw w F K j) ∧ ∃ g, D_X2_divide_48 r q (nI K) m (nI (y + 1)) (va_up f 13 (sd w F K (y + 1) u)) = (0, r, q, va_up f 13 g)) := by
        intro hok
        rcases ih (y + 1) (by omega) (by omega) with ⟨h1, h2⟩ | h
        · refine Or.inl ⟨fun j h3 h4 => ?_, h2⟩
          by_cases ej : j = y
          · rw [ej]; exact hok
          · exact h1 j (by omega) h4
        · exact Or.inr h
      by_cases c : K ≤ y
      · rw [if_pos (ile c (by omega))]
        unfold D_X2_divide_j82
        dsimp only [bnd1]
        rw [cget0 (show y < 4 by omega), vu_ne (show (12 : Nat) ≠ 13 by decide), hF y (by omega), div0 rfl]
        by_cases z : F (y * 5 + 0) = 0
        · rw [if_pos (lg0.mpr z), if_neg one0, if_pos (ile c (by omega)), s1, sd_k c]
          exact hstep (by unfold okw; rw [if_pos c]; exact z)
        · rw [if_neg (fun h => z (lg0.mp h)), if_pos rfl]
          exact Or.inr ⟨⟨y, by omega, by unfold okw; rw [if_pos c]; exact z⟩, _, rfl⟩
      · rw [if_neg (nile c (by omega))]
        have hn := hnz y (by omega)
        rw [bnd1_e, cget (show y < 4 by omega) (show y < 5 by omega), vu_ne (show (8 : Nat) ≠ 13 by decide), hw y (by omega)]
        unfold D_X2_divide_j82
        dsimp only [bnd1]
        rw [cget0 (show y < 4 by omega), vu_ne (show (12 : Nat) ≠ 13 by decide), hF y (by omega), divz hn]
        by_cases z : F (y * 5 + 0) - F (y * 5 + 0) / w (y * 5 + y) * w (y * 5 + y) = 0
        · rw [if_pos (lg0.mpr z), if_neg one0, if_neg (nile c (by omega)), cdd hn, fdv_ex z, cset0 (by omega), vu_self, vu2, sd_s (by omega), s1]
          exact hstep (by unfold okw; rw [if_neg c]; exact z)
        · rw [if_neg (fun h => z (lg0.mp h)), if_pos rfl]
          exact Or.inr ⟨⟨y, by omega, by unfold okw; rw [if_neg c]; exact z⟩, _, rfl⟩
/-- the equation of a table that stands in steps, and one column -/
theorem div_eq (hb : 1 ≤ R ∧ R ≤ 4 ∧ 1 ≤ C ∧ C ≤ 4) (h8 : r (2 * 8) = nI R ∧ r (2 * 8 + 1) = nI C) (h9 : r (2 * 9) = nI R ∧ r (2 * 9 + 1) = nI R) (hm : r (2 * m) = nI R) (hm4 : m < 4) (hw : ∀ k, k < 20 → f 8 k = w k) (hv : ∀ k, k < 20 → f 9 k = v k) (hg : ∀ k, k < R * 5 → f m k = g k) (hb5 : b < 5) (hk : Rk R C w K) :
    ∃ r4 f4, (∀ i, i < 11 → r4 (2 * i) = r (2 * i) ∧ r4 (2 * i + 1) = r (2 * i + 1)) ∧ (∀ i, i < 11 → f4 i = f i) ∧ (r4 (2 * 13) = nI C ∧ r4 (2 * 13 + 1) = nI 1) ∧ (((∀ j, j < R → okw w (pd R R 0 1 v (co R b g (fun _ => 0)) (fun _ => 0)) K j) ∧ D_X2_divide r q f m (nI b) = (1, r4, q, f4) ∧ ∀ k, k < 20 → f4 13 k = sd w (pd R R 0 1 v (co R b g (fun _ => 0)) (fun _ => 0)) K K (fun _ => 0) k) ∨ ((∃ j, j < R ∧ ¬ okw w (pd R R 0 1 v (co R b g (fun _ => 0)) (fun _ => 0)) K j) ∧ D_X2_divide r q f m (nI b) = (0, r4, q, f4))) := by
  unfold D_X2_divide
  rw [cbc (by omega) hm hb.1 hb.2.1 hb5]
  dsimp only [bnd3, bnd1]
  rw [cbp (Rj := R) (Cj := R) (Ck := 1) (by omega) (by omega) ((rs_R' (by decide)).trans h9.1) ((rs_C' (by decide)).trans h9.2) rs_C hb.1 hb.2.1 (by omega) (by omega) hb.2.1]
  dsimp only
  have e17 : (rs (rs r 11 R 1) 12 R 1) (2 * 8 + 1) = nI C := (rs_C' (by decide)).trans ((rs_C' (by decide)).trans h8.2)
  rw [e17, show (1 : Int32) = nI 1 from rfl, crs hb.2.2.1 hb.2.2.2 (by omega) (by omega)]
  dsimp only
  have hf8 : ∀ {A B D : Nat → Int64}, (va_up (va_up (va_up f 11 A) 12 B) 13 D) 8 = f 8 := fun {A B D} => (vu_ne (by decide)).trans ((vu_ne (by decide)).trans (vu_ne (by decide)))
  rw [crank (r := rs (rs (rs r 11 R 1) 12 R 1) 13 C 1) (K := K) (w := w) ((rs_R' (by decide)).trans ((rs_R' (by decide)).trans ((rs_R' (by decide)).trans h8.1))) ((rs_C' (by decide)).trans e17) hb.2.1 hb.2.2.2 (fun k hk => by rw [hf8]; exact hw k hk) hk]
  have h12 : (rs (rs (rs r 11 R 1) 12 R 1) 13 C 1) (2 * 12) = nI R := (rs_R' (by decide)).trans rs_R
  rw [h12, show gap (nI R) 0 = R - 0 from gapN (b := 0) (by omega) (by omega), vu_self, vu_ne (show (9 : Nat) ≠ 11 by decide)]
  have hF : ∀ j, j < R → (va_up (va_up f 11 (co R b (f m) (zf 20 (f 11)))) 12 (pd R R 0 1 (f 9) (co R b (f m) (zf 20 (f 11))) (zf 20 (va_up f 11 (co R b (f m) (zf 20 (f 11))) 12)))) 12 (j * 5 + 0) = pd R R 0 1 v (co R b g (fun _ => 0)) (fun _ => 0) (j * 5 + 0) := by
    intro j hj
    rw [vu_self, pd_p (by omega), pd_p (by omega)]
    refine dot_cg _ (fun k hk => hv _ (by omega)) (fun k hk => ?_)
    unfold co
    rw [if_pos (by omega), if_pos (by omega)]
    exact hg _ (by omega)
  have hL := cdv_l (r := rs (rs (rs r 11 R 1) 12 R 1) 13 C 1) (q := q) (K := K) (w := w) (F := pd R R 0 1 v (co R b g (fun _ => 0)) (fun _ => 0)) (u := zf 20 ((va_up (va_up f 11 (co R b (f m) (zf 20 (f 11)))) 12 (pd R R 0 1 (f 9) (co R b (f m) (zf 20 (f 11))) (zf 20 (va_up f 11 (co R b (f m) (zf 20 (f 11))) 12)))) 13)) h12 hb.2.1 (by have := hk.1; omega) hF (fun j hj => by rw [vu_ne (show (8 : Nat) ≠ 12 by decide), vu_ne (show (8 : Nat) ≠ 11 by decide)]; exact hw _ (by omega)) hk.2.2.1 (R - 0 + 1) 0 (by omega) (by omega)
  rw [sd0] at hL
  rcases hL with ⟨l1, l2⟩ | ⟨l1, g2, l2⟩
  · refine ⟨_, _, fun i hi => ⟨(rs_R' (by omega)).trans ((rs_R' (by omega)).trans (rs_R' (by omega))), (rs_C' (by omega)).trans ((rs_C' (by omega)).trans (rs_C' (by omega)))⟩, ?_, ⟨rs_R, rs_C⟩, Or.inl ⟨fun j hj => l1 j (by omega) hj, l2, ?_⟩⟩
    · intro i hi
      rw [vu_ne (by omega), vu_ne (by omega), vu_ne (by omega)]
    · intro k hk2
      rw [vu_self]
      unfold sd
      have := hk.1
      by_cases e : k % 5 = 0 ∧ k / 5 < K
      · rw [if_pos (by omega), if_pos (by omega)]
      · rw [if_neg (by omega), if_neg (by omega)]
        exact if_pos hk2
  · refine ⟨_, _, fun i hi => ⟨(rs_R' (by omega)).trans ((rs_R' (by omega)).trans (rs_R' (by omega))), (rs_C' (by omega)).trans ((rs_C' (by omega)).trans (rs_C' (by omega)))⟩, ?_, ⟨rs_R, rs_C⟩, Or.inr ⟨l1, l2⟩⟩
    intro i hi
    rw [vu_ne (by omega), vu_ne (by omega), vu_ne (by omega)]
end PSO
