/-! ===== Determinants of both sides are the same ===== -/
section PDT
variable {r q : Nat → Int32} {f : Nat → Nat → Int64} {i R C x y : Nat} {F G : Nat → Int64}
theorem and1 (t : Int32) : t &&& 1 = 0 ∨ t &&& 1 = 1 := by
  have h : (t &&& 1).toBitVec.toNat = t.toBitVec.toNat % 2 := by
    show (t.toBitVec &&& 1#32).toNat = _
    rw [BitVec.toNat_and]
    exact Nat.and_one_is_mod _
  rcases Nat.mod_two_eq_zero_or_one t.toBitVec.toNat with e | e
  · exact Or.inl (Int32.toBitVec_inj.mp (BitVec.eq_of_toNat_eq (by rw [h, e]; rfl)))
  · exact Or.inr (Int32.toBitVec_inj.mp (BitVec.eq_of_toNat_eq (by rw [h, e]; rfl)))
theorem zero1 : ¬ (0 : Int32) = 1 := by decide
theorem bsq_0 (h1 : r (2 * i) = nI R) (hR : R ≤ 4) (h : 4 ≤ R) {y : Int32} : D_X0_bySequences_0 r q f i (nI 4) y = bsv R C G 0 4 y := by
  unfold D_X0_bySequences_0
  rw [h1, if_pos (ile hR (by decide))]
  show (1 : Int64) = if 4 = R then 1 else default
  rw [if_pos (by omega)]
theorem bsl_1 (hR : R ≤ 4) (hrho : 3 < R) (h2 : r (2 * i + 1) = nI C) (hC : C ≤ 5) (hG : ∀ j, j < R * 5 → f i j = G j) (hr : ∀ y : Int32, D_X0_bySequences_0 r q f i (nI 3 + 1) y = bsv R C G 0 (3 + 1) y) {y : Int32} : ∀ n1 n2 j : Nat, ∀ s : Int64, j ≤ C → C - j < n1 → C - j < n2 → D_X0_bySequences_1_20 r q f i (nI 3) y n1 (nI j) s = D_bs_step_15 C G 3 y (bsv R C G 0) n2 j s := by
  intro n1
  induction n1 with
  | zero => intro n2 j s _ h; omega
  | succ n1 ih =>
    intro n2 j s hj h3 h4
    obtain ⟨n2, rfl⟩ : ∃ m, n2 = m + 1 := ⟨n2 - 1, by omega⟩
    rw [D_X0_bySequences_1_20_s, D_bs_step_15_s, h2]
    by_cases e : C ≤ j
    · rw [if_pos (ile e (by omega)), if_pos e]
    · rw [if_neg (nile e (by omega)), if_neg e]
      rcases and1 (y >>> (nI j &&& 31)) with b | b
      · rw [b, if_pos (show (0 : Int32) = 0 from rfl), if_neg zero1, bnd1_e, bnd1_e, cget (show 3 < 4 by decide) (show j < 5 by omega), hG (3 * 5 + j) (by omega), hr]
        dsimp only [nm]
        rw [s1]
        by_cases c : bcE (y >>> (nI (j + 1) &&& 31)) - bcE (y >>> (nI (j + 1) &&& 31)) / 2 * 2 = 0
        · rw [if_pos c, if_pos c, D_X0_bySequences_1_j80_s, if_pos rfl, D_bs_step_j56_s, t64a, s1, Int64.one_mul]
          exact ih n2 (j + 1) _ (by omega) (by omega) (by omega)
        · have hm : ∀ g k : Int64, (-1 : Int64) * g * k = -(g * k) := fun g k => by grind
          rw [if_neg c, if_neg c, D_X0_bySequences_1_j80_s, if_neg one0, D_bs_step_j56_s, t64b, s1, hm]
          exact ih n2 (j + 1) _ (by omega) (by omega) (by omega)
      · rw [b, if_neg one0, if_pos (show (1 : Int32) = 1 from rfl), s1]
        exact ih n2 (j + 1) _ (by omega) (by omega) (by omega)
theorem bsq_1 (h1 : r (2 * i) = nI R) (h2 : r (2 * i + 1) = nI C) (hR : R ≤ 4) (hC : C ≤ 5) (hG : ∀ j, j < R * 5 → f i j = G j) (h : 3 ≤ R) {y : Int32} : D_X0_bySequences_1 r q f i (nI 3) y = bsv R C G 1 3 y := by
  unfold D_X0_bySequences_1
  show _ = D_bs_step R C G 3 y (bsv R C G 0)
  rw [D_bs_step_s, h1]
  by_cases e : 3 = R
  · rw [if_pos (ile (by omega) (by decide)), if_pos e]
  · rw [if_neg (nile (by omega) (by omega)), if_neg e, if_pos (show nI 3 < (4 : Int32) by decide), h2, show gap (nI C) 0 = C - 0 from gapN (b := 0) (by omega) (by omega)]
    exact bsl_1 hR (by omega) h2 hC hG (fun y => by rw [s1]; exact bsq_0 h1 hR (by omega)) (C - 0 + 1) (C + 1 - 0 + 1) 0 0 (by omega) (by omega) (by omega)
theorem bsl_2 (hR : R ≤ 4) (hrho : 2 < R) (h2 : r (2 * i + 1) = nI C) (hC : C ≤ 5) (hG : ∀ j, j < R * 5 → f i j = G j) (hr : ∀ y : Int32, D_X0_bySequences_1 r q f i (nI 2 + 1) y = bsv R C G 1 (2 + 1) y) {y : Int32} : ∀ n1 n2 j : Nat, ∀ s : Int64, j ≤ C → C - j < n1 → C - j < n2 → D_X0_bySequences_2_20 r q f i (nI 2) y n1 (nI j) s = D_bs_step_15 C G 2 y (bsv R C G 1) n2 j s := by
  intro n1
  induction n1 with
  | zero => intro n2 j s _ h; omega
  | succ n1 ih =>
    intro n2 j s hj h3 h4
    obtain ⟨n2, rfl⟩ : ∃ m, n2 = m + 1 := ⟨n2 - 1, by omega⟩
    rw [D_X0_bySequences_2_20_s, D_bs_step_15_s, h2]
    by_cases e : C ≤ j
    · rw [if_pos (ile e (by omega)), if_pos e]
    · rw [if_neg (nile e (by omega)), if_neg e]
      rcases and1 (y >>> (nI j &&& 31)) with b | b
      · rw [b, if_pos (show (0 : Int32) = 0 from rfl), if_neg zero1, bnd1_e, bnd1_e, cget (show 2 < 4 by decide) (show j < 5 by omega), hG (2 * 5 + j) (by omega), hr]
        dsimp only [nm]
        rw [s1]
        by_cases c : bcE (y >>> (nI (j + 1) &&& 31)) - bcE (y >>> (nI (j + 1) &&& 31)) / 2 * 2 = 0
        · rw [if_pos c, if_pos c, D_X0_bySequences_2_j80_s, if_pos rfl, D_bs_step_j56_s, t64a, s1, Int64.one_mul]
          exact ih n2 (j + 1) _ (by omega) (by omega) (by omega)
        · have hm : ∀ g k : Int64, (-1 : Int64) * g * k = -(g * k) := fun g k => by grind
          rw [if_neg c, if_neg c, D_X0_bySequences_2_j80_s, if_neg one0, D_bs_step_j56_s, t64b, s1, hm]
          exact ih n2 (j + 1) _ (by omega) (by omega) (by omega)
      · rw [b, if_neg one0, if_pos (show (1 : Int32) = 1 from rfl), s1]
        exact ih n2 (j + 1) _ (by omega) (by omega) (by omega)
theorem bsq_2 (h1 : r (2 * i) = nI R) (h2 : r (2 * i + 1) = nI C) (hR : R ≤ 4) (hC : C ≤ 5) (hG : ∀ j, j < R * 5 → f i j = G j) (h : 2 ≤ R) {y : Int32} : D_X0_bySequences_2 r q f i (nI 2) y = bsv R C G 2 2 y := by
  unfold D_X0_bySequences_2
  show _ = D_bs_step R C G 2 y (bsv R C G 1)
  rw [D_bs_step_s, h1]
  by_cases e : 2 = R
  · rw [if_pos (ile (by omega) (by decide)), if_pos e]
  · rw [if_neg (nile (by omega) (by omega)), if_neg e, if_pos (show nI 2 < (4 : Int32) by decide), h2, show gap (nI C) 0 = C - 0 from gapN (b := 0) (by omega) (by omega)]
    exact bsl_2 hR (by omega) h2 hC hG (fun y => by rw [s1]; exact bsq_1 h1 h2 hR hC hG (by omega)) (C - 0 + 1) (C + 1 - 0 + 1) 0 0 (by omega) (by omega) (by omega)
theorem bsl_3 (hR : R ≤ 4) (hrho : 1 < R) (h2 : r (2 * i + 1) = nI C) (hC : C ≤ 5) (hG : ∀ j, j < R * 5 → f i j = G j) (hr : ∀ y : Int32, D_X0_bySequences_2 r q f i (nI 1 + 1) y = bsv R C G 2 (1 + 1) y) {y : Int32} : ∀ n1 n2 j : Nat, ∀ s : Int64, j ≤ C → C - j < n1 → C - j < n2 → D_X0_bySequences_3_20 r q f i (nI 1) y n1 (nI j) s = D_bs_step_15 C G 1 y (bsv R C G 2) n2 j s := by
  intro n1
  induction n1 with
  | zero => intro n2 j s _ h; omega
  | succ n1 ih =>
    intro n2 j s hj h3 h4
    obtain ⟨n2, rfl⟩ : ∃ m, n2 = m + 1 := ⟨n2 - 1, by omega⟩
    rw [D_X0_bySequences_3_20_s, D_bs_step_15_s, h2]
    by_cases e : C ≤ j
    · rw [if_pos (ile e (by omega)), if_pos e]
    · rw [if_neg (nile e (by omega)), if_neg e]
      rcases and1 (y >>> (nI j &&& 31)) with b | b
      · rw [b, if_pos (show (0 : Int32) = 0 from rfl), if_neg zero1, bnd1_e, bnd1_e, cget (show 1 < 4 by decide) (show j < 5 by omega), hG (1 * 5 + j) (by omega), hr]
        dsimp only [nm]
        rw [s1]
        by_cases c : bcE (y >>> (nI (j + 1) &&& 31)) - bcE (y >>> (nI (j + 1) &&& 31)) / 2 * 2 = 0
        · rw [if_pos c, if_pos c, D_X0_bySequences_3_j80_s, if_pos rfl, D_bs_step_j56_s, t64a, s1, Int64.one_mul]
          exact ih n2 (j + 1) _ (by omega) (by omega) (by omega)
        · have hm : ∀ g k : Int64, (-1 : Int64) * g * k = -(g * k) := fun g k => by grind
          rw [if_neg c, if_neg c, D_X0_bySequences_3_j80_s, if_neg one0, D_bs_step_j56_s, t64b, s1, hm]
          exact ih n2 (j + 1) _ (by omega) (by omega) (by omega)
      · rw [b, if_neg one0, if_pos (show (1 : Int32) = 1 from rfl), s1]
        exact ih n2 (j + 1) _ (by omega) (by omega) (by omega)
theorem bsq_3 (h1 : r (2 * i) = nI R) (h2 : r (2 * i + 1) = nI C) (hR : R ≤ 4) (hC : C ≤ 5) (hG : ∀ j, j < R * 5 → f i j = G j) (h : 1 ≤ R) {y : Int32} : D_X0_bySequences_3 r q f i (nI 1) y = bsv R C G 3 1 y := by
  unfold D_X0_bySequences_3
  show _ = D_bs_step R C G 1 y (bsv R C G 2)
  rw [D_bs_step_s, h1]
  by_cases e : 1 = R
  · rw [if_pos (ile (by omega) (by decide)), if_pos e]
  · rw [if_neg (nile (by omega) (by omega)), if_neg e, if_pos (show nI 1 < (4 : Int32) by decide), h2, show gap (nI C) 0 = C - 0 from gapN (b := 0) (by omega) (by omega)]
    exact bsl_3 hR (by omega) h2 hC hG (fun y => by rw [s1]; exact bsq_2 h1 h2 hR hC hG (by omega)) (C - 0 + 1) (C + 1 - 0 + 1) 0 0 (by omega) (by omega) (by omega)
theorem bsl_4 (hR : R ≤ 4) (hrho : 0 < R) (h2 : r (2 * i + 1) = nI C) (hC : C ≤ 5) (hG : ∀ j, j < R * 5 → f i j = G j) (hr : ∀ y : Int32, D_X0_bySequences_3 r q f i (nI 0 + 1) y = bsv R C G 3 (0 + 1) y) {y : Int32} : ∀ n1 n2 j : Nat, ∀ s : Int64, j ≤ C → C - j < n1 → C - j < n2 → D_X0_bySequences_4_20 r q f i (nI 0) y n1 (nI j) s = D_bs_step_15 C G 0 y (bsv R C G 3) n2 j s := by
  intro n1
  induction n1 with
  | zero => intro n2 j s _ h; omega
  | succ n1 ih =>
    intro n2 j s hj h3 h4
    obtain ⟨n2, rfl⟩ : ∃ m, n2 = m + 1 := ⟨n2 - 1, by omega⟩
    rw [D_X0_bySequences_4_20_s, D_bs_step_15_s, h2]
    by_cases e : C ≤ j
    · rw [if_pos (ile e (by omega)), if_pos e]
    · rw [if_neg (nile e (by omega)), if_neg e]
      rcases and1 (y >>> (nI j &&& 31)) with b | b
      · rw [b, if_pos (show (0 : Int32) = 0 from rfl), if_neg zero1, bnd1_e, bnd1_e, cget (show 0 < 4 by decide) (show j < 5 by omega), hG (0 * 5 + j) (by omega), hr]
        dsimp only [nm]
        rw [s1]
        by_cases c : bcE (y >>> (nI (j + 1) &&& 31)) - bcE (y >>> (nI (j + 1) &&& 31)) / 2 * 2 = 0
        · rw [if_pos c, if_pos c, D_X0_bySequences_4_j80_s, if_pos rfl, D_bs_step_j56_s, t64a, s1, Int64.one_mul]
          exact ih n2 (j + 1) _ (by omega) (by omega) (by omega)
        · have hm : ∀ g k : Int64, (-1 : Int64) * g * k = -(g * k) := fun g k => by grind
          rw [if_neg c, if_neg c, D_X0_bySequences_4_j80_s, if_neg one0, D_bs_step_j56_s, t64b, s1, hm]
          exact ih n2 (j + 1) _ (by omega) (by omega) (by omega)
      · rw [b, if_neg one0, if_pos (show (1 : Int32) = 1 from rfl), s1]
        exact ih n2 (j + 1) _ (by omega) (by omega) (by omega)
theorem bsq_4 (h1 : r (2 * i) = nI R) (h2 : r (2 * i + 1) = nI C) (hR : R ≤ 4) (hC : C ≤ 5) (hG : ∀ j, j < R * 5 → f i j = G j) (h : 0 ≤ R) {y : Int32} : D_X0_bySequences_4 r q f i (nI 0) y = bsv R C G 4 0 y := by
  unfold D_X0_bySequences_4
  show _ = D_bs_step R C G 0 y (bsv R C G 3)
  rw [D_bs_step_s, h1]
  by_cases e : 0 = R
  · rw [if_pos (ile (by omega) (by decide)), if_pos e]
  · rw [if_neg (nile (by omega) (by omega)), if_neg e, if_pos (show nI 0 < (4 : Int32) by decide), h2, show gap (nI C) 0 = C - 0 from gapN (b := 0) (by omega) (by omega)]
    exact bsl_4 hR (by omega) h2 hC hG (fun y => by rw [s1]; exact bsq_3 h1 h2 hR hC hG (by omega)) (C - 0 + 1) (C + 1 - 0 + 1) 0 0 (by omega) (by omega) (by omega)
/-- by sequences -/
theorem seq_eq (h1 : r (2 * i) = nI R) (h2 : r (2 * i + 1) = nI C) (hR : R ≤ 4) (hC : C ≤ 5) (hG : ∀ j, j < R * 5 → f i j = G j) : D_X0_bySequences_4 r q f i 0 0 = bsv R C G 4 0 0 := bsq_4 h1 h2 hR hC hG (Nat.zero_le _)
theorem pcm : ∀ R, R < 6 → pc5 (2 ^ R - 1) = R := by decide +kernel
/-- by the first row -/
theorem bfr (h1 : r (2 * i) = nI R) (h2 : r (2 * i + 1) = nI R) (hR1 : 1 ≤ R) (hR : R ≤ 4) (hG : ∀ j, j < R * 5 → f i j = G j) : D_X0_byFirstRow r q f i = mnv G R R (2 ^ R - 1) (2 ^ R - 1) := by
  have p1 : 2 ^ 1 ≤ 2 ^ R := Nat.pow_le_pow_right (by decide) hR1
  have p2 : (2 : Nat) ^ 1 = 2 := rfl
  unfold D_X0_byFirstRow
  rw [h1, h2, fpm R (by omega), bnd1_e, min_eq (R := R) (C := R) hR (by omega) hG (by omega) (by omega) (by omega) rfl, pcm R (by omega)]
theorem bfr_dt (h1 : r (2 * i) = nI R) (h2 : r (2 * i + 1) = nI R) (hR1 : 1 ≤ R) (hR : R ≤ 4) (hG : ∀ j, j < R * 5 → f i j = G j) : D_X0_byFirstRow r q f i = dtn R G := (bfr h1 h2 hR1 hR hG).trans (mn_dt hR1 hR G)
theorem dx_xc {n i j : Nat} (h1 : 1 ≤ n) (h : n ≤ 4) (hi : i < n) (hj : j < n) (hij : i ≠ j) (f : Nat → Int64) : dtn n (xc n i j f) = -dtn n f := by
  rcases c4 h1 h with rfl | rfl | rfl | rfl
  · omega
  · rcases l4 (i := i) (by omega) with rfl | rfl | rfl | rfl <;> rcases l4 (i := j) (by omega) with rfl | rfl | rfl | rfl <;> first | (exfalso; omega) | (simp [dtn, dt2, xc]; try grind)
  · rcases l4 (i := i) (by omega) with rfl | rfl | rfl | rfl <;> rcases l4 (i := j) (by omega) with rfl | rfl | rfl | rfl <;> first | (exfalso; omega) | (simp [dtn, dt3, xc]; try grind)
  · rcases l4 (i := i) (by omega) with rfl | rfl | rfl | rfl <;> rcases l4 (i := j) (by omega) with rfl | rfl | rfl | rfl <;> first | (exfalso; omega) | (simp [dtn, dt4, xc]; try grind)
theorem dx_ac {n i j : Nat} (h1 : 1 ≤ n) (h : n ≤ 4) (hi : i < n) (hj : j < n) (hij : i ≠ j) (t : Int64) (f : Nat → Int64) : dtn n (ac n i j t f) = dtn n f := by
  rcases c4 h1 h with rfl | rfl | rfl | rfl
  · omega
  · rcases l4 (i := i) (by omega) with rfl | rfl | rfl | rfl <;> rcases l4 (i := j) (by omega) with rfl | rfl | rfl | rfl <;> first | (exfalso; omega) | (simp [dtn, dt2, ac]; try grind)
  · rcases l4 (i := i) (by omega) with rfl | rfl | rfl | rfl <;> rcases l4 (i := j) (by omega) with rfl | rfl | rfl | rfl <;> first | (exfalso; omega) | (simp [dtn, dt3, ac]; try grind)
  · rcases l4 (i := i) (by omega) with rfl | rfl | rfl | rfl <;> rcases l4 (i := j) (by omega) with rfl | rfl | rfl | rfl <;> first | (exfalso; omega) | (simp [dtn, dt4, ac]; try grind)
theorem un_dt (h1 : 1 ≤ R) (h : R ≤ 4) : dtn R (un R (fun _ => 0)) = 1 := by
  rcases c4 h1 h with rfl | rfl | rfl | rfl <;> simp [dtn, dt2, dt3, dt4, un]
/-- a side, and the determinant that it tells -/
def Sg (s : Int32) (d : Int64) : Prop := (s = 1 ∧ d = 1) ∨ (s = -1 ∧ d = -1)
theorem Sg_neg {s : Int32} {d : Int64} (h : Sg s d) : Sg (-s) (-d) := by
  rcases h with ⟨rfl, rfl⟩ | ⟨rfl, rfl⟩
  · exact Or.inr ⟨rfl, rfl⟩
  · exact Or.inl ⟨by decide, by decide +kernel⟩
theorem Sg_64 {s : Int32} {d : Int64} (h : Sg s d) : s.toInt64 = d := by
  rcases h with ⟨rfl, rfl⟩ | ⟨rfl, rfl⟩
  · exact t64a
  · exact t64b
theorem Sg_32 {s : Int32} {d : Int64} (h : Sg s d) : d.toInt32 = s := by
  rcases h with ⟨rfl, rfl⟩ | ⟨rfl, rfl⟩ <;> decide +kernel
theorem jr_det (h1 : 1 ≤ R) (h : R ≤ 4) : JR R C (fun _ _ _ v s => Sg s (dtn R v)) := by
  intro x y hx hy w v s hj hF
  refine ⟨fun i j a1 a2 a3 a4 a5 => ?_, fun i a1 a2 => ?_, fun i j t a1 a2 a3 a4 _ _ => ?_, fun _ => hj, fun _ => hj⟩
  · show Sg (-s) (dtn R (xr R i j v))
    rw [dx_xr h1 h a2 a4 a5]; exact Sg_neg hj
  · show Sg (-s) (dtn R (tr R i v))
    rw [dx_tr h1 h a2]; exact Sg_neg hj
  · show Sg s (dtn R (ar R i j t v))
    rw [dx_ar h1 h a1 a3 a4]; exact hj
theorem jd_det (h1 : 1 ≤ R) (h : R ≤ 4) (g1 : 1 ≤ C) (g : C ≤ 4) : JD R C (fun _ _ v u s1 s2 => Sg s1 (dtn R v) ∧ Sg s2 (dtn C u)) := by
  intro t hx hy w v u s1 s2 hj hF
  refine ⟨fun i j a1 a2 a3 a4 a5 => ⟨?_, hj.2⟩, fun i j a1 a2 a3 a4 a5 => ⟨hj.1, ?_⟩, fun i a1 a2 => ⟨?_, hj.2⟩, fun i j t a0 a1 a2 a3 a4 _ _ => ⟨?_, hj.2⟩, fun i j t a0 a1 a2 a3 a4 _ _ => ⟨hj.1, ?_⟩, fun _ => hj⟩
  · rw [dx_xr h1 h a2 a4 a5]; exact Sg_neg hj.1
  · rw [dx_xc g1 g a2 a4 a5]; exact Sg_neg hj.2
  · rw [dx_tr h1 h a2]; exact Sg_neg hj.1
  · rw [dx_ar h1 h a1 a3 a4]; exact hj.1
  · rw [dx_ac g1 g a1 a3 a4]; exact hj.2
theorem Sg_un (h1 : 1 ≤ R) (h : R ≤ 4) : Sg 1 (dtn R (un R (fun _ => 0))) := Or.inl ⟨rfl, un_dt h1 h⟩
end PDT
section PAC
variable {r q r1 q1 : Nat → Int32} {f f1 : Nat → Nat → Int64} {r' : Nat → Nat} {f' : Nat → Nat → Int64} {q' Q : Nat → Int32} {R C i n m a b : Nat} {x x' y z p u v t : Int32}
/-- along the diagonal -/
theorem fdt_l {w v0 : Nat → Int64} {t32 t84 : Int32} (hn : n < 4) (h6 : r (2 * 6) = nI (r' (2 * n))) (hR : r' (2 * n) ≤ 4) : ∀ n1 n2 k : Nat, ∀ s : Int64, k ≤ r' (2 * n) → r' (2 * n) - k < n1 → r' (2 * n) - k < n2 → D_X10_determinant_146 r' q' (nI n) t32 w t84 n2 k s = ((D_X4_findDeterminant_10 r q (cs f w v0) n1 (nI k) s).toInt32, va_up (va_up q' 3 t32) 3 t84) := by
  intro n1
  induction n1 with
  | zero => intro n2 k s _ h; omega
  | succ n1 ih =>
    intro n2 k s hk h1 h2
    obtain ⟨n2, rfl⟩ : ∃ m, n2 = m + 1 := ⟨n2 - 1, by omega⟩
    rw [D_X10_determinant_146_s, D_X4_findDeterminant_10_s, h6, nI_clamp (show n < 2 ^ 31 by omega)]
    by_cases e : r' (2 * n) ≤ k
    · rw [if_pos e, if_pos (ile e (by omega))]
    · rw [if_neg e, if_neg (nile e (by omega)), bnd1_e, cget (by omega) (by omega), cs6, cpl (by omega), s1]
      exact ih n2 (k + 1) _ (by omega) (by omega) (by omega)
set_option maxHeartbeats 4000000 in
set_option maxRecDepth 100000 in
theorem an_determinant (h : Rl r q f r' f' q') : AW cs3 (D_X5_determinant r q f y z) (D_X10_determinant r' f' q' y z) := by
  unfold D_X5_determinant D_X10_determinant
  rcases ntb (r := r) (q := q) (f := f) (p := y) with ⟨n, hn, rfl, h1, h2, h3⟩ | ⟨E, x1, x2, h1, h2⟩
  · rw [h1, h2]
    dsimp only [bnd2, bnd1]
    rw [if_pos rfl, if_neg one0, h3]
    have hT := h.1 n hn
    have hb := hT.2.1
    have hE : ("java/lang/IllegalArgumentException", (2 : Int32)) ∈ cs3 := List.mem_cons_of_mem _ List.mem_cons_self
    have hS : ("java/lang/IllegalStateException", (3 : Int32)) ∈ cs3 := List.mem_cons_of_mem _ (List.mem_cons_of_mem _ List.mem_cons_self)
    have hj0 : D_X5_determinant_j20 r q f z n 0 = ("java/lang/IllegalArgumentException", 0, r, q, f) := by
      unfold D_X5_determinant_j20
      rw [bnd1_e, ia0, if_neg e_ne2]
    by_cases a1 : z < 0
    · rw [if_pos a1, if_pos a1, hj0]; exact aw_e hE
    · rw [if_neg a1, if_neg a1]
      by_cases a2 : 2 < z
      · rw [if_pos a2, if_neg (Int32.not_le.mpr a2), hj0]; exact aw_e hE
      · have a3 : z ≤ 2 := Int32.not_lt.mp a2
        rw [if_neg a2, if_pos a3]
        unfold D_X5_determinant_j20
        rw [bnd1_e, ia1, if_pos rfl, hT.1.1, hT.1.2.1]
        by_cases c : r' (2 * n) = r' (2 * n + 1)
        · have hz3 : z = 0 ∨ z = 1 ∨ z = 2 := by
            rcases fo5 a1 (Int32.le_trans a3 (by decide)) with e | e | e | rfl | rfl
            · exact Or.inl e
            · exact Or.inr (Or.inl e)
            · exact Or.inr (Or.inr e)
            · exact absurd a3 (by decide)
            · exact absurd a3 (by decide)
          have hv : ∀ k, k < r' (2 * n) * 5 → f n k = f' n k := fun k hk => tb_v hT hk
          have hC : r (2 * n + 1) = nI (r' (2 * n)) := hT.1.2.1.trans (congrArg nI c.symm)
          rw [if_pos (congrArg nI c)]
          unfold D_X5_determinant_j39
          rw [bnd1_e, is1, if_pos rfl]
          rcases hz3 with rfl | rfl | rfl
          · simp only [if_pos c, if_pos (show (0 : Int32) = 0 from rfl), if_neg (show ¬ (0 : Int32) = 2 by decide), if_neg (show ¬ (0 : Int32) = 1 by decide)]
            rw [bnd1_e, bfr hT.1.1 hC hb.1 hb.2.1 hv, ← c]
            exact aw_v rfl
          · simp only [if_pos c, if_pos (show (1 : Int32) = 1 from rfl), if_neg (show ¬ (1 : Int32) = 2 by decide), if_neg (show ¬ (1 : Int32) = 0 by decide)]
            rw [bnd1_e, seq_eq hT.1.1 hT.1.2.1 hb.2.1 (by omega) hv]
            exact aw_v rfl
          · simp only [if_pos c, if_pos (show (2 : Int32) = 2 from rfl), if_neg (show ¬ (2 : Int32) = 0 by decide), if_neg (show ¬ (2 : Int32) = 1 by decide)]
            obtain ⟨G, s1, w1, v1, w2, v2, hG, e1, e2, e3⟩ := walk_eqJ (q := q) (jr_det (C := r' (2 * n + 1)) hb.1 hb.2.1) (Sg_un hb.1 hb.2.1) hT.1 (show n ≠ 6 by omega) (show n ≠ 7 by omega) hb.1 hb.2.1 hb.2.2.1 (by omega) (fun k hk => sm_ng (hT.2.2.1 k hk)) hT.2.2.2
            rw [e1, e2]
            dsimp only [bnd3, bnd4]
            rcases hG with rfl | rfl
            · obtain ⟨rfl, rfl, hSf, x1, y1, _, _, _, hsg⟩ := e3 rfl
              rw [if_pos (show va_up q 0 0 0 = 0 from vu_self), if_pos rfl]
              unfold D_X5_determinant_j88
              rw [bnd1_e, is1, if_pos rfl, bnd1_e]
              unfold D_X4_findDeterminant
              have h6 : (rs (rs r 6 (r' (2 * n)) (r' (2 * n + 1))) 7 (r' (2 * n)) (r' (2 * n))) (2 * 6) = nI (r' (2 * n)) := (rs_R' (by decide)).trans rs_R
              rw [bnd1_e, bfr_dt (R := r' (2 * n)) (G := v2) rs_R rs_C hb.1 hb.2.1 (fun k hk => by rw [cs7, cpl (by omega)]), h6, show gap (nI (r' (2 * n))) 0 = r' (2 * n) - 0 from gapN (b := 0) (by omega) (by omega), Sg_64 hsg, fdt_l (r := rs (rs r 6 (r' (2 * n)) (r' (2 * n + 1))) 7 (r' (2 * n)) (r' (2 * n))) (q := va_up q 0 0) (f := f) (v0 := v2) hn h6 hb.2.1 (r' (2 * n) - 0 + 1) (r' (2 * n) + 1 - 0 + 1) 0 _ (by omega) (by omega) (by omega)]
              exact aw_v rfl
            · rw [if_neg (show ¬ va_up q 0 1 0 = 0 by rw [vu_self]; decide), if_neg one0]
              unfold D_X5_determinant_j88
              rw [bnd1_e, is0, if_neg e_ne3]
              exact aw_e hS
        · rw [if_neg (fun e => c (nI_inj (by omega) (by omega) e))]
          unfold D_X5_determinant_j39
          rw [bnd1_e, is0, if_neg e_ne3]
          simp only [if_neg c, ite_self]
          exact aw_e hS
  · rw [h1, h2]
    dsimp only [bnd2, bnd1]
    rw [if_neg x1, if_pos rfl, th2_11, th2_10, ite_self, ite_self, x2]
    exact aw_e List.mem_cons_self
theorem ff1 (h0 : ¬ p = 0) (h1 : p = 1) : D_X5_findForm r q f n p = bnd3 (D_X4_walk r q f n) (fun r1 q1 f1 => if q1 0 = 0 then (7, r1, q1, f1) else (15, r1, q1, f1)) := by
  unfold D_X5_findForm
  simp only [if_neg h0, if_pos h1]
theorem ff3 (h0 : ¬ p = 0) (h1 : ¬ p = 1) (h2 : ¬ p = 2) (h3 : p = 3) : D_X5_findForm r q f n p = bnd3 (D_X1_walk r q f n) (fun r1 q1 f1 => if q1 1 = 0 then (9, r1, q1, f1) else (15, r1, q1, f1)) := by
  unfold D_X5_findForm
  simp only [if_neg h0, if_neg h1, if_neg h2, if_pos h3]
theorem ff4 (h0 : ¬ p = 0) (h1 : ¬ p = 1) (h2 : ¬ p = 2) (h3 : ¬ p = 3) : D_X5_findForm r q f n p = bnd3 (D_X1_walk r q f n) (fun r1 q1 f1 => if q1 1 = 0 then (10, r1, q1, f1) else (15, r1, q1, f1)) := by
  unfold D_X5_findForm
  simp only [if_neg h0, if_neg h1, if_neg h2, if_neg h3]
theorem cg_n {i : Nat} (hi : ¬ i = 15) (e : D_X5_findForm r q f n p = (i, r1, q1, f1)) : D_X5_change_j101 r q f n p = ("", (D_X0_byFirstRow r1 q1 f1 i).toInt32, r1, q1, f1) := by
  unfold D_X5_change_j101
  rw [e, bnd4_e, if_neg hi, bnd1_e]
theorem cg_g (e : D_X5_findForm r q f n p = (15, r1, q1, f1)) : D_X5_change_j101 r q f n p = ("java/lang/IllegalStateException", 0, r1, q1, f1) := by
  unfold D_X5_change_j101
  rw [e, bnd4_e, if_pos rfl]
set_option maxHeartbeats 4000000 in
set_option maxRecDepth 100000 in
theorem an_change (h : Rl r q f r' f' q') : AW cs3 (D_X5_change r q f y z) (D_X10_change r' f' q' y z) := by
  unfold D_X5_change D_X10_change
  rcases ntb (r := r) (q := q) (f := f) (p := y) with ⟨n, hn, rfl, h1, h2, h3⟩ | ⟨E, x1, x2, h1, h2⟩
  · rw [h1, h2]
    dsimp only [bnd2, bnd1]
    rw [if_pos rfl, if_neg one0, h3]
    have hT := h.1 n hn
    have hb := hT.2.1
    have hE : ("java/lang/IllegalArgumentException", (2 : Int32)) ∈ cs3 := List.mem_cons_of_mem _ List.mem_cons_self
    have hS : ("java/lang/IllegalStateException", (3 : Int32)) ∈ cs3 := List.mem_cons_of_mem _ (List.mem_cons_of_mem _ List.mem_cons_self)
    have hj0 : D_X5_change_j20 r q f z n 0 = ("java/lang/IllegalArgumentException", 0, r, q, f) := by
      unfold D_X5_change_j20
      rw [bnd1_e, ia0, if_neg e_ne2]
    by_cases a1 : z < 0
    · rw [if_pos a1, if_pos a1, hj0]; exact aw_e hE
    · rw [if_neg a1, if_neg a1]
      by_cases a2 : 4 < z
      · rw [if_pos a2, if_neg (Int32.not_le.mpr a2), hj0]; exact aw_e hE
      · have a3 : z ≤ 4 := Int32.not_lt.mp a2
        rw [if_neg a2, if_pos a3]
        unfold D_X5_change_j20
        rw [bnd1_e, ia1, if_pos rfl]
        obtain ⟨G, s1, w1, v1, w2, v2, hG, e1, e2, e3⟩ := walk_eqJ (q := q) (jr_det (C := r' (2 * n + 1)) hb.1 hb.2.1) (Sg_un hb.1 hb.2.1) hT.1 (show n ≠ 6 by omega) (show n ≠ 7 by omega) hb.1 hb.2.1 hb.2.2.1 (by omega) (fun k hk => sm_ng (hT.2.2.1 k hk)) hT.2.2.2
        obtain ⟨G', j1, j2, K, w3, v3, u3, w4, v4, u4, hG', e4, e5, e6⟩ := dwalk_eqJ (q := q) (jd_det hb.1 hb.2.1 hb.2.2.1 hb.2.2.2) ⟨Sg_un hb.1 hb.2.1, Sg_un hb.2.2.1 hb.2.2.2⟩ hT.1 (show n ≠ 8 by omega) (show n ≠ 9 by omega) (show n ≠ 10 by omega) hb.1 hb.2.1 hb.2.2.1 hb.2.2.2 (sw_of hT) hT.2.2.2
        have hq1 : ¬ va_up q 1 1 1 = 0 := by rw [vu_self]; decide
        have hq0 : ¬ va_up q 0 1 0 = 0 := by rw [vu_self]; decide
        have hp1 : va_up q 1 0 1 = 0 := vu_self
        have hp0 : va_up q 0 0 0 = 0 := vu_self
        rcases fo5 a1 a3 with e | e | e | e | e
        · simp only [if_pos (show z = 0 from e)]
          rw [e1, e2, bnd3_e, bnd4_e]
          rcases hG with rfl | rfl
          · rw [if_pos hp0, if_pos rfl]; exact aw_v rfl
          · rw [if_neg hq0, if_neg one0]; exact aw_v rfl
        · simp only [if_pos (show z = 1 from e), if_neg (show ¬ z = 0 by rw [e]; decide), if_neg (show ¬ z = 2 by rw [e]; decide)]
          rw [e4, e5, bnd3_e]
          dsimp only [bnd7]
          rcases hG' with rfl | rfl
          · rw [if_pos hp1, if_pos rfl]; exact aw_v rfl
          · rw [if_neg hq1, if_neg one0]; exact aw_v rfl
        · simp only [if_pos (show z = 2 from e), if_neg (show ¬ z = 0 by rw [e]; decide), if_neg (show ¬ z = 1 by rw [e]; decide)]
          rw [e2, bnd4_e]
          have hff := ff1 (r := r) (q := q) (f := f) (n := n) (p := 1) one0 rfl
          rw [e1, bnd3_e] at hff
          rcases hG with rfl | rfl
          · obtain ⟨rfl, rfl, hSf, x1, y1, _, _, _, hsg⟩ := e3 rfl
            rw [if_pos hp0] at hff
            rw [cg_n (by decide) hff, th3_000]
            dsimp only
            rw [if_pos rfl, bfr_dt (R := r' (2 * n)) (G := v2) rs_R rs_C hb.1 hb.2.1 (fun k hk => by rw [cs7, cpl (by omega)])]
            exact aw_v (Sg_32 hsg)
          · rw [if_neg hq0] at hff
            rw [cg_g hff, th3_001]
            dsimp only
            rw [if_neg one0]
            exact aw_e hS
        · simp only [if_pos (show z = 3 from e), if_neg (show ¬ z = 0 by rw [e]; decide), if_neg (show ¬ z = 1 by rw [e]; decide), if_neg (show ¬ z = 2 by rw [e]; decide)]
          rw [e5]
          dsimp only [bnd7]
          have hff := ff3 (r := r) (q := q) (f := f) (n := n) (p := 3) (by decide) (by decide) (by decide) rfl
          rw [e4, bnd3_e] at hff
          rcases hG' with rfl | rfl
          · obtain ⟨rfl, rfl, rfl, hSd, hK, hsg, _⟩ := e6 rfl
            rw [if_pos hp1] at hff
            rw [cg_n (by decide) hff, th3_000]
            dsimp only
            rw [if_pos rfl, bfr_dt (R := r' (2 * n)) (G := v4) ((rs_R' (by decide)).trans rs_R) ((rs_C' (by decide)).trans rs_C) hb.1 hb.2.1 (fun k hk => by rw [ds9, cpl (by omega)])]
            exact aw_v (Sg_32 hsg.1)
          · rw [if_neg hq1] at hff
            rw [cg_g hff, th3_001]
            dsimp only
            rw [if_neg one0]
            exact aw_e hS
        · simp only [if_neg (show ¬ z = 0 by rw [e]; decide), if_neg (show ¬ z = 1 by rw [e]; decide), if_neg (show ¬ z = 2 by rw [e]; decide), if_neg (show ¬ z = 3 by rw [e]; decide)]
          rw [e5]
          dsimp only [bnd7]
          have hff := ff4 (r := r) (q := q) (f := f) (n := n) (p := 4) (by decide) (by decide) (by decide) (by decide)
          rw [e4, bnd3_e] at hff
          rcases hG' with rfl | rfl
          · obtain ⟨rfl, rfl, rfl, hSd, hK, hsg, _⟩ := e6 rfl
            rw [if_pos hp1] at hff
            rw [cg_n (by decide) hff, th3_000]
            dsimp only
            rw [if_pos rfl, bfr_dt (R := r' (2 * n + 1)) (G := u4) rs_R rs_C hb.2.2.1 hb.2.2.2 (fun k hk => by rw [ds10, cpl (by omega)])]
            exact aw_v (Sg_32 hsg.2)
          · rw [if_neg hq1] at hff
            rw [cg_g hff, th3_001]
            dsimp only
            rw [if_neg one0]
            exact aw_e hS
  · rw [h1, h2]
    dsimp only [bnd2, bnd1]
    rw [if_neg x1, if_pos rfl, th2_11, th2_10, ite_self, ite_self, x2]
    exact aw_e List.mem_cons_self
end PAC
