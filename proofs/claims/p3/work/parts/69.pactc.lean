section PFL
variable {r q r1 q1 : Nat → Int32} {f f1 : Nat → Nat → Int64} {r' r1' : Nat → Nat} {f' f1' : Nat → Nat → Int64} {q' : Nat → Int32} {R C i n : Nat} {g : Nat → Int64} {x x' : Int32}
theorem cfl_in {h : Nat → Int64} {lb : Int32 → (Nat → Nat → Int64) → CRs} {a : Nat} (hn : n ≠ 4) (hC : r (2 * n + 1) = nI C) (h4 : C ≤ 4) (ha : a < 4) : ∀ m y : Nat, y ≤ C → C - y < m → D_X5_flip_34 n r q lb (nI a) m (nI y) (va_up f 4 (fl a y C (f n) h)) = lb (nI (a + 1)) (va_up f 4 (fl (a + 1) 0 C (f n) h)) := by
  intro m
  induction m with
  | zero => intro y _ h; omega
  | succ m ih =>
    intro y hy hm
    rw [D_X5_flip_34_s, hC]
    by_cases e : C ≤ y
    · rw [if_pos (ile e (by omega)), s1, show y = C by omega, fl_r]
    · rw [if_neg (nile e (by omega))]
      dsimp only [bnd1]
      rw [cget ha (by omega), cset (by omega) (by omega), vu_self, vu2, vu_ne hn, s1, fl_s (by omega) (by omega)]
      exact ih (y + 1) (by omega) (by omega)
theorem cfl_out {h : Nat → Int64} (hn : n < 4) (hR : r (2 * n) = nI R) (hC : r (2 * n + 1) = nI C) (hR4 : R ≤ 4) (h4 : C ≤ 4) : ∀ m y : Nat, y ≤ R → R - y < m → D_X5_flip_23 n (rs r 4 C R) q m (nI y) (va_up f 4 (fl y 0 C (f n) h)) = ("", nI C, rs (rs r 4 C R) n C R, va_up q 2 (q 2 + 1), va_up (va_up f 4 (fl R 0 C (f n) h)) n (cp 20 (fl R 0 C (f n) h) (f n))) := by
  intro m
  induction m with
  | zero => intro y _ h; omega
  | succ m ih =>
    intro y hy hm
    have hR' : rs r 4 C R (2 * n) = nI R := (rs_R' (by omega)).trans hR
    have hC' : rs r 4 C R (2 * n + 1) = nI C := (rs_C' (by omega)).trans hC
    rw [D_X5_flip_23_s, hR', hC']
    by_cases e : R ≤ y
    · rw [if_pos (ile e (by omega)), show y = R by omega, cbl (R := C) (C := R) rs_R rs_C]
      unfold D_X5_tellDone
      dsimp only [bnd1, bnd3]
      rw [vu_self, vu_ne (show n ≠ 4 by omega)]
      rw [show rs (rs r 4 C R) n C R (2 * n) = nI C from rs_R]
    · rw [if_neg (nile e (by omega)), show gap (nI C) 0 = C - 0 from gapN (b := 0) (by omega) (by omega)]
      refine Eq.trans (cfl_in (n := n) (r := rs r 4 C R) (f := f) (h := h) (a := y) (by omega) hC' h4 (by omega) (C - 0 + 1) 0 (by omega) (by omega)) ?_
      exact ih (y + 1) (by omega) (by omega)
theorem flip_eq (h : Rl r q f r' f' q') {y : Int32} : Ok (D_X5_flip r q f y) (D_X10_flip r' f' q' y) := by
  unfold D_X5_flip D_X10_flip
  rcases ntb (r := r) (q := q) (f := f) (p := y) with ⟨n, hn, rfl, h1, h2, h3⟩ | ⟨E, x1, x2, h1, h2⟩
  · rw [h1, h2]
    dsimp only [bnd2, bnd1]
    have hT := h.1 n hn
    have hb := hT.2.1
    rw [if_pos rfl, if_neg one0, th1_0, h3, hT.1.1, hT.1.2.1, crs hb.2.2.1 hb.2.2.2 hb.1 (by omega), rflp hb.2.1]
    dsimp only [bnd3]
    rw [show rs r 4 (r' (2 * n + 1)) (r' (2 * n)) (2 * n) = nI (r' (2 * n)) from (rs_R' (by omega)).trans hT.1.1, show gap (nI (r' (2 * n))) 0 = r' (2 * n) - 0 from gapN (b := 0) (by omega) (by omega)]
    have e := cfl_out (q := q) (f := f) (h := zf 20 (f 4)) hn hT.1.1 hT.1.2.1 hb.2.1 hb.2.2.2 (r' (2 * n) - 0 + 1) 0 (by omega) (by omega)
    rw [fl0] at e
    rw [show (0 : Int32) = nI 0 from rfl, e]
    have hR : Rl (rs (rs r 4 (r' (2 * n + 1)) (r' (2 * n))) n (r' (2 * n + 1)) (r' (2 * n))) q (va_up (va_up f 4 (fl (r' (2 * n)) 0 (r' (2 * n + 1)) (f n) (zf 20 (f 4)))) n (cp 20 (fl (r' (2 * n)) 0 (r' (2 * n + 1)) (f n) (zf 20 (f 4))) (f n))) (pr r' n (r' (2 * n + 1)) (r' (2 * n))) (va_up f' n (fl (r' (2 * n)) 0 (r' (2 * n + 1)) (f' n) (fun _ => 0))) q' := by
      refine Rl_set (n := n) (Rl_keep h (r1 := rs r 4 (r' (2 * n + 1)) (r' (2 * n))) (f1 := va_up f 4 (fl (r' (2 * n)) 0 (r' (2 * n + 1)) (f n) (zf 20 (f 4)))) (fun i hi => ro (by omega)) ⟨rfl, rfl, rfl⟩) (fun i _ e => ro e) ⟨⟨rs_R, rs_C, fun k hk => ?_⟩, ⟨hb.2.2.1, hb.2.2.2, hb.1, hb.2.1⟩, fun k hk => ?_, fun k hk e => ?_⟩ ⟨rfl, rfl, rfl⟩
      · rw [vu_self, cpl hk]
        by_cases c : k % 5 < r' (2 * n) ∧ k / 5 < r' (2 * n + 1)
        · have e1 : fl (r' (2 * n)) 0 (r' (2 * n + 1)) (f n) (zf 20 (f 4)) k = f n (k % 5 * 5 + k / 5) := if_pos (Or.inl c)
          have e2 : cp (r' (2 * n + 1) * 5) (fl (r' (2 * n)) 0 (r' (2 * n + 1)) (f' n) (fun _ => 0)) (fun _ => 0) k = f' n (k % 5 * 5 + k / 5) := by
            unfold cp
            rw [if_pos (by omega)]
            exact if_pos (Or.inl c)
          rw [e1, e2]
          exact tb_v hT (by omega)
        · have e1 : fl (r' (2 * n)) 0 (r' (2 * n + 1)) (f n) (zf 20 (f 4)) k = 0 := (if_neg (by omega)).trans (if_pos hk)
          have e2 : cp (r' (2 * n + 1) * 5) (fl (r' (2 * n)) 0 (r' (2 * n + 1)) (f' n) (fun _ => 0)) (fun _ => 0) k = 0 := by
            unfold cp
            split
            · exact if_neg (by omega)
            · rfl
          rw [e1, e2]
      · unfold fl
        split
        · exact hT.2.2.1 _ (by omega)
        · exact sm0
      · unfold fl
        rw [if_neg (by omega)]
    exact ok_do hR (by rw [show (va_up (va_up r' (2 * n) (r' (2 * n + 1))) (2 * n + 1) (r' (2 * n))) (2 * n) = r' (2 * n + 1) from pr_R])
  · rw [h1, h2]
    dsimp only [bnd2, bnd1]
    rw [if_neg x1, if_pos rfl, th1_1, x2]
    exact ok_e1 h
end PFL
section PSW
variable {r q : Nat → Int32} {f f1 : Nat → Nat → Int64} {r' : Nat → Nat} {f' F1 : Nat → Nat → Int64} {q' : Nat → Int32} {R C n : Nat} {v : Int32}
def Wr (x : Int32) (x' : Int64) : Prop := x.toInt = x'.toInt ∧ 0 ≤ x.toInt ∧ x.toInt < 65536
theorem rem32 {x y : Int32} (hy : ¬ y = 0) : (x - x / y * y).toInt = x.toInt.tmod y.toInt := by
  have h0 : y.toInt ≠ 0 := fun h => hy (Int32.toInt_inj.mp h)
  rw [Int32.toInt_sub, Int32.toInt_mul, Int32.toInt_div, Int.bmod_mul_bmod, Int.sub_bmod_bmod]
  have e : x.toInt - x.toInt.tdiv y.toInt * y.toInt = x.toInt.tmod y.toInt := by rw [Int.tmod_def, Int.mul_comm]
  rw [e]
  have h1 := Int.natAbs_tmod x.toInt y.toInt
  have h2 : x.toInt.natAbs % y.toInt.natAbs < y.toInt.natAbs := Nat.mod_lt _ (by omega)
  have h3 := Int32.toInt_lt y
  have h4 := Int32.le_toInt y
  exact Int.bmod_eq_of_le (by omega) (by omega)
theorem lcg {x : Int32} {x' : Int64} (h : Wr x x') : Wr (x * 25173 + 13849 - (x * 25173 + 13849) / 65536 * 65536) (x' * 25173 + 13849 - (x' * 25173 + 13849) / 65536 * 65536) := by
  obtain ⟨h1, h2, h3⟩ := h
  have e : (x * 25173 + 13849).toInt = x.toInt * 25173 + 13849 := by
    rw [Int32.toInt_add, Int32.toInt_mul, show (25173 : Int32).toInt = 25173 from rfl, show (13849 : Int32).toInt = 13849 from rfl]
    rw [Int.bmod_eq_of_le (n := x.toInt * 25173) (by omega) (by omega)]
    exact Int.bmod_eq_of_le (by omega) (by omega)
  have e' : (x' * 25173 + 13849).toInt = x'.toInt * 25173 + 13849 := by
    rw [Int64.toInt_add, Int64.toInt_mul, show (25173 : Int64).toInt = 25173 from rfl, show (13849 : Int64).toInt = 13849 from rfl]
    rw [Int.bmod_eq_of_le (n := x'.toInt * 25173) (by omega) (by omega)]
    exact Int.bmod_eq_of_le (by omega) (by omega)
  have r1 := rem32 (x := x * 25173 + 13849) (y := 65536) (by decide)
  have r2 := rem_int (x := x' * 25173 + 13849) (y := 65536) (by decide)
  have g1 := Int.tmod_nonneg 65536 (a := x.toInt * 25173 + 13849) (by omega)
  have g2 := Int.tmod_lt_of_pos (x.toInt * 25173 + 13849) (b := 65536) (by decide)
  rw [e, show (65536 : Int32).toInt = 65536 from rfl] at r1
  rw [e', show (65536 : Int64).toInt = 65536 from rfl, ← h1] at r2
  exact ⟨r1.trans r2.symm, by rw [r1]; exact g1, by rw [r1]; exact g2⟩
theorem sowv {u : Int32} {u' : Int64} (h : Wr u u') (h0 : ¬ v < 0) (h1 : v ≤ 20) : D_X5_remainder ((u / 64).toInt64) ((2 * v + 1).toInt64) = u' / 64 - u' / 64 / (2 * v + 1).toInt64 * (2 * v + 1).toInt64 ∧ 0 ≤ (u' / 64).toInt := by
  have hp : 0 ≤ (u' / 64).toInt := div64 (by have := h.1; have := h.2.1; omega)
  have e : (u / 64).toInt64 = u' / 64 := by
    apply Int64.toInt_inj.mp
    have t1 := Int.tdiv_nonneg h.2.1 (by decide : (0 : Int) ≤ 64)
    have t2 := Int.tdiv_le_self (b := 64) h.2.1
    have := h.2.2
    rw [Int32.toInt_toInt64, Int32.toInt_div, Int64.toInt_div, show (64 : Int32).toInt = 64 from rfl, show (64 : Int64).toInt = 64 from rfl, ← h.1]
    rw [Int.bmod_eq_of_le (by omega) (by omega), Int.bmod_eq_of_le (by omega) (by omega)]
  refine ⟨?_, hp⟩
  have hd := sow_d h0 h1
  rw [e]
  have hx : 0 ≤ (u' / 64 ^^^ (2 * v + 1).toInt64).toInt := (xor_sign (by omega)).mpr hp
  have hc : 0 ≤ lg_cmp (u' / 64 ^^^ (2 * v + 1).toInt64) 0 := (lg_cmp_ge _ _).mpr (Int64.le_iff_toInt_le.mpr hx)
  unfold D_X5_remainder nm fmd
  dsimp only
  rw [if_neg (fun z => sow_nz h0 h1 (lg0.mp z)), if_pos hc]
/-- the table that is sown -/
def Stw (r : Nat → Int32) (f : Nat → Nat → Int64) (r' : Nat → Nat) (f' : Nat → Nat → Int64) (n : Nat) (f1 F1 : Nat → Nat → Int64) : Prop := (∀ i, i < 4 → i ≠ n → f1 i = f i) ∧ (∀ i, i < 4 → i ≠ n → F1 i = f' i) ∧ TB r f1 n (r' (2 * n)) (r' (2 * n + 1)) (F1 n)
theorem sow_in {lb : Int32 → Int32 → (Nat → Nat → Int64) → CRs} {lb' : Nat → Int64 → (Nat → Nat → Int64) → MRs} {a : Nat} (hn : n < 4) (h0 : ¬ v < 0) (h1 : v ≤ 20) (ha : a < r' (2 * n)) (hk : ∀ x x' f1 F1, Wr x x' → Stw r f r' f' n f1 F1 → Ok (lb (nI (a + 1)) x f1) (lb' (a + 1) x' F1)) : ∀ (m1 m2 y : Nat) (x : Int32) (x' : Int64) (f1 F1 : Nat → Nat → Int64), y ≤ r' (2 * n + 1) → r' (2 * n + 1) - y < m1 → r' (2 * n + 1) - y < m2 → Wr x x' → Stw r f r' f' n f1 F1 → Ok (D_X5_sow_54 r q v n lb (nI a) m1 (nI y) x f1) (D_X10_sow_74 r' (nI n) v lb' a m2 y x' F1) := by
  intro m1
  induction m1 with
  | zero => intro m2 y x x' f1 F1 _ h; omega
  | succ m1 ih =>
    intro m2 y x x' f1 F1 hy g1 g2 hx hS
    obtain ⟨m2, rfl⟩ : ∃ m, m2 = m + 1 := ⟨m2 - 1, by omega⟩
    have hT := hS.2.2
    have hb := hT.2.1
    rw [D_X5_sow_54_s, D_X10_sow_74_s, nI_clamp (show n < 2 ^ 31 by omega), hT.1.2.1]
    by_cases e : r' (2 * n + 1) ≤ y
    · rw [if_pos (ile e (by omega)), if_pos e, s1]
      exact hk x x' f1 F1 hx hS
    · rw [if_neg (nile e (by omega)), if_neg e]
      have hl := lcg hx
      obtain ⟨s2, s3⟩ := sowv hl h0 h1
      rw [s2]
      dsimp only [bnd1]
      rw [cset (by omega) (by omega), s1]
      refine ih m2 (y + 1) _ _ _ _ (by omega) (by omega) (by omega) hl ⟨fun i hi e => (vu_ne e).trans (hS.1 i hi e), fun i hi e => (vu_ne e).trans (hS.2.1 i hi e), ?_⟩
      rw [vu_self]
      exact tb_upd hT ha (by omega) (sow_sm h0 h1 s3)
theorem sow_out (h : Rl r q f r' f' q') (hn : n < 4) (h0 : ¬ v < 0) (h1 : v ≤ 20) : ∀ (m1 m2 a : Nat) (x : Int32) (x' : Int64) (f1 F1 : Nat → Nat → Int64), a ≤ r' (2 * n) → r' (2 * n) - a < m1 → r' (2 * n) - a < m2 → Wr x x' → Stw r f r' f' n f1 F1 → Ok (D_X5_sow_41 r q v n m1 (nI a) x f1) (D_X10_sow_61 r' q' (nI n) v 0 m2 a x' F1) := by
  intro m1
  induction m1 with
  | zero => intro m2 y x x' f1 F1 _ h; omega
  | succ m1 ih =>
    intro m2 a x x' f1 F1 ha g1 g2 hx hS
    obtain ⟨m2, rfl⟩ : ∃ m, m2 = m + 1 := ⟨m2 - 1, by omega⟩
    have hT := hS.2.2
    have hb := hT.2.1
    rw [D_X5_sow_41_s, D_X10_sow_61_s, nI_clamp (show n < 2 ^ 31 by omega), hT.1.1, hT.1.2.1]
    by_cases e : r' (2 * n) ≤ a
    · rw [if_pos (ile e (by omega)), if_pos e, tb_cf hT, rot]
      unfold D_X5_tellDone
      dsimp only [bnd1, bnd3]
      have hR : Rl r q f1 r' F1 q' := Rl_new (n := n) h (fun i hi e => ⟨⟨rfl, rfl⟩, hS.1 i hi e⟩) (fun i hi e => ⟨⟨rfl, rfl⟩, hS.2.1 i hi e⟩) hT ⟨rfl, rfl, rfl⟩
      exact ok_do hR (by rw [nI_mul])
    · rw [if_neg (nile e (by omega)), if_neg e, show gap (nI (r' (2 * n + 1))) 0 = r' (2 * n + 1) - 0 from gapN (b := 0) (by omega) (by omega)]
      exact sow_in hn h0 h1 (by omega) (fun x x' f1 F1 hx hS => ih m2 (a + 1) x x' f1 F1 (by omega) (by omega) (by omega) hx hS) _ _ 0 x x' f1 F1 (by omega) (by omega) (by omega) hx hS
theorem sow_eq (h : Rl r q f r' f' q') {y z : Int32} : Ok (D_X5_sow r q f y z v) (D_X10_sow r' f' q' y z v) := by
  have harg : ∀ (n : Nat) (a b : Int32), Ok (D_X5_sow_j32 r q f a b n 0) (0, r', f', va_up q' 3 2) := by
    intro n a b
    unfold D_X5_sow_j32
    dsimp only [bnd1]
    rw [ia0, if_neg e_ne2]
    exact ok_e2 h
  unfold D_X5_sow D_X10_sow
  rcases ntb (r := r) (q := q) (f := f) (p := y) with ⟨n, hn, rfl, h1, h2, h3⟩ | ⟨E, x1, x2, h1, h2⟩
  · rw [h1, h2]
    dsimp only [bnd2, bnd1]
    rw [if_pos rfl, if_neg one0, th2_01, th2_00]
    by_cases z1 : z < 0
    · rw [if_pos z1, if_pos z1]; exact harg n _ _
    · rw [if_neg z1, if_neg z1]
      by_cases z2 : 65535 < z
      · rw [if_pos z2, if_pos z2]; exact harg n _ _
      · rw [if_neg z2, if_neg z2]
        by_cases v1 : v < 0
        · rw [if_pos v1, if_pos v1]; exact harg n _ _
        · rw [if_neg v1, if_neg v1]
          by_cases v2 : v ≤ 20
          · have hT := h.1 n hn
            have hb := hT.2.1
            rw [if_neg (Int32.not_lt.mpr v2), if_pos v2]
            unfold D_X5_sow_j32
            dsimp only [bnd1]
            rw [ia1, if_pos rfl, h3, hT.1.1, show gap (nI (r' (2 * n))) 0 = r' (2 * n) - 0 from gapN (b := 0) (by omega) (by omega)]
            exact sow_out h hn v1 v2 _ _ 0 z z.toInt64 f f' (by omega) (by omega) (by omega) ⟨(Int32.toInt_toInt64 z).symm, by have := seed_x z1 z2; rw [Int32.toInt_toInt64] at this; exact this.1, by have := seed_x z1 z2; rw [Int32.toInt_toInt64] at this; exact this.2⟩ ⟨fun _ _ _ => rfl, fun _ _ _ => rfl, hT⟩
          · rw [if_pos (Int32.not_le.mp v2), if_neg v2]; exact harg n _ _
  · rw [h1, h2]
    dsimp only [bnd2, bnd1]
    rw [if_neg x1, if_pos rfl, th2_10, th2_11, ite_self, ite_self, ite_self, ite_self, x2]
    exact ok_e1 h
end PSW
