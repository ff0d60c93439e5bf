section PTK
variable {r q r1 q1 : Nat → Int32} {f f1 : Nat → Nat → Int64} {r' r1' : Nat → Nat} {f' f1' : Nat → Nat → Int64} {q' : Nat → Int32} {R C i n m R2 C2 a b c : Nat} {g G : Nat → Int64} {x x' y z p : Int32}
/-- what stands in a grid of the class is a form of the reference -/
def FG (r : Nat → Int32) (f : Nat → Nat → Int64) (i R C : Nat) (w : Nat → Int64) : Prop := r (2 * i) = nI R ∧ r (2 * i + 1) = nI C ∧ (1 ≤ R ∧ R ≤ 4 ∧ 1 ≤ C ∧ C ≤ 4) ∧ (∀ k, k < 20 → f i k = w k) ∧ zo R C w ∧ ∀ k, k < R * 5 → ng (w k)
theorem ng_lo {x : Int64} (h : ng x) : -9223372036854775807 ≤ x.toInt := by
  have := ng_int h
  omega
theorem Rl_walk (h : Rl r q f r' f' q') {w v : Nat → Int64} {s : Int32} : Rl (rs (rs r 6 R C) 7 R R) (va_up q 0 s) (cs f w v) r' f' q' := Rl_keep h (fun i hi => ⟨⟨(rs_R' (by omega)).trans (rs_R' (by omega)), (rs_C' (by omega)).trans (rs_C' (by omega))⟩, (vu_ne (show i ≠ 7 by omega)).trans (vu_ne (show i ≠ 6 by omega))⟩) ⟨vu_ne (by decide), vu_ne (by decide), vu_ne (by decide)⟩
theorem Rl_dwalk (h : Rl r q f r' f' q') {w v u : Nat → Int64} {s : Int32} : Rl (rs (rs (rs r 8 R C) 9 R R) 10 C C) (va_up q 1 s) (ds f w v u) r' f' q' := Rl_keep h (fun i hi => ⟨⟨(rs_R' (by omega)).trans ((rs_R' (by omega)).trans (rs_R' (by omega))), (rs_C' (by omega)).trans ((rs_C' (by omega)).trans (rs_C' (by omega)))⟩, (vu_ne (show i ≠ 10 by omega)).trans ((vu_ne (show i ≠ 9 by omega)).trans (vu_ne (show i ≠ 8 by omega)))⟩) ⟨vu_ne (by decide), vu_ne (by decide), vu_ne (by decide)⟩
theorem sw_of (h : TB r f i R C g) : Sw R g := fun k hk => sm_int (h.2.2.1 k hk)
/-- a form is found, or the steps are great -/
theorem form_eq (h : Rl r q f r' f' q') (hn : n < 4) (h0 : ¬ p < 0) (h4 : p ≤ 4) : (∃ i r1 q1 f1 R2 C2 w, i ≠ 15 ∧ 4 ≤ i ∧ D_X5_findForm r q f n p = (i, r1, q1, f1) ∧ D_X10_toldOf (r' (2 * n)) (r' (2 * n + 1)) (f' n) p = (1, R2, C2, w) ∧ Rl r1 q1 f1 r' f' q' ∧ FG r1 f1 i R2 C2 w) ∨ ∃ r1 q1 f1, D_X5_findForm r q f n p = (15, r1, q1, f1) ∧ D_X10_toldOf (r' (2 * n)) (r' (2 * n + 1)) (f' n) p = (0, 0, 0, fun _ => 0) ∧ Rl r1 q1 f1 r' f' q' := by
  have hT := h.1 n hn
  have hb := hT.2.1
  have hp5 : p = 0 ∨ p = 1 ∨ p = 2 ∨ p = 3 ∨ p = 4 := by
    obtain ⟨k, hk, rfl⟩ := nI_of h0
    have hk4 : k ≤ 4 := (nleP hk (by omega : 4 < 2 ^ 31)).mp h4
    rcases (show k = 0 ∨ k = 1 ∨ k = 2 ∨ k = 3 ∨ k = 4 by omega) with rfl | rfl | rfl | rfl | rfl
    · exact Or.inl rfl
    · exact Or.inr (Or.inl rfl)
    · exact Or.inr (Or.inr (Or.inl rfl))
    · exact Or.inr (Or.inr (Or.inr (Or.inl rfl)))
    · exact Or.inr (Or.inr (Or.inr (Or.inr rfl)))
  unfold D_X5_findForm D_X10_toldOf
  by_cases hp2 : p = 0 ∨ p = 1
  · obtain ⟨G, s1, w1, v1, w2, v2, hG, e1, e2, e3⟩ := walk_eq (q := q) hT.1 (show n ≠ 6 by omega) (show n ≠ 7 by omega) hb.1 hb.2.1 hb.2.2.1 (by omega) (fun k hk => sm_ng (hT.2.2.1 k hk)) hT.2.2.2
    have hle : ¬ (2 : Int32) ≤ p := by rcases hp2 with rfl | rfl <;> decide
    rw [if_neg hle, e1, e2]
    dsimp only [bnd3, bnd4]
    rcases hG with rfl | rfl
    · obtain ⟨rfl, rfl, hS⟩ := e3 rfl
      have hq : va_up q 0 0 0 = 0 := vu_self
      have hW : FG (rs (rs r 6 (r' (2 * n)) (r' (2 * n + 1))) 7 (r' (2 * n)) (r' (2 * n))) (cs f w2 v2) 6 (r' (2 * n)) (r' (2 * n + 1)) w2 := ⟨(rs_R' (by decide)).trans rs_R, (rs_C' (by decide)).trans rs_C, hb, fun k hk => by rw [cs6, cpl hk], hS.2.1, hS.1.1⟩
      have hV : FG (rs (rs r 6 (r' (2 * n)) (r' (2 * n + 1))) 7 (r' (2 * n)) (r' (2 * n))) (cs f w2 v2) 7 (r' (2 * n)) (r' (2 * n)) v2 := ⟨rs_R, rs_C, ⟨hb.1, hb.2.1, hb.1, hb.2.1⟩, fun k hk => by rw [cs7, cpl hk], hS.2.2, hS.1.2⟩
      refine Or.inl ?_
      by_cases hp : p = 0
      · rw [if_pos hp, if_pos hq, if_pos hp, if_pos rfl, if_pos hp]
        exact ⟨6, _, _, _, _, _, _, by decide, by decide, rfl, rfl, Rl_walk h, hW⟩
      · have hp1 : p = 1 := hp2.resolve_left hp
        rw [if_neg hp, if_pos hp1, if_pos hq, if_neg hp, if_pos rfl, if_neg hp]
        exact ⟨7, _, _, _, _, _, _, by decide, by decide, rfl, rfl, Rl_walk h, hV⟩
    · refine Or.inr ?_
      have hq : ¬ va_up q 0 1 0 = 0 := by rw [vu_self]; decide
      by_cases hp : p = 0
      · rw [if_pos hp, if_neg hq, if_neg one0]
        exact ⟨_, _, _, rfl, rfl, Rl_walk h⟩
      · have hp1 : p = 1 := hp2.resolve_left hp
        rw [if_neg hp, if_pos hp1, if_neg hq, if_neg one0]
        exact ⟨_, _, _, rfl, rfl, Rl_walk h⟩
  · obtain ⟨G, j1, j2, K, w1, v1, u1, w2, v2, u2, hG, e1, e2, e3⟩ := dwalk_eq (q := q) hT.1 (show n ≠ 8 by omega) (show n ≠ 9 by omega) (show n ≠ 10 by omega) hb.1 hb.2.1 hb.2.2.1 hb.2.2.2 (sw_of hT) hT.2.2.2
    have hp0 : ¬ p = 0 := fun e => hp2 (Or.inl e)
    have hp1 : ¬ p = 1 := fun e => hp2 (Or.inr e)
    have hle : (2 : Int32) ≤ p := by rcases hp5 with e | e | rfl | rfl | rfl
                                     · exact absurd e hp0
                                     · exact absurd e hp1
                                     · decide
                                     · decide
                                     · decide
    rw [if_neg hp0, if_neg hp1, if_pos hle, e1, e2]
    dsimp only [bnd3, bnd7]
    rcases hG with rfl | rfl
    · obtain ⟨rfl, rfl, rfl, hS, _⟩ := e3 rfl
      have hq : va_up q 1 0 1 = 0 := vu_self
      have hW : FG (rs (rs (rs r 8 (r' (2 * n)) (r' (2 * n + 1))) 9 (r' (2 * n)) (r' (2 * n))) 10 (r' (2 * n + 1)) (r' (2 * n + 1))) (ds f w2 v2 u2) 8 (r' (2 * n)) (r' (2 * n + 1)) w2 := ⟨(rs_R' (by decide)).trans ((rs_R' (by decide)).trans rs_R), (rs_C' (by decide)).trans ((rs_C' (by decide)).trans rs_C), hb, fun k hk => by rw [ds8, cpl hk], hS.2.1, hS.1.1⟩
      have hV : FG (rs (rs (rs r 8 (r' (2 * n)) (r' (2 * n + 1))) 9 (r' (2 * n)) (r' (2 * n))) 10 (r' (2 * n + 1)) (r' (2 * n + 1))) (ds f w2 v2 u2) 9 (r' (2 * n)) (r' (2 * n)) v2 := ⟨(rs_R' (by decide)).trans rs_R, (rs_C' (by decide)).trans rs_C, ⟨hb.1, hb.2.1, hb.1, hb.2.1⟩, fun k hk => by rw [ds9, cpl hk], hS.2.2.1, hS.1.2.1⟩
      have hU : FG (rs (rs (rs r 8 (r' (2 * n)) (r' (2 * n + 1))) 9 (r' (2 * n)) (r' (2 * n))) 10 (r' (2 * n + 1)) (r' (2 * n + 1))) (ds f w2 v2 u2) 10 (r' (2 * n + 1)) (r' (2 * n + 1)) u2 := ⟨rs_R, rs_C, ⟨hb.2.2.1, hb.2.2.2, hb.2.2.1, hb.2.2.2⟩, fun k hk => by rw [ds10, cpl hk], hS.2.2.2, hS.1.2.2⟩
      refine Or.inl ?_
      rw [if_pos hq, if_pos rfl]
      by_cases hp : p = 2
      · rw [if_pos hp, if_pos hp]
        exact ⟨8, _, _, _, _, _, _, by decide, by decide, rfl, rfl, Rl_dwalk h, hW⟩
      · by_cases hq : p = 3
        · rw [if_neg hp, if_pos hq, if_neg hp, if_pos hq]
          exact ⟨9, _, _, _, _, _, _, by decide, by decide, rfl, rfl, Rl_dwalk h, hV⟩
        · rw [if_neg hp, if_neg hq, if_neg hp, if_neg hq]
          exact ⟨10, _, _, _, _, _, _, by decide, by decide, rfl, rfl, Rl_dwalk h, hU⟩
    · refine Or.inr ?_
      have hq : ¬ va_up q 1 1 1 = 0 := by rw [vu_self]; decide
      rw [if_neg hq, if_neg one0]
      exact ⟨_, _, _, rfl, rfl, Rl_dwalk h⟩
theorem take_eq (h : Rl r q f r' f' q') {y p u : Int32} : Ok (D_X5_take r q f y p u) (D_X10_take r' f' q' y p u) := by
  unfold D_X5_take D_X10_take
  rcases ntb (r := r) (q := q) (f := f) (p := y) with ⟨n, hn, rfl, h1, h2, h3⟩ | ⟨E, x1, x2, h1, h2⟩
  · rw [h1, h2]
    dsimp only [bnd2, bnd1]
    rw [if_pos rfl, if_neg one0, th2_11, th2_10, th2_01, th2_00]
    dsimp only
    rw [ite_self, ite_self]
    rcases ntb (r := r) (q := q) (f := f) (p := u) with ⟨m, hm, rfl, g1, g2, g3⟩ | ⟨E, x1, x2, g1, g2⟩
    · rw [g1, g2]
      dsimp only
      rw [if_pos rfl, if_neg one0, h3]
      unfold D_X5_isForm
      by_cases p1 : p < 0
      · rw [if_pos p1, if_pos p1, ia0, if_neg e_ne2]
        exact ok_e2 h
      · rw [if_neg p1, if_neg p1]
        by_cases p2 : p ≤ 4
        · rw [if_neg (Int32.not_lt.mpr p2), if_pos p2, ia1, if_pos rfl]
          rcases form_eq h hn p1 p2 with ⟨i, r1, q1, f1, R2, C2, w, i1, i2, e1, e2, hR, hF⟩ | ⟨r1, q1, f1, e1, e2, hR⟩
          · rw [e1, e2]
            dsimp only [bnd4]
            rw [if_neg i1, if_neg one0]
            exact form_ok hR hm hF.1 hF.2.1 hF.2.2.1 hF.2.2.2.1 hF.2.2.2.2.1 (fun k hk => ng_lo (hF.2.2.2.2.2 k hk))
          · rw [e1, e2]
            dsimp only [bnd4]
            rw [if_pos rfl, if_pos rfl]
            unfold D_X5_tellRefused
            dsimp only [bnd3]
            exact ok_no hR
        · rw [if_pos (Int32.not_le.mp p2), if_neg p2, ia0, if_neg e_ne2]
          exact ok_e2 h
    · rw [g1, g2]
      dsimp only
      rw [if_neg x1, if_pos rfl, x2]
      exact ok_e1 h
  · rw [h1, h2]
    dsimp only [bnd2, bnd1]
    rw [if_neg x1, if_pos rfl, th2_10, th2_11, ite_self, ite_self, x2]
    exact ok_e1 h
end PTK
