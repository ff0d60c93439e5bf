section PRM
variable {r q r1 q1 : Nat → Int32} {f f1 : Nat → Nat → Int64} {r' r1' : Nat → Nat} {f' f1' : Nat → Nat → Int64} {q' : Nat → Int32} {R C i n : Nat} {g : Nat → Int64} {x x' : Int32}
theorem tb_upd (h : TB r f i R C g) {a b : Nat} (ha : a < R) (hb : b < C) {x : Int64} (hx : sm x) : TB r (va_up f i (vp_updL (f i) (a * 5 + b) x)) i R C (vp_updL g (a * 5 + b) x) := by
  refine ⟨⟨h.1.1, h.1.2.1, fun k hk => ?_⟩, h.2.1, fun k hk => ?_, fun k hk hC => ?_⟩
  · rw [vu_self]
    have e := h.1.2.2 k hk
    unfold cp at e ⊢
    unfold vp_updL
    by_cases e1 : k = a * 5 + b
    · rw [if_pos e1, if_pos (show k < R * 5 by have := h.2.1; omega), if_pos e1]
    · rw [if_neg e1, if_neg e1, e]
  · unfold vp_updL
    split
    · exact hx
    · exact h.2.2.1 k hk
  · unfold vp_updL
    rw [if_neg (by have := h.2.1; omega)]
    exact h.2.2.2 k hk hC
theorem put_eq (h : Rl r q f r' f' q') {y z u v : Int32} : Ok (D_X5_put r q f y z u v) (D_X10_put r' f' q' y z u v) := by
  have hidx : ∀ (n : Nat) (a b c : Int32), Ok (D_X5_put_j32 r q f a b c n 0) (0, r', f', va_up q' 3 1) := by
    intro n a b c
    unfold D_X5_put_j32
    dsimp only [bnd1]
    rw [nx0, if_neg e_ne]
    exact ok_e1 h
  unfold D_X5_put D_X10_put
  rcases ntb (r := r) (q := q) (f := f) (p := y) with ⟨n, hn, rfl, h1, h2, h3⟩ | ⟨E, x1, x2, h1, h2⟩
  · rw [h1]
    dsimp only [bnd2, bnd1]
    rw [if_pos rfl]
    rcases hrow h hn (k := z) with ⟨a, rfl, a1, a2, a3, a4, a5⟩ | ⟨a3, a4⟩
    · rw [a3, a4, if_neg one0, if_neg one0]
      rcases hcol h hn (c := 1) (by decide) (k := u) with ⟨b, rfl, b1, b2, b3, b4, b5⟩ | ⟨b3, b4⟩
      · rw [b3, b4, if_neg one0, if_neg one0]
        unfold D_X5_put_j32
        dsimp only [bnd1]
        rw [nx1, if_pos rfl]
        by_cases v1 : v < -20
        · rw [if_pos v1, if_pos v1, th2_01]
          unfold D_X5_put_j54
          dsimp only [bnd1]
          rw [ia0, if_neg e_ne2]
          exact ok_e2 h
        · rw [if_neg v1, if_neg v1]
          by_cases v2 : v ≤ 20
          · have v3 : ¬ 20 < v := Int32.not_lt.mpr v2
            rw [if_neg v3, if_pos v2, th2_00, a5, b5, h3]
            unfold D_X5_put_j54
            dsimp only [bnd1]
            rw [ia1, if_pos rfl, cget a2 (by omega), tb_v (h.1 n hn) (show a * 5 + b < r' (2 * n) * 5 by have := (h.1 n hn).2.1; omega)]
            have hR : Rl r q (va_up f n (vp_updL (f n) (a * 5 + b) v.toInt64)) r' (va_up f' n (vp_updL (f' n) (a * 5 + b) v.toInt64)) q' := Rl_new (n := n) h (fun i _ e => ⟨⟨rfl, rfl⟩, vu_ne e⟩) (fun i _ e => ⟨⟨rfl, rfl⟩, vu_ne e⟩) (by rw [vu_self]; exact tb_upd (h.1 n hn) a1 b1 (sm_i v1 v3)) ⟨rfl, rfl, rfl⟩
            unfold D_X5_put_j76 D_X5_put_j99 D_X5_tellDone
            dsimp only [bnd1, bnd3]
            rw [cset a2 (by omega)]
            by_cases e : lg_cmp (f' n (a * 5 + b)) v.toInt64 = 0
            · rw [if_pos e, if_pos e, if_pos rfl]
              exact ok_do hR rfl
            · rw [if_neg e, if_neg e, if_neg one0]
              exact ok_do hR rfl
          · have v3 : 20 < v := Int32.not_le.mp v2
            rw [if_pos v3, if_neg v2, th2_01]
            unfold D_X5_put_j54
            dsimp only [bnd1]
            rw [ia0, if_neg e_ne2]
            exact ok_e2 h
      · rw [b3, b4, if_pos rfl, if_pos rfl, th2_10, th2_11, ite_self, ite_self]
        exact hidx n _ _ _
    · rw [a3, a4, if_pos rfl, if_pos rfl, th2_10, th2_11, ite_self, ite_self]
      exact hidx n _ _ _
  · rw [h1]
    dsimp only [bnd2, bnd1]
    rw [if_neg x1, (isT_0 h2).1, if_pos rfl, th2_10, th2_11, ite_self, ite_self, x2]
    exact ok_e1 h
/-- a table as another one -/
theorem tb_like (h : TB r f i R C g) {j : Nat} : TB (rs r j R C) (va_up f j (cp 20 (f i) (f j))) j R C (cp (R * 5) g (fun _ => 0)) := by
  refine ⟨⟨rs_R, rs_C, fun k hk => ?_⟩, h.2.1, fun k hk => ?_, fun k hk hC => ?_⟩
  · rw [vu_self, cpl hk, h.1.2.2 k hk]
    unfold cp
    split
    · rfl
    · rfl
  · unfold cp; rw [if_pos hk]; exact h.2.2.1 k hk
  · unfold cp; rw [if_pos hk]; exact h.2.2.2 k hk hC
theorem like_eq (hi : TB r f i R C g) {j : Nat} {Rj Cj : Nat} {gj : Nat → Int64} (hj : TB r f j Rj Cj gj) : (D_X3_isLike r q f i j = 1 ∧ D_X7_isSame R C g Rj Cj gj = 1 ∧ D_X7_isSame Rj Cj gj R C g = 1) ∨ (D_X3_isLike r q f i j = 0 ∧ D_X7_isSame R C g Rj Cj gj = 0 ∧ D_X7_isSame Rj Cj gj R C g = 0) := by
  rcases cisl (r := r) (q := q) hi.1.1 hi.1.2.1 hj.1.1 hj.1.2.1 hi.2.1.2.1 (by have := hi.2.1; omega) hj.2.1.2.1 (by have := hj.2.1; omega) (tb_z hi) (tb_z hj) with ⟨a1, a2, a3, a4⟩ | ⟨a1, a2⟩
  · subst a2 a3
    have e : ∀ k, k < R * 5 → g k = gj k := fun k hk => by rw [← tb_v hi hk, ← tb_v hj hk]; exact a4 k hk
    refine Or.inl ⟨a1, ?_, ?_⟩
    · rcases ris (R := R) (C := C) (f := g) (Ro := R) (Co := C) (fo := gj) with ⟨b, _⟩ | ⟨_, b⟩
      · exact b
      · exact absurd ⟨rfl, rfl, e⟩ b
    · rcases ris (R := R) (C := C) (f := gj) (Ro := R) (Co := C) (fo := g) with ⟨b, _⟩ | ⟨_, b⟩
      · exact b
      · exact absurd ⟨rfl, rfl, fun k hk => (e k hk).symm⟩ b
  · refine Or.inr ⟨a1, ?_, ?_⟩
    · rcases ris (R := R) (C := C) (f := g) (Ro := Rj) (Co := Cj) (fo := gj) with ⟨_, b1, b2, b3⟩ | ⟨b, _⟩
      · exact absurd ⟨b1, b2, fun k hk => by rw [tb_v hi hk, tb_v hj (by rw [← b1]; exact hk)]; exact b3 k hk⟩ a2
      · exact b
    · rcases ris (R := Rj) (C := Cj) (f := gj) (Ro := R) (Co := C) (fo := g) with ⟨_, b1, b2, b3⟩ | ⟨b, _⟩
      · exact absurd ⟨b1.symm, b2.symm, fun k hk => by rw [tb_v hi hk, tb_v hj (by rw [b1]; exact hk)]; exact (b3 k (by rw [b1]; exact hk)).symm⟩ a2
      · exact b
theorem copy_eq (h : Rl r q f r' f' q') {y z : Int32} : Ok (D_X5_copy r q f y z) (D_X10_copy r' f' q' y z) := by
  unfold D_X5_copy D_X10_copy
  rcases ntb (r := r) (q := q) (f := f) (p := y) with ⟨n, hn, rfl, h1, h2, h3⟩ | ⟨E, x1, x2, h1, h2⟩
  · rw [h1, h2]
    dsimp only [bnd2, bnd1]
    rw [if_pos rfl, if_neg one0]
    rcases ntb (r := r) (q := q) (f := f) (p := z) with ⟨m, hm, rfl, g1, g2, g3⟩ | ⟨E, x1, x2, g1, g2⟩
    · rw [g1, g2, if_pos rfl, if_neg one0, th1_0, h3, g3]
      have hR : Rl (rs r m (r' (2 * n)) (r' (2 * n + 1))) q (va_up f m (cp 20 (f n) (f m))) (pr r' m (r' (2 * n)) (r' (2 * n + 1))) (va_up f' m (cp (r' (2 * n) * 5) (f' n) (fun _ => 0))) q' := Rl_set h (fun i _ e => ro e) (tb_like (h.1 n hn)) ⟨rfl, rfl, rfl⟩
      unfold D_X5_copy_j27 D_X5_copy_j46 D_X5_tellDone
      dsimp only [bnd1, bnd3]
      rw [cbl (h.1 n hn).1.1 (h.1 n hn).1.2.1, rcp]
      rcases like_eq (q := q) (h.1 m hm) (h.1 n hn) with ⟨a1, a2, a3⟩ | ⟨a1, a2, a3⟩
      · rw [a1, a3, if_neg one0, if_neg one0, if_pos rfl]
        exact ok_do hR rfl
      · rw [a1, a3, if_pos rfl, if_pos rfl, if_neg one0]
        exact ok_do hR rfl
    · rw [g1, g2, if_neg x1, if_pos rfl, th1_1, x2]
      exact ok_e1 h
  · rw [h1, h2]
    dsimp only [bnd2, bnd1]
    rw [if_neg x1, if_pos rfl, th1_1, x2]
    exact ok_e1 h
theorem cp2 {n : Nat} {a b c : Nat → Int64} : cp n (cp n a b) c = cp n a c := by
  funext k
  unfold cp
  split <;> rfl
theorem swap_eq (h : Rl r q f r' f' q') {y z : Int32} : Ok (D_X5_swap r q f y z) (D_X10_swap r' f' q' y z) := by
  unfold D_X5_swap D_X10_swap
  rcases ntb (r := r) (q := q) (f := f) (p := y) with ⟨n, hn, rfl, h1, h2, h3⟩ | ⟨E, x1, x2, h1, h2⟩
  · rw [h1, h2]
    dsimp only [bnd2, bnd1]
    rw [if_pos rfl, if_neg one0]
    rcases ntb (r := r) (q := q) (f := f) (p := z) with ⟨m, hm, rfl, g1, g2, g3⟩ | ⟨E, x1, x2, g1, g2⟩
    · rw [g1, g2, if_pos rfl, if_neg one0, th1_0, h3, g3]
      have hTn := h.1 n hn
      have hTm := h.1 m hm
      have A1 : D_X3_becomeLike r q f 4 n = (rs r 4 (r' (2 * n)) (r' (2 * n + 1)), q, va_up f 4 (cp 20 (f n) (f 4))) := cbl hTn.1.1 hTn.1.2.1
      have A2 : D_X3_becomeLike (rs r 4 (r' (2 * n)) (r' (2 * n + 1))) q (va_up f 4 (cp 20 (f n) (f 4))) n m = (rs (rs r 4 (r' (2 * n)) (r' (2 * n + 1))) n (r' (2 * m)) (r' (2 * m + 1)), q, va_up (va_up f 4 (cp 20 (f n) (f 4))) n (cp 20 (f m) (f n))) := by
        rw [cbl (R := r' (2 * m)) (C := r' (2 * m + 1)) ((rs_R' (by omega)).trans hTm.1.1) ((rs_C' (by omega)).trans hTm.1.2.1), vu_ne (show m ≠ 4 by omega), vu_ne (show n ≠ 4 by omega)]
      have A3 : D_X3_becomeLike (rs (rs r 4 (r' (2 * n)) (r' (2 * n + 1))) n (r' (2 * m)) (r' (2 * m + 1))) q (va_up (va_up f 4 (cp 20 (f n) (f 4))) n (cp 20 (f m) (f n))) m 4 = (rs (rs (rs r 4 (r' (2 * n)) (r' (2 * n + 1))) n (r' (2 * m)) (r' (2 * m + 1))) m (r' (2 * n)) (r' (2 * n + 1)), q, va_up (va_up (va_up f 4 (cp 20 (f n) (f 4))) n (cp 20 (f m) (f n))) m (cp 20 (f n) (va_up (va_up f 4 (cp 20 (f n) (f 4))) n (cp 20 (f m) (f n)) m))) := by
        rw [cbl (R := r' (2 * n)) (C := r' (2 * n + 1)) ((rs_R' (by omega)).trans rs_R) ((rs_C' (by omega)).trans rs_C), vu_ne (show 4 ≠ n by omega), vu_self, cp2]
      have hR : Rl (rs (rs (rs r 4 (r' (2 * n)) (r' (2 * n + 1))) n (r' (2 * m)) (r' (2 * m + 1))) m (r' (2 * n)) (r' (2 * n + 1))) q (va_up (va_up (va_up f 4 (cp 20 (f n) (f 4))) n (cp 20 (f m) (f n))) m (cp 20 (f n) (va_up (va_up f 4 (cp 20 (f n) (f 4))) n (cp 20 (f m) (f n)) m))) (fun k => r' (swr n m k)) (fun k => f' (sw1 n m k)) q' := by
        refine ⟨fun i hi => ?_, h.2.1, h.2.2.1, h.2.2.2⟩
        have e1 : swr n m (2 * i) = 2 * sw1 n m i := by
          unfold swr sw1
          rw [show 2 * i / 2 = i by omega, show 2 * i % 2 = 0 by omega]
          by_cases c1 : i = n
          · rw [if_pos c1, if_pos c1]; exact Nat.add_zero _
          · rw [if_neg c1, if_neg c1]
            by_cases c2 : i = m
            · rw [if_pos c2, if_pos c2]; exact Nat.add_zero _
            · rw [if_neg c2, if_neg c2]
        have e2 : swr n m (2 * i + 1) = 2 * sw1 n m i + 1 := by
          unfold swr sw1
          rw [show (2 * i + 1) / 2 = i by omega, show (2 * i + 1) % 2 = 1 by omega]
          by_cases c1 : i = n
          · rw [if_pos c1, if_pos c1]
          · rw [if_neg c1, if_neg c1]
            by_cases c2 : i = m
            · rw [if_pos c2, if_pos c2]
            · rw [if_neg c2, if_neg c2]
        show TB _ _ i (r' (swr n m (2 * i))) (r' (swr n m (2 * i + 1))) (f' (sw1 n m i))
        rw [e1, e2]
        by_cases c1 : i = m
        · subst c1
          have e3 : sw1 n i i = n := by unfold sw1; split <;> (try split) <;> omega
          rw [e3]
          exact ⟨⟨rs_R, rs_C, fun k hk => by rw [vu_self, cpl hk]; exact hTn.1.2.2 k hk⟩, hTn.2⟩
        · by_cases c2 : i = n
          · subst c2
            have e3 : sw1 i m i = m := by unfold sw1; rw [if_pos rfl]
            rw [e3]
            exact ⟨⟨(rs_R' c1).trans rs_R, (rs_C' c1).trans rs_C, fun k hk => by rw [vu_ne c1, vu_self, cpl hk]; exact hTm.1.2.2 k hk⟩, hTm.2⟩
          · have e3 : sw1 n m i = i := by unfold sw1; rw [if_neg c2, if_neg c1]
            rw [e3]
            have hTi := h.1 i hi
            exact ⟨⟨(rs_R' c1).trans ((rs_R' c2).trans ((rs_R' (by omega)).trans hTi.1.1)), (rs_C' c1).trans ((rs_C' c2).trans ((rs_C' (by omega)).trans hTi.1.2.1)), fun k hk => by rw [vu_ne c1, vu_ne c2, vu_ne (show i ≠ 4 by omega)]; exact hTi.1.2.2 k hk⟩, hTi.2⟩
      unfold D_X5_swap_j27 D_X5_swap_j63 D_X5_tellDone
      dsimp only [bnd3]
      rw [A1]
      dsimp only
      rw [A2]
      dsimp only
      rw [A3]
      dsimp only
      rcases like_eq (q := q) hTn hTm with ⟨a1, a2, a3⟩ | ⟨a1, a2, a3⟩
      · rw [a1, a2, if_neg one0, if_neg one0, if_pos rfl]
        exact ok_do hR rfl
      · rw [a1, a2, if_pos rfl, if_pos rfl, if_neg one0]
        exact ok_do hR rfl
    · rw [g1, g2, if_neg x1, if_pos rfl, th1_1, x2]
      exact ok_e1 h
  · rw [h1, h2]
    dsimp only [bnd2, bnd1]
    rw [if_neg x1, if_pos rfl, th1_1, x2]
    exact ok_e1 h
end PRM
