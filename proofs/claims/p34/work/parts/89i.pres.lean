/-! ===== restOf of both sides ===== -/
section PTR
variable {R C x y : Nat} {F G g : Nat → Int64}
theorem dtn_cg (h1 : 1 ≤ R) (hR : R ≤ 4) (h : ∀ k, k < R * 5 → F k = G k) : dtn R F = dtn R G := by
  have p1 : 2 ^ 1 ≤ 2 ^ R := Nat.pow_le_pow_right (by decide) h1
  have p2 : (2 : Nat) ^ 1 = 2 := rfl
  rw [← mn_dt h1 hR F, ← mn_dt h1 hR G]
  exact mnv_cg hR (by omega) h _ _ _ (by omega) (by omega)
/-- so far each column has its row, or the determinant is 0 -/
def Ec (R : Nat) (g : Nat → Int64) (x y : Nat) (w : Nat → Int64) : Prop := (dtn R w = 0 ↔ dtn R g = 0) ∧ ((x = y ∧ Tri R y w) ∨ (x < y ∧ dtn R w = 0))
theorem jr_tri (h1 : 1 ≤ R) (h : R ≤ 4) : JR R R (fun x y w _ _ => Ec R g x y w) := by
  intro x y hx hy w v s hj hF
  have key : ∀ w2, RS R R x w w2 → Ec R g x y w2 := fun w2 h2 => by
    have e := h2.2 rfl
    refine ⟨e.trans hj.1, ?_⟩
    rcases hj.2 with ⟨h3, h4⟩ | ⟨h3, h4⟩
    · subst h3
      exact Or.inl ⟨rfl, h2.1 h4⟩
    · exact Or.inr ⟨h3, e.mpr h4⟩
  refine ⟨fun i j a1 a2 a3 a4 a5 => key _ (RS_xr ⟨h1, h⟩ (by omega) (by omega) ⟨a1, a2⟩ ⟨a3, a4⟩ a5), fun i a1 a2 => key _ (RS_tr ⟨h1, h⟩ (by omega) (by omega) ⟨a1, a2⟩), fun i j t a1 a2 a3 a4 _ _ => key _ (RS_ar ⟨h1, h⟩ (by omega) (by omega) a1 ⟨a2, a3⟩ a4), fun hz => ⟨hj.1, ?_⟩, fun hz => ⟨hj.1, ?_⟩⟩
  · rcases hj.2 with ⟨h3, h4⟩ | ⟨h3, h4⟩
    · subst h3
      exact Or.inr ⟨by omega, tri_0 h hx h4 hz⟩
    · exact Or.inr ⟨by omega, h4⟩
  · rcases hj.2 with ⟨h3, h4⟩ | ⟨h3, h4⟩
    · subst h3
      refine Or.inl ⟨rfl, fun j hj => ?_⟩
      by_cases e : j = x
      · subst e
        exact ⟨nzp hz.1, fun i h5 h6 => hz.2 i h5 h6⟩
      · exact h4 j (by omega)
    · exact Or.inr ⟨by omega, h4⟩
theorem Ec_0 : Ec R g 0 0 g := ⟨Iff.rfl, Or.inl ⟨rfl, fun j hj => absurd hj (by omega)⟩⟩
theorem Ec_end {w : Nat → Int64} (h : Ec R g x y w) (hd : ¬ dtn R g = 0) (he : R ≤ y ∨ R ≤ x) (hx : x ≤ R) (hy : y ≤ R) : ∀ j, j < R → ¬ w (j * 5 + j) = 0 := by
  rcases h.2 with ⟨h3, h4⟩ | ⟨_, h4⟩
  · intro j hj
    exact (h4 j (by omega)).1
  · exact absurd (h.1.mp h4) hd
end PTR
section PRO
variable {r q r1 q1 : Nat → Int32} {f f1 : Nat → Nat → Int64} {r' : Nat → Nat} {f' : Nat → Nat → Int64} {q' Q : Nat → Int32} {R C i n m a b c : Nat} {g N M W u w v0 F33 : Nat → Int64} {x x' y z p v t24 t51 : Int32} {s t e : Int64} {o : Nat}
theorem srn_in {k : Nat} (hk : k < 4) : D_X5_setRowNumber r q f (nI k) t = va_up f 15 (vp_updL (f 15) k t) := by
  unfold D_X5_setRowNumber
  rw [if_neg (ilt0 (by omega)), if_neg (nile4 hk), nI_clamp (by omega)]
theorem rn_in {k : Nat} (hk : k < 4) : D_X5_rowNumber r q f (nI k) = f 15 k := by
  unfold D_X5_rowNumber
  rw [if_neg (ilt0 (by omega)), if_neg (nile4 hk), nI_clamp (by omega)]
  rfl
/-- so many times a row is taken off, at the places from a on, ahead of b -/
def sbn (t : Int64) (W N : Nat → Int64) (a b : Nat) : Nat → Int64 := fun j => if a ≤ j ∧ j < b then N j - t * W j else N j
theorem sbn_s (h : a ≤ b) : vp_updL (sbn t W N a b) b (sbn t W N a b b - t * W b) = sbn t W N a (b + 1) := by
  funext k
  unfold vp_updL sbn
  by_cases e : k = b
  · subst e
    rw [if_pos rfl, if_neg (by omega), if_pos (by omega)]
  · rw [if_neg e]
    by_cases h : a ≤ k ∧ k < b
    · rw [if_pos h, if_pos (by omega)]
    · rw [if_neg h, if_neg (by omega)]
theorem sbn0 : sbn t W N a a = N := by funext k; unfold sbn; rw [if_neg (by omega)]
/-- a row's numbers, so far -/
def rwn (g : Nat → Int64) (o y : Nat) (u : Nat → Int64) : Nat → Int64 := fun k => if k < y then g (o + k) else u k
theorem rwn_s : vp_updL (rwn g o a u) a (g (o + a)) = rwn g o (a + 1) u := by
  funext k
  unfold vp_updL rwn
  by_cases e : k = a
  · rw [if_pos e, if_pos (by omega), e]
  · rw [if_neg e]
    by_cases h : k < a
    · rw [if_pos h, if_pos (by omega)]
    · rw [if_neg h, if_neg (by omega)]
theorem rwn0 : rwn g o 0 u = u := by funext k; unfold rwn; rw [if_neg (by omega)]
/-- the numbers are laid: the class -/
theorem ro_c1 (hC : r (2 * n + 1) = nI C) (hC4 : C ≤ 4) (ha : a < 4) (hm : m ≠ 15) : ∀ k y : Nat, y ≤ C → C - y < k → D_X5_restOf_57 (nI a) n m r q k (nI y) (va_up f 15 (rwn (f m) (a * 5) y (f 15))) = D_X5_restOf_93 n r q (C + 1) 0 0 (va_up f 15 (rwn (f m) (a * 5) C (f 15))) := by
  intro k
  induction k with
  | zero => intro y _ h; omega
  | succ k ih =>
    intro y hy hk
    rw [D_X5_restOf_57_s, hC]
    by_cases e1 : C ≤ y
    · rw [if_pos (ile e1 (by omega)), show gap (nI C) 0 = C - 0 from gapN (b := 0) (by omega) (by omega), show y = C by omega]
      rfl
    · rw [if_neg (nile e1 (by omega)), bnd1_e, bnd1_e, cget ha (by omega), vu_ne hm, srn_in (by omega), vu_self, vu2, rwn_s, s1]
      exact ih (y + 1) (by omega) (by omega)
/-- the numbers are laid: the reference -/
theorem ro_r1 (hn : n < 4) (hm : m < 4) (ha : a < 4) : ∀ k y : Nat, y ≤ r' (2 * n + 1) → r' (2 * n + 1) - y < k → D_X10_restOf_103 r' f' q' (nI n) (nI m) (nI a) t24 F33 t51 k y (rwn (f' m) (a * 5) y (fun _ => 0)) = D_X10_restOf_136 r' q' (nI n) t24 F33 t51 (r' (2 * n + 1) + 1 - 0 + 1) 0 0 (rwn (f' m) (a * 5) (r' (2 * n + 1)) (fun _ => 0)) := by
  intro k
  induction k with
  | zero => intro y _ h; omega
  | succ k ih =>
    intro y hy hk
    rw [D_X10_restOf_103_s, nI_clamp (show n < 2 ^ 31 by omega), nI_clamp (show m < 2 ^ 31 by omega), nI_clamp (show a < 2 ^ 31 by omega)]
    by_cases e1 : r' (2 * n + 1) ≤ y
    · rw [if_pos e1, show y = r' (2 * n + 1) by omega]
    · rw [if_neg e1, rwn_s]
      exact ih (y + 1) (by omega) (by omega)
/-- a row is taken off: the class -/
theorem ro_c2 {lb : Int32 → Int64 → (Nat → Nat → Int64) → CRs} (hC : r (2 * n + 1) = nI C) (hC4 : C ≤ 4) (hc : c < C) (h6 : ∀ j, j < 5 → f 6 (c * 5 + j) = W j) : ∀ k y : Nat, c ≤ y → y ≤ C → C - y < k → D_X5_restOf_136 n r q lb (nI c) s e t k (nI y) (va_up f 15 (sbn t W N c y)) = lb (nI (c + 1)) (s * e + sbn t W N c C c) (va_up f 15 (sbn t W N c C)) := by
  intro k
  induction k with
  | zero => intro y _ _ h; omega
  | succ k ih =>
    intro y hy0 hy hk
    rw [D_X5_restOf_136_s, hC]
    by_cases e1 : C ≤ y
    · rw [if_pos (ile e1 (by omega)), bnd1_e, rn_in (by omega), vu_self, s1, show y = C by omega]
    · rw [if_neg (nile e1 (by omega)), bnd1_e, bnd1_e, bnd1_e, rn_in (by omega), vu_self, cget (by omega) (by omega), vu_ne (show 6 ≠ 15 by decide), h6 y (by omega), srn_in (by omega), vu_self, vu2, sbn_s hy0, s1]
      exact ih (y + 1) (by omega) (by omega) (by omega)
/-- a row is taken off: the reference -/
theorem ro_r2 {lb : Nat → Int64 → (Nat → Int64) → Int32 × (Nat → Int32)} (hn : n < 4) (hW : ∀ j, j < 5 → F33 (c * 5 + j) = W j) (hC4 : r' (2 * n + 1) ≤ 4) : ∀ k y : Nat, y ≤ r' (2 * n + 1) → r' (2 * n + 1) - y < k → D_X10_restOf_166 r' (nI n) F33 lb c s t k y (sbn t W M 0 y) = lb (c + 1) (s * F33 (c * 5 + c) + sbn t W M 0 (r' (2 * n + 1)) c) (sbn t W M 0 (r' (2 * n + 1))) := by
  intro k
  induction k with
  | zero => intro y _ h; omega
  | succ k ih =>
    intro y hy hk
    rw [D_X10_restOf_166_s, nI_clamp (show n < 2 ^ 31 by omega)]
    by_cases e1 : r' (2 * n + 1) ≤ y
    · rw [if_pos e1, show y = r' (2 * n + 1) by omega]
    · rw [if_neg e1, hW y (by omega), sbn_s (Nat.zero_le _)]
      exact ih (y + 1) (by omega) (by omega)
/-- all columns -/
theorem ro_all (hn : n < 4) (hC : r (2 * n + 1) = nI (r' (2 * n + 1))) (hC4 : r' (2 * n + 1) ≤ 4) (h6 : ∀ k, k < 20 → f 6 k = w k) (hnz : ∀ j, j < r' (2 * n + 1) → ¬ w (j * 5 + j) = 0) : ∀ n1 n2 c : Nat, ∀ (s : Int64) (N M : Nat → Int64), c ≤ r' (2 * n + 1) → r' (2 * n + 1) - c < n1 → r' (2 * n + 1) - c < n2 → (∀ j, c ≤ j → j < r' (2 * n + 1) → N j = M j) → ∃ (X : Int64) (f2 : Nat → Nat → Int64), D_X5_restOf_93 n r q n1 (nI c) s (va_up f 15 N) = ("", X.toInt32, r, q, f2) ∧ D_X10_restOf_136 r' q' (nI n) t24 w t51 n2 c s M = (X.toInt32, va_up (va_up q' 3 t24) 3 t51) := by
  intro n1
  induction n1 with
  | zero => intro n2 c s N M _ h; omega
  | succ n1 ih =>
    intro n2 c s N M hc h1 h2 hN
    obtain ⟨n2, rfl⟩ : ∃ m, n2 = m + 1 := ⟨n2 - 1, by omega⟩
    rw [D_X5_restOf_93_s, D_X10_restOf_136_s, hC, nI_clamp (show n < 2 ^ 31 by omega)]
    by_cases e1 : r' (2 * n + 1) ≤ c
    · rw [if_pos (ile e1 (by omega)), if_pos e1]
      exact ⟨s, _, rfl, rfl⟩
    · rw [if_neg (nile e1 (by omega)), if_neg e1, bnd1_e, bnd1_e, bnd1_e, cget (by omega) (by omega), vu_ne (show 6 ≠ 15 by decide), h6 _ (by omega), rn_in (by omega), vu_self, cdd (hnz c (by omega)), hN c (Nat.le_refl _) (by omega), gapN (by omega) (by omega)]
      dsimp only [nm]
      have k1 := ro_c2 (r := r) (q := q) (f := f) (s := s) (e := w (c * 5 + c)) (t := fdv (M c) (w (c * 5 + c))) (N := N) (W := fun j => w (c * 5 + j)) (lb := D_X5_restOf_93 n r q n1) hC hC4 (show c < r' (2 * n + 1) by omega) (fun j hj => h6 _ (by omega)) (r' (2 * n + 1) - c + 1) c (Nat.le_refl _) (by omega) (by omega)
      have k2 := ro_r2 (r' := r') (F33 := w) (s := s) (t := fdv (M c) (w (c * 5 + c))) (M := M) (W := fun j => w (c * 5 + j)) (c := c) (lb := D_X10_restOf_136 r' q' (nI n) t24 w t51 n2) hn (fun j hj => rfl) hC4 (r' (2 * n + 1) + 1 - 0 + 1) 0 (by omega) (by omega)
      rw [sbn0] at k1 k2
      rw [k1, k2]
      have e5 : ∀ j, c ≤ j → j < r' (2 * n + 1) → sbn (fdv (M c) (w (c * 5 + c))) (fun j => w (c * 5 + j)) N c (r' (2 * n + 1)) j = sbn (fdv (M c) (w (c * 5 + c))) (fun j => w (c * 5 + j)) M 0 (r' (2 * n + 1)) j := fun j h3 h4 => by
        unfold sbn
        rw [if_pos (by omega), if_pos (by omega), hN j h3 h4]
      rw [e5 c (Nat.le_refl _) (by omega)]
      exact ih n2 (c + 1) _ _ _ (by omega) (by omega) (by omega) (fun j h3 h4 => e5 j (by omega) h4)
/-- whether a table has rests: both sides -/
theorem lvr (h : Rl r q f r' f' q') (hn : n < 4) : (∃ r1 q1 f1, D_X5_leavesRests r q f n = (0, r1, q1, f1) ∧ D_X10_leaving (r' (2 * n)) (r' (2 * n + 1)) (f' n) = (0, 0, 0, fun _ => 0)) ∨ ∃ r1 q1 f1 w R2 C2, D_X5_leavesRests r q f n = (1, r1, q1, f1) ∧ D_X10_leaving (r' (2 * n)) (r' (2 * n + 1)) (f' n) = (1, R2, C2, w) ∧ Rl r1 q1 f1 r' f' q' ∧ (∀ k, k < 20 → f1 6 k = w k) ∧ ∀ j, j < r' (2 * n + 1) → ¬ w (j * 5 + j) = 0 := by
  have hT := h.1 n hn
  have hb := hT.2.1
  unfold D_X5_leavesRests D_X10_leaving
  rw [hT.1.1, hT.1.2.1]
  by_cases c : r' (2 * n) = r' (2 * n + 1)
  · have hv : ∀ k, k < r' (2 * n) * 5 → f n k = f' n k := fun k hk => tb_v hT hk
    have hC : r (2 * n + 1) = nI (r' (2 * n)) := hT.1.2.1.trans (congrArg nI c.symm)
    rw [if_pos (congrArg nI c), if_pos c, bnd1_e, bfr hT.1.1 hC hb.1 hb.2.1 hv, ← c]
    by_cases d : lg_cmp (mnv (f' n) (r' (2 * n)) (r' (2 * n)) (2 ^ r' (2 * n) - 1) (2 ^ r' (2 * n) - 1)) 0 = 0
    · rw [if_pos d, if_pos d]
      exact Or.inl ⟨_, _, _, rfl, rfl⟩
    · rw [if_neg d, if_neg d]
      have hd : ¬ dtn (r' (2 * n)) (f' n) = 0 := fun e => d (lgE.mpr ((mn_dt hb.1 hb.2.1 (f' n)).trans e))
      have hd2 : dtn (r' (2 * n)) (cp (r' (2 * n) * 5) (f' n) (fun _ => 0)) = dtn (r' (2 * n)) (f' n) := dtn_cg hb.1 hb.2.1 (fun k hk => if_pos hk)
      have hT2 : CT r f n (r' (2 * n)) (r' (2 * n)) (f' n) := ⟨hT.1.1, hC, hT.1.2.2⟩
      have hzc : zc (r' (2 * n)) (r' (2 * n) * 5) (f' n) := by
        have := hT.2.2.2
        rw [← c] at this
        exact this
      obtain ⟨G, s1, w1, v1, w2, v2, hG, e1, e2, e3⟩ := walk_eqJ (q := q) (jr_tri (g := cp (r' (2 * n) * 5) (f' n) (fun _ => 0)) hb.1 hb.2.1) Ec_0 hT2 (show n ≠ 6 by omega) (show n ≠ 7 by omega) hb.1 hb.2.1 hb.1 (by omega) (fun k hk => sm_ng (hT.2.2.1 k hk)) hzc
      rw [e1, e2, bnd3_e, bnd4_e]
      rcases hG with rfl | rfl
      · obtain ⟨rfl, rfl, hSf, x1, y1, k1, k2, k3, k4⟩ := e3 rfl
        have hnz := Ec_end k4 (by rw [hd2]; exact hd) k1 k2 k3
        rw [if_pos (show va_up q 0 0 0 = 0 from vu_self), if_pos rfl]
        exact Or.inr ⟨_, _, _, _, _, _, rfl, rfl, Rl_walk h, fun k hk => by rw [cs6, cpl hk], fun j hj => hnz j hj⟩
      · rw [if_neg (show ¬ va_up q 0 1 0 = 0 by rw [vu_self]; decide), if_neg one0]
        exact Or.inl ⟨_, _, _, rfl, rfl⟩
  · rw [if_neg (fun e => c (nI_inj (by omega) (by omega) e)), if_neg c]
    exact Or.inl ⟨_, _, _, rfl, rfl⟩
set_option maxHeartbeats 4000000 in
set_option maxRecDepth 100000 in
theorem an_restOf (h : Rl r q f r' f' q') {u : Int32} : AW csr (D_X5_restOf r q f y z u) (D_X10_restOf r' f' q' y z u) := by
  unfold D_X5_restOf D_X10_restOf
  rcases ntb (r := r) (q := q) (f := f) (p := y) with ⟨n, hn, rfl, h1, h2, h3⟩ | ⟨E, x1, x2, h1, h2⟩
  · rw [h1, h2]
    dsimp only [bnd2, bnd1]
    rw [if_pos rfl, if_neg one0]
    rcases ntb (r := r) (q := q) (f := f) (p := z) with ⟨m, hm, rfl, g1, g2, g3⟩ | ⟨E, x1, x2, g1, g2⟩
    · rw [g1]
      dsimp only
      rw [if_pos rfl]
      have hA : ("java/lang/IllegalArgumentException", (3 : Int32)) ∈ csr := List.mem_cons_of_mem _ List.mem_cons_self
      have hS : ("java/lang/IllegalStateException", (2 : Int32)) ∈ csr := List.mem_cons_of_mem _ (List.mem_cons_of_mem _ List.mem_cons_self)
      rcases hrow h hm (k := u) with ⟨a, rfl, b1, b2, b3, b4, b5⟩ | ⟨b3, b4⟩
      · have hT := h.1 n hn
        have hb := hT.2.1
        have hM := h.1 m hm
        have hbm := hM.2.1
        rw [b3, b4, nx1, if_pos rfl, if_neg one0, h3, g3]
        rcases lvr h hn with ⟨r1, q1, f1, l1, l2⟩ | ⟨r1, q1, f1, w, R2, C2, l1, l2, hR1, h6, hnz⟩
        · rw [l1, l2]
          dsimp only [bnd4]
          rw [is0, if_neg e_ne3, if_pos rfl, th3_010, th3_011, ite_self]
          exact aw_e hS
        · have hTn := hR1.1 n hn
          have hTm := hR1.1 m hm
          rw [l1, l2]
          dsimp only [bnd4]
          rw [is1, if_pos rfl, if_neg one0]
          by_cases c2 : r' (2 * n + 1) = r' (2 * m + 1)
          · rw [if_pos (hTn.1.2.1.trans ((congrArg nI c2).trans hTm.1.2.1.symm)), if_pos c2]
            unfold D_X5_restOf_j51
            rw [bnd1_e, ia1, if_pos rfl, hTn.1.2.1, show gap (nI (r' (2 * n + 1))) 0 = r' (2 * n + 1) - 0 from gapN (b := 0) (by omega) (by omega)]
            have k1 := ro_c1 (q := q1) (f := f1) (a := a) (m := m) hTn.1.2.1 hb.2.2.2 b2 (by omega) (r' (2 * n + 1) - 0 + 1) 0 (by omega) (by omega)
            have k2 := fun t24 t51 => ro_r1 (r' := r') (f' := f') (q' := q') (n := n) (m := m) (t24 := t24) (t51 := t51) (F33 := w) hn hm b2 (r' (2 * n + 1) + 1 - 0 + 1) 0 (by omega) (by omega)
            rw [rwn0, vu_id] at k1
            have k4 := fun t24 t51 => ro_all (r := r1) (q := q1) (q' := q') (f := f1) (w := w) (t24 := t24) (t51 := t51) hn hTn.1.2.1 hb.2.2.2 h6 hnz (r' (2 * n + 1) + 1) (r' (2 * n + 1) + 1 - 0 + 1) 0 0 (rwn (f1 m) (a * 5) (r' (2 * n + 1)) (f1 15)) (rwn (f' m) (a * 5) (r' (2 * n + 1)) (fun _ => 0)) (by omega) (by omega) (by omega) (fun j _ hj => by
              unfold rwn
              rw [if_pos hj, if_pos hj]
              exact tb_v hTm (by omega))
            obtain ⟨X, f2, o1, o2⟩ := k4 (D_X10_isThrown__ (q' 0) (q' 1) (q' 2) (q' 3) 0).2 (D_X10_isThrown (va_up q' 3 (D_X10_isThrown__ (q' 0) (q' 1) (q' 2) (q' 3) 0).2 0) (va_up q' 3 (D_X10_isThrown__ (q' 0) (q' 1) (q' 2) (q' 3) 0).2 1) (va_up q' 3 (D_X10_isThrown__ (q' 0) (q' 1) (q' 2) (q' 3) 0).2 2) (va_up q' 3 (D_X10_isThrown__ (q' 0) (q' 1) (q' 2) (q' 3) 0).2 3) 0 0 0).2
            have k3 := k2 (D_X10_isThrown__ (q' 0) (q' 1) (q' 2) (q' 3) 0).2 (D_X10_isThrown (va_up q' 3 (D_X10_isThrown__ (q' 0) (q' 1) (q' 2) (q' 3) 0).2 0) (va_up q' 3 (D_X10_isThrown__ (q' 0) (q' 1) (q' 2) (q' 3) 0).2 1) (va_up q' 3 (D_X10_isThrown__ (q' 0) (q' 1) (q' 2) (q' 3) 0).2 2) (va_up q' 3 (D_X10_isThrown__ (q' 0) (q' 1) (q' 2) (q' 3) 0).2 3) 0 0 0).2
            rw [rwn0] at k3
            have l3 := k1.trans o1
            have l4 := k3.trans o2
            refine Eq.subst (motive := fun Z => AW csr Z _) l3.symm (Eq.subst (motive := fun Z => AW csr _ Z) l4.symm ?_)
            exact aw_v rfl
          · rw [if_neg (fun e => c2 (nI_inj (by omega) (by omega) (hTn.1.2.1.symm.trans (e.trans hTm.1.2.1)))), if_neg c2, th3_001]
            unfold D_X5_restOf_j51
            rw [bnd1_e, ia0, if_neg e_ne2]
            exact aw_e hA
      · rw [b3, b4, nx0, if_neg e_ne, if_pos rfl]
        exact aw_e List.mem_cons_self
    · rw [g1, (isT_0 g2).1]
      dsimp only
      rw [if_neg x1, if_pos rfl, x2]
      exact aw_e List.mem_cons_self
  · rw [h1, h2]
    dsimp only [bnd2, bnd1]
    rw [if_neg x1, if_pos rfl, x2]
    exact aw_e List.mem_cons_self
end PRO
