/-! ===== What is asked leaves the tables as they are ===== -/
/-- behind it both sides stand alike -/
def RA (r' : Nat → Nat) (f' : Nat → Nat → Int64) (q' : Nat → Int32) (X : CRs) : Prop := Rl X.2.2.1 X.2.2.2.1 X.2.2.2.2 r' f' q'
def RB (r' : Nat → Nat) (f' : Nat → Nat → Int64) (q' : Nat → Int32) (X : Int32 × (Nat → Int32) × (Nat → Int32) × (Nat → Nat → Int64)) : Prop := Rl X.2.1 X.2.2.1 X.2.2.2 r' f' q'
def RC (r' : Nat → Nat) (f' : Nat → Nat → Int64) (q' : Nat → Int32) (X : Int64 × (Nat → Int32) × (Nat → Int32) × (Nat → Nat → Int64)) : Prop := Rl X.2.1 X.2.2.1 X.2.2.2 r' f' q'
def RN (r' : Nat → Nat) (f' : Nat → Nat → Int64) (q' : Nat → Int32) (X : Nat × (Nat → Int32) × (Nat → Int32) × (Nat → Nat → Int64)) : Prop := Rl X.2.1 X.2.2.1 X.2.2.2 r' f' q'
section PKP
variable {r q r1 q1 : Nat → Int32} {f f1 : Nat → Nat → Int64} {r' : Nat → Nat} {f' : Nat → Nat → Int64} {q' : Nat → Int32} {R C i n m a b : Nat} {x y z p u v : Int32}
theorem P_ite {α : Type} {P : α → Prop} {c : Prop} {d : Decidable c} {a b : α} (ha : c → P a) (hb : ¬ c → P b) : P (@ite α c d a b) := by
  by_cases e : c
  · rw [if_pos e]; exact ha e
  · rw [if_neg e]; exact hb e
theorem RA_ite {c : Prop} {d : Decidable c} {a b : CRs} (ha : RA r' f' q' a) (hb : RA r' f' q' b) : RA r' f' q' (@ite CRs c d a b) := P_ite (fun _ => ha) (fun _ => hb)
theorem RB_ite {c : Prop} {d : Decidable c} {a b : Int32 × (Nat → Int32) × (Nat → Int32) × (Nat → Nat → Int64)} (ha : RB r' f' q' a) (hb : RB r' f' q' b) : RB r' f' q' (@ite (Int32 × (Nat → Int32) × (Nat → Int32) × (Nat → Nat → Int64)) c d a b) := P_ite (fun _ => ha) (fun _ => hb)
theorem RC_ite {c : Prop} {d : Decidable c} {a b : Int64 × (Nat → Int32) × (Nat → Int32) × (Nat → Nat → Int64)} (ha : RC r' f' q' a) (hb : RC r' f' q' b) : RC r' f' q' (@ite (Int64 × (Nat → Int32) × (Nat → Int32) × (Nat → Nat → Int64)) c d a b) := P_ite (fun _ => ha) (fun _ => hb)
theorem RN_ite {c : Prop} {d : Decidable c} {a b : Nat × (Nat → Int32) × (Nat → Int32) × (Nat → Nat → Int64)} (ha : RN r' f' q' a) (hb : RN r' f' q' b) : RN r' f' q' (@ite (Nat × (Nat → Int32) × (Nat → Int32) × (Nat → Nat → Int64)) c d a b) := P_ite (fun _ => ha) (fun _ => hb)
theorem RA_need (h : Rl r q f r' f' q') {A : Nat → CRs} (hA : ∀ n, n < 4 → RA r' f' q' (A n)) : RA r' f' q' (bnd2 (D_X5_needTable r q f p) (fun E x5 => if E = "" then A x5 else (E, 0, r, q, f))) := by
  rcases ntb (r := r) (q := q) (f := f) (p := p) with ⟨n, hn, rfl, h1, h2, h3⟩ | ⟨E, x1, x2, h1, h2⟩
  · rw [h1]
    show RA r' f' q' (if "" = "" then A n else ("", 0, r, q, f))
    rw [if_pos rfl]
    exact hA n hn
  · rw [h1]
    show RA r' f' q' (if E = "" then A 0 else (E, 0, r, q, f))
    rw [if_neg x1]
    exact h
theorem P_RN {α : Type} {P : α → Prop} {X : Nat × (Nat → Int32) × (Nat → Int32) × (Nat → Nat → Int64)} {k : Nat → (Nat → Int32) → (Nat → Int32) → (Nat → Nat → Int64) → α} (hX : RN r' f' q' X) (hk : ∀ i r1 q1 f1, Rl r1 q1 f1 r' f' q' → P (k i r1 q1 f1)) : P (bnd4 X k) := hk _ _ _ _ hX
theorem P_RB {α : Type} {P : α → Prop} {X : Int32 × (Nat → Int32) × (Nat → Int32) × (Nat → Nat → Int64)} {k : Int32 → (Nat → Int32) → (Nat → Int32) → (Nat → Nat → Int64) → α} (hX : RB r' f' q' X) (hk : ∀ i r1 q1 f1, Rl r1 q1 f1 r' f' q' → P (k i r1 q1 f1)) : P (bnd4 X k) := hk _ _ _ _ hX
theorem P_walk {α : Type} {P : α → Prop} (h : Rl r q f r' f' q') (hn : n < 4) {k : (Nat → Int32) → (Nat → Int32) → (Nat → Nat → Int64) → α} (hk : ∀ r1 q1 f1, Rl r1 q1 f1 r' f' q' → (r1 (2 * 7) = nI (r' (2 * n)) ∧ r1 (2 * 7 + 1) = nI (r' (2 * n))) → P (k r1 q1 f1)) : P (bnd3 (D_X4_walk r q f n) k) := by
  have hT := h.1 n hn
  have hb := hT.2.1
  obtain ⟨G, s1, w1, v1, w2, v2, hG, e1, e2, e3⟩ := walk_eq (q := q) hT.1 (show n ≠ 6 by omega) (show n ≠ 7 by omega) hb.1 hb.2.1 hb.2.2.1 (by omega) (fun k hk => sm_ng (hT.2.2.1 k hk)) hT.2.2.2
  rw [e1]
  exact hk (rs (rs r 6 (r' (2 * n)) (r' (2 * n + 1))) 7 (r' (2 * n)) (r' (2 * n))) (va_up q 0 G) (cs f w1 v1) (Rl_walk h) ⟨rs_R, rs_C⟩
/-- the steps, when they are not great -/
def Dg (r1 : Nat → Int32) (f1 : Nat → Nat → Int64) (R C : Nat) : Prop := ∃ (K : Nat) (w v u : Nat → Int64), (∀ k, k < 20 → f1 8 k = w k) ∧ (∀ k, k < 20 → f1 9 k = v k) ∧ (∀ k, k < 20 → f1 10 k = u k) ∧ Sd R C w v u ∧ Rk R C w K
theorem P_dwalk {α : Type} {P : α → Prop} (h : Rl r q f r' f' q') (hn : n < 4) {k : (Nat → Int32) → (Nat → Int32) → (Nat → Nat → Int64) → α} (hk : ∀ r1 q1 f1, Rl r1 q1 f1 r' f' q' → DH r1 (r' (2 * n)) (r' (2 * n + 1)) → (q1 1 = 0 → Dg r1 f1 (r' (2 * n)) (r' (2 * n + 1))) → P (k r1 q1 f1)) : P (bnd3 (D_X1_walk r q f n) k) := by
  have hT := h.1 n hn
  have hb := hT.2.1
  obtain ⟨G, j1, j2, K, w1, v1, u1, w2, v2, u2, hG, e1, e2, e3⟩ := dwalk_eq (q := q) hT.1 (show n ≠ 8 by omega) (show n ≠ 9 by omega) (show n ≠ 10 by omega) hb.1 hb.2.1 hb.2.2.1 hb.2.2.2 (sw_of hT) hT.2.2.2
  rw [e1]
  refine hk (rs (rs (rs r 8 (r' (2 * n)) (r' (2 * n + 1))) 9 (r' (2 * n)) (r' (2 * n))) 10 (r' (2 * n + 1)) (r' (2 * n + 1))) (va_up q 1 G) (ds f w1 v1 u1) (Rl_dwalk h) ⟨⟨(rs_R' (by decide)).trans ((rs_R' (by decide)).trans rs_R), (rs_C' (by decide)).trans ((rs_C' (by decide)).trans rs_C)⟩, ⟨(rs_R' (by decide)).trans rs_R, (rs_C' (by decide)).trans rs_C⟩, rs_R, rs_C⟩ (fun e => ?_)
  rw [vu_self] at e
  obtain ⟨rfl, rfl, rfl, hS, hK⟩ := e3 e
  exact ⟨K, w2, v2, u2, fun k hk => by rw [ds8, cpl hk], fun k hk => by rw [ds9, cpl hk], fun k hk => by rw [ds10, cpl hk], hS, hK⟩
theorem kp_shape (h : Rl r q f r' f' q') : RA r' f' q' (D_X5_shape r q f y z) := by
  unfold D_X5_shape
  exact RA_need h (fun n hn => h)
theorem kp_at (h : Rl r q f r' f' q') : RA r' f' q' (D_X5_at r q f y z u) := by
  have hj : ∀ (n : Nat) (w : Int32), RA r' f' q' (D_X5_at_j32 r q f z u n w) := fun n w => by
    unfold D_X5_at_j32
    exact RA_ite h h
  unfold D_X5_at
  exact RA_need h (fun n hn => RA_ite (hj _ _) (RA_ite (hj _ _) (hj _ _)))
theorem kp_isSame (h : Rl r q f r' f' q') : RA r' f' q' (D_X5_isSame r q f y z) := by
  unfold D_X5_isSame
  exact RA_need h (fun n hn => RA_need h (fun m hm => h))
theorem kp_determinant (h : Rl r q f r' f' q') : RA r' f' q' (D_X5_determinant r q f y z) := by
  have h1 : ∀ (r1 q1 : Nat → Int32) (f1 : Nat → Nat → Int64) (w : Int32), Rl r1 q1 f1 r' f' q' → RA r' f' q' (D_X5_determinant_j88 r1 q1 f1 w) := fun r1 q1 f1 w h1 => by
    unfold D_X5_determinant_j88
    exact RA_ite h1 h1
  have h2 : ∀ (n : Nat) (w : Int32), n < 4 → RA r' f' q' (D_X5_determinant_j39 r q f z n w) := fun n w hn => by
    unfold D_X5_determinant_j39
    exact RA_ite (RA_ite h (RA_ite h (P_walk h hn (fun r1 q1 f1 g1 _ => RA_ite (h1 _ _ _ _ g1) (h1 _ _ _ _ g1))))) h
  have h3 : ∀ (n : Nat) (w : Int32), n < 4 → RA r' f' q' (D_X5_determinant_j20 r q f z n w) := fun n w hn => by
    unfold D_X5_determinant_j20
    exact RA_ite (RA_ite (h2 _ _ hn) (h2 _ _ hn)) h
  unfold D_X5_determinant
  exact RA_need h (fun n hn => RA_ite (h3 _ _ hn) (RA_ite (h3 _ _ hn) (h3 _ _ hn)))
theorem kp_minor (h : Rl r q f r' f' q') : RA r' f' q' (D_X5_minor r q f y z u) := by
  have h1 : ∀ (n : Nat) (w : Int32), RA r' f' q' (D_X5_minor_j63 r q f z u n w) := fun n w => by
    unfold D_X5_minor_j63
    exact RA_ite h h
  have h2 : ∀ (n : Nat) (w : Int32), RA r' f' q' (D_X5_minor_j44 r q f z u n w) := fun n w => by
    unfold D_X5_minor_j44
    exact RA_ite (RA_ite (h1 _ _) (h1 _ _)) h
  unfold D_X5_minor
  exact RA_need h (fun n hn => RA_ite (h2 _ _) (RA_ite (h2 _ _) (RA_ite (h2 _ _) (RA_ite (h2 _ _) (h2 _ _)))))
theorem kp_divisor (h : Rl r q f r' f' q') : RA r' f' q' (D_X5_divisor r q f y z) := by
  have h1 : ∀ (n : Nat) (w : Int32), RA r' f' q' (D_X5_divisor_j31 r q f z n w) := fun n w => by
    unfold D_X5_divisor_j31
    exact RA_ite h h
  unfold D_X5_divisor
  exact RA_need h (fun n hn => RA_ite (h1 _ _) (RA_ite (h1 _ _) (RA_ite (h1 _ _) (h1 _ _))))
theorem kp_rank (h : Rl r q f r' f' q') : RA r' f' q' (D_X5_rank r q f y z) := by
  have h1 : ∀ (r1 q1 : Nat → Int32) (f1 : Nat → Nat → Int64) (w : Int32), Rl r1 q1 f1 r' f' q' → RA r' f' q' (D_X5_rank_j55 r1 q1 f1 w) := fun r1 q1 f1 w h1 => by
    unfold D_X5_rank_j55
    exact RA_ite h1 h1
  have h2 : ∀ (n : Nat) (w : Int32), n < 4 → RA r' f' q' (D_X5_rank_j20 r q f z n w) := fun n w hn => by
    unfold D_X5_rank_j20
    exact RA_ite (RA_ite h (P_walk h hn (fun r1 q1 f1 g1 _ => RA_ite (h1 _ _ _ _ g1) (h1 _ _ _ _ g1)))) h
  unfold D_X5_rank
  exact RA_need h (fun n hn => RA_ite (h2 _ _ hn) (RA_ite (h2 _ _ hn) (h2 _ _ hn)))
theorem kp_form (h : Rl r q f r' f' q') (hn : n < 4) : RN r' f' q' (D_X5_findForm r q f n p) := by
  unfold D_X5_findForm
  exact RN_ite (P_walk h hn (fun r1 q1 f1 g1 _ => RN_ite (RN_ite g1 g1) g1)) (RN_ite (P_walk h hn (fun r1 q1 f1 g1 _ => RN_ite (RN_ite g1 g1) g1)) (P_dwalk h hn (fun r1 q1 f1 g1 _ _ => RN_ite (RN_ite g1 (RN_ite g1 g1)) g1)))
theorem kp_told (h : Rl r q f r' f' q') : RA r' f' q' (D_X5_told r q f y z u v) := by
  have h1 : ∀ (n : Nat) (w : Int32), n < 4 → RA r' f' q' (D_X5_told_j86 r q f z u v n w) := fun n w hn => by
    unfold D_X5_told_j86
    exact RA_ite (P_RN (kp_form h hn) (fun i r1 q1 f1 g1 => RA_ite g1 g1)) h
  have h2 : ∀ (n : Nat) (w w2 : Int32), n < 4 → RA r' f' q' (D_X5_told_j57 r q f z u v n w w2) := fun n w w2 hn => by
    unfold D_X5_told_j57
    exact RA_ite (h1 _ _ hn) (RA_ite (h1 _ _ hn) (RA_ite (h1 _ _ hn) (RA_ite (h1 _ _ hn) (h1 _ _ hn))))
  have h3 : ∀ (n : Nat) (w : Int32), n < 4 → RA r' f' q' (D_X5_told_j32 r q f z u v n w) := fun n w hn => by
    unfold D_X5_told_j32
    exact RA_ite (h2 _ _ _ hn) (RA_ite (h2 _ _ _ hn) (h2 _ _ _ hn))
  unfold D_X5_told
  exact RA_need h (fun n hn => RA_ite (RA_ite (h3 _ _ hn) (h3 _ _ hn)) h)
theorem kp_change (h : Rl r q f r' f' q') : RA r' f' q' (D_X5_change r q f y z) := by
  have h1 : ∀ (n : Nat) (w : Int32), n < 4 → RA r' f' q' (D_X5_change_j101 r q f n w) := fun n w hn => by
    unfold D_X5_change_j101
    exact P_RN (kp_form h hn) (fun i r1 q1 f1 g1 => RA_ite g1 g1)
  have h2 : ∀ (n : Nat) (w : Int32), n < 4 → RA r' f' q' (D_X5_change_j20 r q f z n w) := fun n w hn => by
    unfold D_X5_change_j20
    exact RA_ite (RA_ite (P_walk h hn (fun r1 q1 f1 g1 _ => RA_ite g1 g1)) (RA_ite (P_dwalk h hn (fun r1 q1 f1 g1 _ _ => RA_ite g1 g1)) (RA_ite (h1 _ _ hn) (RA_ite (h1 _ _ hn) (h1 _ _ hn))))) h
  unfold D_X5_change
  exact RA_need h (fun n hn => RA_ite (h2 _ _ hn) (RA_ite (h2 _ _ hn) (h2 _ _ hn)))
theorem kp_house (h : Rl r q f r' f' q') : RA r' f' q' (D_X5_house r q f y) := by
  have h1 : ∀ (w : Int32), RA r' f' q' (D_X5_house_j14 r q f y w) := fun w => by
    unfold D_X5_house_j14
    exact RA_ite h h
  unfold D_X5_house
  exact RA_ite (h1 _) (RA_ite (h1 _) (h1 _))
theorem kp_restColumn (h : Rl r q f r' f' q') : RA r' f' q' (D_X5_restColumn r q f y z u) := by
  have h1 : ∀ (r1 q1 : Nat → Int32) (f1 : Nat → Nat → Int64) (t w : Int32), Rl r1 q1 f1 r' f' q' → RA r' f' q' (D_X5_restColumn_j77 z u r1 q1 f1 t w) := fun r1 q1 f1 t w h1 => by
    unfold D_X5_restColumn_j77
    exact RA_ite h1 h1
  have h2 : ∀ (n : Nat) (r1 q1 : Nat → Int32) (f1 : Nat → Nat → Int64) (w : Int32), Rl r1 q1 f1 r' f' q' → RA r' f' q' (D_X5_restColumn_j31 z u n r1 q1 f1 w) := fun n r1 q1 f1 w g => by
    unfold D_X5_restColumn_j31
    exact RA_ite (RA_ite (h1 _ _ _ _ _ g) (RA_ite (h1 _ _ _ _ _ g) (RA_ite (h1 _ _ _ _ _ g) (RA_ite (h1 _ _ _ _ _ g) (h1 _ _ _ _ _ g))))) g
  unfold D_X5_restColumn
  exact RA_need h (fun n hn => P_dwalk h hn (fun r1 q1 f1 g1 _ _ => RA_ite (h2 _ _ _ _ _ g1) (h2 _ _ _ _ _ g1)))
/-- divided -/
theorem kp_divide (h : Rl r q f r' f' q') (hn : n < 4) (hm : m < 4) (hD : DH r (r' (2 * n)) (r' (2 * n + 1))) (hG : Dg r f (r' (2 * n)) (r' (2 * n + 1))) (hs : r (2 * m) = nI (r' (2 * n))) (hb5 : b < 5) : RB r' f' q' (D_X2_divide r q f m (nI b)) := by
  obtain ⟨K, w, v, u, g1, g2, g3, g4, g5⟩ := hG
  have hb := (h.1 n hn).2.1
  obtain ⟨r4, f4, q1, q2, q3, q4⟩ := div_eq (q := q) (g := f m) hb hD.1 hD.2.1 hs hm g1 g2 (fun _ _ => rfl) hb5 g5
  have hR : Rl r4 q f4 r' f' q' := Rl_keep h (fun i hi => ⟨q1 i (by omega), q2 i (by omega)⟩) ⟨rfl, rfl, rfl⟩
  rcases q4 with ⟨_, e, _⟩ | ⟨_, e⟩
  · rw [e]; exact hR
  · rw [e]; exact hR
theorem kp_solv (h : Rl r q f r' f' q') (hn : n < 4) : ∀ (k y : Nat) (g : Nat → Int64), y ≤ r' (2 * n) → r' (2 * n) - y < k → RA r' f' q' (D_X5_isSolvable_134 p n m (rs r 4 a b) q k (nI y) (va_up f 4 g)) := by
  have hT := h.1 n hn
  have hb := hT.2.1
  have hR : ∀ g, Rl (rs r 4 a b) q (va_up f 4 g) r' f' q' := fun g => Rl_keep h (fun i hi => ro (by omega)) ⟨rfl, rfl, rfl⟩
  intro k
  induction k with
  | zero => intro y g _ h; omega
  | succ k ih =>
    intro y g hy hk
    rw [D_X5_isSolvable_134_s, (rs_R' (by omega)).trans hT.1.1, (rs_C' (by omega)).trans hT.1.2.1]
    by_cases e : r' (2 * n) ≤ y
    · rw [if_pos (ile e (by omega))]
      exact RA_ite (RA_ite (hR g) (hR g)) (hR g)
    · rw [if_neg (nile e (by omega)), bnd1_e, bnd1_e, cset (by omega) (by omega), vu2, s1]
      exact ih (y + 1) _ (by omega) (by omega)
theorem bnd2_e {α α2 β : Type} {a : α} {b : α2} {k : α → α2 → β} : bnd2 (a, b) k = k a b := rfl
theorem bnd3_e {α α2 α3 β : Type} {a : α} {b : α2} {c : α3} {k : α → α2 → α3 → β} : bnd3 (a, b, c) k = k a b c := rfl
theorem bnd4_e {α α2 α3 α4 β : Type} {a : α} {b : α2} {c : α3} {d : α4} {k : α → α2 → α3 → α4 → β} : bnd4 (a, b, c, d) k = k a b c d := rfl
theorem is1 : D_X5_needState r q f 1 = "" := if_neg (by decide)
theorem is0 : D_X5_needState r q f 0 = "java/lang/IllegalStateException" := if_pos rfl
theorem e_ne3 : ¬ ("java/lang/IllegalStateException" = "") := by decide
theorem kp_isSolvable (h : Rl r q f r' f' q') : RA r' f' q' (D_X5_isSolvable r q f y z u v) := by
  unfold D_X5_isSolvable
  refine RA_need h (fun n hn => RA_need h (fun m hm => ?_))
  have hT := h.1 n hn
  have hb := hT.2.1
  have hM := h.1 m hm
  have hbm := hM.2.1
  rcases hcol h hm (c := 1) (by decide) (k := u) with ⟨b, rfl, b1, b2, b3, b4, b5⟩ | ⟨b3, b4⟩
  · rw [b3]
    have hj0 : RA r' f' q' (D_X5_isSolvable_j53 r q f (nI b) v n m 0) := by
      unfold D_X5_isSolvable_j53
      rw [bnd1_e, ia0, if_neg e_ne2]
      exact h
    have hj1 : r' (2 * n) = r' (2 * m) → RA r' f' q' (D_X5_isSolvable_j53 r q f (nI b) v n m 1) := by
      intro hs
      unfold D_X5_isSolvable_j53
      rw [bnd1_e, ia1, if_pos rfl]
      refine P_ite (fun _ => P_dwalk h hn (fun r1 q1 f1 g1 D1 G1 => P_ite (fun e => ?_) (fun _ => ?_))) (fun _ => ?_)
      · unfold D_X5_isSolvable_j85
        rw [bnd1_e, is1, if_pos rfl]
        exact P_RB (P := RA r' f' q') (kp_divide g1 hn hm D1 (G1 e) ((g1.1 m hm).1.1.trans (congrArg nI hs.symm)) (by omega)) (fun i r1 q1 f1 g => g)
      · unfold D_X5_isSolvable_j85
        rw [bnd1_e, is0, if_neg e_ne3]
        exact g1
      · rw [hT.1.1, hT.1.2.1, s1, crs hb.1 hb.2.1 (by omega) (by omega)]
        rw [bnd3_e]
        rw [cto (i := 4) (j := n) (R := r' (2 * n)) (C := r' (2 * n + 1) + 1) (Rj := r' (2 * n)) (Cj := r' (2 * n + 1)) (by omega) rs_R ((rs_R' (by omega)).trans hT.1.1) rs_C ((rs_C' (by omega)).trans hT.1.2.1) hb.2.1 hb.2.1 (by omega) (by omega), bnd1_e, vu2, (rs_R' (by omega)).trans hT.1.1, show gap (nI (r' (2 * n))) 0 = r' (2 * n) - 0 from gapN (b := 0) (by omega) (by omega)]
        exact kp_solv h hn _ 0 _ (by omega) (by omega)
    rw [bnd1_e, bnd1_e, nx1, if_pos rfl]
    refine P_ite (fun e => ?_) (fun _ => hj0)
    have hs : r' (2 * n) = r' (2 * m) := nI_inj (by omega) (by omega) (hT.1.1.symm.trans (e.trans hM.1.1))
    exact RA_ite (hj1 hs) (RA_ite (hj1 hs) hj0)
  · rw [b3, bnd1_e, bnd1_e, nx0, if_neg e_ne]
    exact h
theorem srn {g : Nat → Nat → Int64} {t : Int64} (hi : i < 4) : D_X5_setRowNumber r q g p t i = g i := by
  unfold D_X5_setRowNumber
  exact P_ite (P := fun (z : Nat → Nat → Int64) => z i = g i) (fun _ => rfl) (fun _ => P_ite (P := fun (z : Nat → Nat → Int64) => z i = g i) (fun _ => rfl) (fun _ => vu_ne (by omega)))
theorem Rl_srn {t : Int64} (h : Rl r q f r' f' q') : Rl r q (D_X5_setRowNumber r1 q1 f p t) r' f' q' := Rl_keep h (fun i hi => ⟨⟨rfl, rfl⟩, srn hi⟩) ⟨rfl, rfl, rfl⟩
theorem kp_leaves (h : Rl r q f r' f' q') (hn : n < 4) : RB r' f' q' (D_X5_leavesRests r q f n) := by
  unfold D_X5_leavesRests
  exact RB_ite (RB_ite h (P_walk h hn (fun r1 q1 f1 g1 _ => RB_ite g1 g1))) h
theorem kp_r136 (hn : n < 4) {lb : Int32 → Int64 → (Nat → Nat → Int64) → CRs} {a C : Nat} {s t e : Int64} (hC : r (2 * n + 1) = nI C) (hC4 : C ≤ 4) (hk : ∀ s f, Rl r q f r' f' q' → RA r' f' q' (lb (nI (a + 1)) s f)) : ∀ (k y : Nat) (f : Nat → Nat → Int64), y ≤ C → C - y < k → Rl r q f r' f' q' → RA r' f' q' (D_X5_restOf_136 n r q lb (nI a) s t e k (nI y) f) := by
  intro k
  induction k with
  | zero => intro y f _ h; omega
  | succ k ih =>
    intro y f hy hk2 h
    rw [D_X5_restOf_136_s, hC]
    by_cases e1 : C ≤ y
    · rw [if_pos (ile e1 (by omega)), bnd1_e, s1]
      exact hk _ _ h
    · rw [if_neg (nile e1 (by omega)), bnd1_e, bnd1_e, bnd1_e, s1]
      exact ih (y + 1) _ (by omega) (by omega) (Rl_srn h)
theorem kp_r93 (hn : n < 4) {C : Nat} (hC : r (2 * n + 1) = nI C) (hC4 : C ≤ 4) : ∀ (k y : Nat) (s : Int64) (f : Nat → Nat → Int64), y ≤ C → C - y < k → Rl r q f r' f' q' → RA r' f' q' (D_X5_restOf_93 n r q k (nI y) s f) := by
  intro k
  induction k with
  | zero => intro y s f _ h; omega
  | succ k ih =>
    intro y s f hy hk2 h
    rw [D_X5_restOf_93_s, hC]
    by_cases e1 : C ≤ y
    · rw [if_pos (ile e1 (by omega))]
      exact h
    · rw [if_neg (nile e1 (by omega)), bnd1_e, bnd1_e, bnd1_e, gapN (by omega) (by omega)]
      exact kp_r136 hn hC hC4 (fun s f h => ih (y + 1) s f (by omega) (by omega) h) _ y f hy (by omega) h
theorem kp_r57 (hn : n < 4) {C : Nat} (hC : r (2 * n + 1) = nI C) (hC4 : C ≤ 4) : ∀ (k y : Nat) (f : Nat → Nat → Int64), y ≤ C → C - y < k → Rl r q f r' f' q' → RA r' f' q' (D_X5_restOf_57 p n m r q k (nI y) f) := by
  intro k
  induction k with
  | zero => intro y f _ h; omega
  | succ k ih =>
    intro y f hy hk2 h
    rw [D_X5_restOf_57_s, hC]
    by_cases e1 : C ≤ y
    · rw [if_pos (ile e1 (by omega)), show gap (nI C) 0 = C - 0 from gapN (b := 0) (by omega) (by omega)]
      exact kp_r93 hn hC hC4 _ 0 _ f (by omega) (by omega) h
    · rw [if_neg (nile e1 (by omega)), bnd1_e, bnd1_e, s1]
      exact ih (y + 1) _ (by omega) (by omega) (Rl_srn h)
theorem kp_restOf (h : Rl r q f r' f' q') : RA r' f' q' (D_X5_restOf r q f y z u) := by
  unfold D_X5_restOf
  refine RA_need h (fun n hn => RA_need h (fun m hm => RA_ite (P_RB (kp_leaves h hn) (fun i r1 q1 f1 g1 => RA_ite (RA_ite ?_ ?_) g1)) h))
  · unfold D_X5_restOf_j51
    have hT := g1.1 n hn
    rw [bnd1_e]
    refine RA_ite ?_ g1
    rw [hT.1.2.1, show gap (nI (r' (2 * n + 1))) 0 = r' (2 * n + 1) - 0 from gapN (b := 0) (by have := hT.2.1; omega) (by omega)]
    exact kp_r57 hn hT.1.2.1 (by have := hT.2.1; omega) _ 0 f1 (by omega) (by omega) g1
  · unfold D_X5_restOf_j51
    have hT := g1.1 n hn
    rw [bnd1_e]
    refine RA_ite ?_ g1
    rw [hT.1.2.1, show gap (nI (r' (2 * n + 1))) 0 = r' (2 * n + 1) - 0 from gapN (b := 0) (by have := hT.2.1; omega) (by omega)]
    exact kp_r57 hn hT.1.2.1 (by have := hT.2.1; omega) _ 0 f1 (by omega) (by omega) g1
theorem kp_sRow (h : Rl r q f r' f' q') (hn : n < 4) (hs : r (2 * 7) = nI (r' (2 * n)) ∧ r (2 * 7 + 1) = nI (r' (2 * n))) : RB r' f' q' (D_X5_isSoundByRowSteps r q f n) := by
  have hT := h.1 n hn
  have hb := hT.2.1
  unfold D_X5_isSoundByRowSteps
  rw [cbp (by decide) (by omega) hs.1 hs.2 hT.1.2.1 hb.1 hb.2.1 hb.2.2.1 (by omega) hb.2.1]
  have hR : ∀ g, Rl (rs r 5 (r' (2 * n)) (r' (2 * n + 1))) q (va_up f 5 g) r' f' q' := fun g => Rl_keep h (fun i hi => ro (by omega)) ⟨rfl, rfl, rfl⟩
  rw [bnd3_e, bnd1_e]
  refine RB_ite (hR _) ?_
  rw [bnd1_e, bnd1_e]
  refine RB_ite (RB_ite ?_ (hR _)) (hR _)
  rw [bnd1_e, bnd1_e]
  exact RB_ite (hR _) (hR _)
theorem kp_s54 (h : Rl r q f r' f' q') (hn : n < 4) : ∀ k y : Nat, y ≤ r' (2 * n) → r' (2 * n) - y < k → RB r' f' q' (D_X5_isSoundBySteps_54 n r q f k (nI y)) := by
  have hT := h.1 n hn
  have hb := hT.2.1
  intro k
  induction k with
  | zero => intro y _ h; omega
  | succ k ih =>
    intro y hy hk
    rw [D_X5_isSoundBySteps_54_s, hT.1.1]
    by_cases e : r' (2 * n) ≤ y
    · rw [if_pos (ile e (by omega))]
      exact h
    · rw [if_neg (nile e (by omega)), s1]
      exact RB_ite h (RB_ite (ih (y + 1) (by omega) (by omega)) h)
theorem kp_sStep (h : Rl r q f r' f' q') (hn : n < 4) (hD : DH r (r' (2 * n)) (r' (2 * n + 1))) : RB r' f' q' (D_X5_isSoundBySteps r q f n) := by
  have hT := h.1 n hn
  have hb := hT.2.1
  unfold D_X5_isSoundBySteps
  rw [cbp (by decide) (by omega) hD.2.1.1 hD.2.1.2 hT.1.2.1 hb.1 hb.2.1 hb.2.2.1 (by omega) hb.2.1]
  have h1 : ∀ g, Rl (rs r 4 (r' (2 * n)) (r' (2 * n + 1))) q (va_up f 4 g) r' f' q' := fun g => Rl_keep h (fun i hi => ro (by omega)) ⟨rfl, rfl, rfl⟩
  generalize pd (r' (2 * n)) (r' (2 * n)) 0 (r' (2 * n + 1)) (f 9) (f n) (zf 20 (f 4)) = g
  rw [bnd3_e, cbp (by decide) (by decide) rs_R rs_C ((rs_C' (by decide)).trans hD.2.2.2) hb.1 hb.2.1 hb.2.2.1 (by omega) hb.2.2.2]
  have h2 : ∀ k, Rl (rs (rs r 4 (r' (2 * n)) (r' (2 * n + 1))) 5 (r' (2 * n)) (r' (2 * n + 1))) q (va_up (va_up f 4 g) 5 k) r' f' q' := fun k => Rl_keep (h1 g) (fun i hi => ro (by omega)) ⟨rfl, rfl, rfl⟩
  rw [bnd3_e, bnd1_e]
  refine RB_ite (h2 _) ?_
  have h3 : (rs (rs r 4 (r' (2 * n)) (r' (2 * n + 1))) 5 (r' (2 * n)) (r' (2 * n + 1))) (2 * n) = nI (r' (2 * n)) := (rs_R' (by omega)).trans ((rs_R' (by omega)).trans hT.1.1)
  rw [h3, show gap (nI (r' (2 * n))) 0 = r' (2 * n) - 0 from gapN (b := 0) (by omega) (by omega)]
  exact kp_s54 (h2 _) hn _ 0 (by omega) (by omega)
theorem kp_first (h : Rl r q f r' f' q') : RB r' f' q' (D_X5_isFirstSound r q f) := by
  have hst : ∀ (r1 q1 : Nat → Int32) (f1 : Nat → Nat → Int64), Rl r1 q1 f1 r' f' q' → RB r' f' q' (bnd3 (D_X1_walk r1 q1 f1 0) (fun r2 q2 f2 => if q2 1 = 0 then bnd4 (D_X5_isSoundBySteps r2 q2 f2 0) (fun x r3 q3 f3 => if x = 0 then (0, r3, q3, f3) else (1, r3, q3, f3)) else (1, r2, q2, f2))) := fun r1 q1 f1 g1 => P_dwalk g1 (by decide) (fun r2 q2 f2 g2 D2 _ => RB_ite (P_RB (kp_sStep g2 (by decide) D2) (fun i r3 q3 f3 g3 => RB_ite g3 g3)) g2)
  have hrow : RB r' f' q' (bnd3 (D_X4_walk r q f 0) (fun r1 q1 f1 => if q1 0 = 0 then bnd4 (D_X5_isSoundByRowSteps r1 q1 f1 0) (fun x r2 q2 f2 => if x = 0 then (0, r2, q2, f2) else bnd3 (D_X1_walk r2 q2 f2 0) (fun r2 q2 f2 => if q2 1 = 0 then bnd4 (D_X5_isSoundBySteps r2 q2 f2 0) (fun x r3 q3 f3 => if x = 0 then (0, r3, q3, f3) else (1, r3, q3, f3)) else (1, r2, q2, f2))) else bnd3 (D_X1_walk r1 q1 f1 0) (fun r2 q2 f2 => if q2 1 = 0 then bnd4 (D_X5_isSoundBySteps r2 q2 f2 0) (fun x r3 q3 f3 => if x = 0 then (0, r3, q3, f3) else (1, r3, q3, f3)) else (1, r2, q2, f2)))) := P_walk h (by decide) (fun r1 q1 f1 g1 s1 => RB_ite (P_RB (kp_sRow g1 (by decide) s1) (fun i r2 q2 f2 g2 => RB_ite g2 (hst _ _ _ g2))) (hst _ _ _ g1))
  unfold D_X5_isFirstSound
  exact RB_ite h (RB_ite (RB_ite (RB_ite hrow h) hrow) h)
theorem kp_isSound (h : Rl r q f r' f' q') : RB r' f' q' (D_X5_isSound r q f) := by
  unfold D_X5_isSound
  exact P_RB (kp_first h) (fun i r1 q1 f1 g => g)
theorem kp_d30 (h : Rl r q f r' f' q') : ∀ (k y : Nat) (s : Int64), y ≤ 4 → 4 - y < k → RC r' f' q' (D_X5_digest_30 r q f k (nI y) s) := by
  intro k
  induction k with
  | zero => intro y s _ h; omega
  | succ k ih =>
    intro y s hy hk
    rw [D_X5_digest_30_s]
    by_cases e : 3 < y
    · rw [if_pos (show (3 : Int32) < nI y from nI_lt (a := 3) e (by omega))]
      exact P_RB (kp_first h) (fun i r1 q1 f1 g => RC_ite g g)
    · rw [if_neg (show ¬ (3 : Int32) < nI y from nI_nlt (a := 3) (b := y) (by omega) (by omega)), bnd1_e, s1]
      exact ih (y + 1) _ (by omega) (by omega)
theorem kp_d6 (h : Rl r q f r' f' q') : ∀ (k y : Nat) (s : Int64), y ≤ 4 → 4 - y < k → RC r' f' q' (D_X5_digest_6 r q f k (nI y) s) := by
  intro k
  induction k with
  | zero => intro y s _ h; omega
  | succ k ih =>
    intro y s hy hk
    rw [D_X5_digest_6_s]
    by_cases e : 4 ≤ y
    · rw [if_pos (show (4 : Int32) ≤ nI y from ile (a := 4) e (by omega))]
      exact kp_d30 h _ 0 _ (by omega) (by decide)
    · rw [if_neg (show ¬ (4 : Int32) ≤ nI y from nile (a := 4) e (by omega)), bnd1_e, s1]
      exact ih (y + 1) _ (by omega) (by omega)
theorem kp_digest (h : Rl r q f r' f' q') : RC r' f' q' (D_X5_digest r q f) := by
  unfold D_X5_digest
  exact kp_d6 h _ 0 _ (by omega) (by decide)
/-! ===== What is answered, for what needs no more than the tables ===== -/
theorem an_shape (h : Rl r q f r' f' q') : An (D_X5_shape r q f y z).1 (D_X5_shape r q f y z).2.1 ((D_X10_shape r' f' q' y z).2 3) (D_X10_shape r' f' q' y z).1 := by
  unfold D_X5_shape D_X10_shape
  rcases ntb (r := r) (q := q) (f := f) (p := y) with ⟨n, hn, rfl, h1, h2, h3⟩ | ⟨E, x1, x2, h1, h2⟩
  · rw [h1, h2]
    dsimp only [bnd2, bnd1]
    have hT := h.1 n hn
    rw [if_pos rfl, if_neg one0, th1_0, h3]
    unfold D_X3_countLines
    by_cases hp : z = 0
    · rw [if_pos hp, if_pos hp]
      exact Or.inl ⟨rfl, (vu_self : va_up q' 3 0 3 = 0), hT.1.1⟩
    · rw [if_neg hp, if_neg hp]
      exact Or.inl ⟨rfl, (vu_self : va_up q' 3 0 3 = 0), hT.1.2.1⟩
  · rw [h1, h2]
    dsimp only [bnd2, bnd1]
    rw [if_neg x1, if_pos rfl, th1_1, x2]
    exact Or.inr (Or.inl ⟨rfl, (vu_self : va_up q' 3 1 3 = 1)⟩)
theorem an_at (h : Rl r q f r' f' q') : An (D_X5_at r q f y z u).1 (D_X5_at r q f y z u).2.1 ((D_X10_at r' f' q' y z u).2 3) (D_X10_at r' f' q' y z u).1 := by
  unfold D_X5_at D_X10_at
  rcases ntb (r := r) (q := q) (f := f) (p := y) with ⟨n, hn, rfl, h1, h2, h3⟩ | ⟨E, x1, x2, h1, h2⟩
  · rw [h1]
    dsimp only [bnd2, bnd1]
    have hT := h.1 n hn
    have hb := hT.2.1
    rw [if_pos rfl, th1_1, th1_0]
    rcases hrow h hn (k := z) with ⟨a, rfl, a1, a2, a3, a4, a5⟩ | ⟨a3, a4⟩
    · rw [a3, a4, if_neg one0, if_neg one0]
      rcases hcol h hn (c := 1) (by decide) (k := u) with ⟨b, rfl, b1, b2, b3, b4, b5⟩ | ⟨b3, b4⟩
      · rw [b3, b4, if_neg one0, if_neg one0, a5, b5, h3]
        unfold D_X5_at_j32
        dsimp only [bnd1]
        rw [nx1, if_pos rfl, cget a2 (by omega), tb_v hT (by omega)]
        exact Or.inl ⟨rfl, (vu_self : va_up q' 3 0 3 = 0), rfl⟩
      · rw [b3, b4, if_pos rfl, if_pos rfl]
        unfold D_X5_at_j32
        dsimp only [bnd1]
        rw [nx0, if_neg e_ne]
        exact Or.inr (Or.inl ⟨rfl, (vu_self : va_up q' 3 1 3 = 1)⟩)
    · rw [a3, a4, if_pos rfl, if_pos rfl]
      unfold D_X5_at_j32
      dsimp only [bnd1]
      rw [nx0, if_neg e_ne]
      exact Or.inr (Or.inl ⟨rfl, (vu_self : va_up q' 3 1 3 = 1)⟩)
  · rw [h1]
    dsimp only [bnd2, bnd1]
    rw [if_neg x1, (isT_0 h2).1, if_pos rfl, th1_1, x2]
    exact Or.inr (Or.inl ⟨rfl, (vu_self : va_up q' 3 1 3 = 1)⟩)
theorem an_isSame (h : Rl r q f r' f' q') : An (D_X5_isSame r q f y z).1 (D_X5_isSame r q f y z).2.1 ((D_X10_isSame r' f' q' y z).2 3) (D_X10_isSame r' f' q' y z).1 := by
  unfold D_X5_isSame D_X10_isSame
  rcases ntb (r := r) (q := q) (f := f) (p := y) with ⟨n, hn, rfl, h1, h2, h3⟩ | ⟨E, x1, x2, h1, h2⟩
  · rw [h1, h2]
    dsimp only [bnd2, bnd1]
    rw [if_pos rfl, if_neg one0, th1_1, th1_0, h3]
    rcases ntb (r := r) (q := q) (f := f) (p := z) with ⟨m, hm, rfl, g1, g2, g3⟩ | ⟨E, x1, x2, g1, g2⟩
    · rw [g1, g2]
      dsimp only
      rw [if_pos rfl, if_neg one0, g3]
      rcases like_eq (q := q) (h.1 n hn) (h.1 m hm) with ⟨a1, a2, a3⟩ | ⟨a1, a2, a3⟩
      · rw [a1, a2, if_neg one0]
        exact Or.inl ⟨rfl, (vu_self : va_up q' 3 0 3 = 0), rfl⟩
      · rw [a1, a2, if_pos rfl]
        exact Or.inl ⟨rfl, (vu_self : va_up q' 3 0 3 = 0), rfl⟩
    · rw [g1, g2]
      dsimp only
      rw [if_neg x1, if_pos rfl, x2]
      exact Or.inr (Or.inl ⟨rfl, (vu_self : va_up q' 3 1 3 = 1)⟩)
  · rw [h1, h2]
    dsimp only [bnd2, bnd1]
    rw [if_neg x1, if_pos rfl, th1_1, x2]
    exact Or.inr (Or.inl ⟨rfl, (vu_self : va_up q' 3 1 3 = 1)⟩)
end PKP
