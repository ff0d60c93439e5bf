/-- the block from t, t, in whole numbers, 0 elsewhere -/
noncomputable def Xo (R C t : Nat) (w : Nat → Int64) (i j : Nat) : Int := if t + i < R ∧ t + j < C then (w ((t + i) * 5 + (t + j))).toInt else 0
def sw (m i : Nat) : Nat := if i = 0 then m else if i = m then 0 else i
section PBG
variable {w w3 : Nat → Int64} {R C t : Nat}
theorem sw_x {M : Nat} (h : M ≤ 2) : ∃ m1 a a', pm a a' ∧ ((M = 0 ∧ m1 = a) ∨ (M = a ∧ m1 = 0)) ∧ sw M a = m1 ∧ sw M a' = a' := by
  have : M = 0 ∨ M = 1 ∨ M = 2 := by omega
  rcases this with rfl | rfl | rfl
  · exact ⟨1, 1, 2, Or.inl ⟨rfl, rfl⟩, Or.inl ⟨rfl, rfl⟩, rfl, rfl⟩
  · exact ⟨0, 1, 2, Or.inl ⟨rfl, rfl⟩, Or.inr ⟨rfl, rfl⟩, rfl, rfl⟩
  · exact ⟨0, 2, 1, Or.inr ⟨rfl, rfl⟩, Or.inr ⟨rfl, rfl⟩, rfl, rfl⟩
theorem sw_t {t M i : Nat} : (if t + i = t then t + M else if t + i = t + M then t else t + i) = t + sw M i := by
  unfold sw
  by_cases h : i = 0
  · rw [if_pos (by omega), if_pos h]
  · rw [if_neg (by omega), if_neg h]
    by_cases g : i = M
    · rw [if_pos (by omega), if_pos g]; rfl
    · rw [if_neg (by omega), if_neg g]
theorem sw_l {t M i R : Nat} (h : t + M < R) : t + sw M i < R ↔ t + i < R := by
  unfold sw
  by_cases h0 : i = 0
  · rw [if_pos h0]; omega
  · rw [if_neg h0]
    by_cases g : i = M
    · rw [if_pos g]; omega
    · rw [if_neg g]
theorem xo_in {i j : Nat} (h : t + i < R ∧ t + j < C) : Xo R C t w i j = (w ((t + i) * 5 + (t + j))).toInt := if_pos h
theorem xo_out {i j : Nat} (h : ¬ (t + i < R ∧ t + j < C)) : Xo R C t w i j = 0 := if_neg h
theorem na_i {x : Int64} : (na x : Int) = x.toInt ∨ (na x : Int) = -x.toInt := by unfold na; omega
theorem na_p {x : Int64} : 0 ≤ (na x : Int) := Int.natCast_nonneg _
theorem nz_i {x : Int64} (h : ¬ x = 0) : x.toInt ≠ 0 := fun e => h (Int64.toInt_inj.mp e)
theorem Ps_Pv (hP : Ps R C t w w3) (hR : R ≤ t + 3) (hC : C ≤ t + 3) (ht : t < R ∧ t < C) : Pv (Xo R C t w) (Xo R C t w3) := by
  obtain ⟨m, c0, s, Q, K, B, W1, W2, hm, hs, hn, hl, hf, hB, hp, a1, a2, a3, a4, a5, a6, hE⟩ := hP
  obtain ⟨M, rfl⟩ : ∃ M, m = t + M := ⟨m - t, by omega⟩
  obtain ⟨N, rfl⟩ : ∃ N, c0 = t + N := ⟨c0 - t, by omega⟩
  obtain ⟨m1, a, a', pa, ga, sa1, sa2⟩ := sw_x (M := M) (by omega)
  obtain ⟨c1, b, b', pb, gb, sb1, sb2⟩ := sw_x (M := N) (by omega)
  have za := pmp pa
  have zb := pmp pb
  have hXB : ∀ i j, t + i < R → t + j < C → B (t + i) (t + j) = (if i = 0 then s else 1) * Xo R C t w (sw M i) (sw N j) := by
    intro i j hi hj
    rw [hB _ _ (by omega) hi (by omega) hj, sw_t, sw_t, xo_in ⟨(sw_l hm.2.1).mpr hi, (sw_l hm.2.2.2).mpr hj⟩]
    by_cases h : i = 0
    · rw [if_pos h, if_pos (by omega)]
    · rw [if_neg h, if_neg (by omega)]
  have hX0 : ∀ i j, ¬ (t + i < R ∧ t + j < C) → Xo R C t w (sw M i) (sw N j) = 0 := by
    intro i j h
    refine xo_out (fun g => h ⟨(sw_l hm.2.1).mp g.1, (sw_l hm.2.2.2).mp g.2⟩)
  have hp0 : B t t = s * Xo R C t w M N := by
    have := hXB 0 0 ht.1 ht.2
    rwa [if_pos rfl, show sw M 0 = M from rfl, show sw N 0 = N from rfl] at this
  obtain ⟨W, hW⟩ : ∃ W : Nat → Nat → Int, ∀ i j, W i j = if t + i < R ∧ t + j < C then W2 (t + i) (t + j) else 0 := ⟨_, fun i j => rfl⟩
  obtain ⟨θ, hθ⟩ : ∃ θ : Nat → Int, ∀ i, θ i = if t + i < R then Q (t + i) else 0 := ⟨_, fun i => rfl⟩
  obtain ⟨κ, hκ⟩ : ∃ κ : Nat → Int, ∀ j, κ j = if t + j < C then K (t + j) else 0 := ⟨_, fun j => rfl⟩
  have w00 : W 0 0 = B t t := by
    rw [hW, if_pos ⟨ht.1, ht.2⟩]
    show W2 t t = _
    rw [a4 t (Nat.le_refl _) ht.1, a1 t (Nat.le_refl _) ht.2]
  have w0 : ∀ j, 0 < j → W 0 j = s * Xo R C t w M (sw N j) - κ j * B t t := by
    intro j hj
    rw [hW, hκ]
    by_cases g : t + j < C
    · rw [if_pos ⟨ht.1, g⟩, if_pos g]
      show W2 t (t + j) = _
      rw [a5 t (t + j) (Nat.le_refl _) ht.1 (by omega) g, a1 _ (by omega) g, a1 t (Nat.le_refl _) ht.2]
      have := hXB 0 j ht.1 g
      rw [if_pos rfl, show sw M 0 = M from rfl] at this
      rw [show B t (t + j) = B (t + 0) (t + j) from rfl, this]
    · rw [if_neg (fun h => g h.2), if_neg g]
      have := hX0 0 j (fun h => g h.2)
      rw [show sw M 0 = M from rfl] at this
      rw [this, Int.mul_zero, Int.zero_mul]
      rfl
  have wr : ∀ i j, 0 < i → t + i < R → t + j < C → W1 (t + i) (t + j) = Xo R C t w (sw M i) (sw N j) - θ i * (s * Xo R C t w M (sw N j)) := by
    intro i j hi h1 h2
    rw [a2 (t + i) (t + j) (by omega) h1 (by omega) h2, hXB i j h1 h2, if_neg (by omega), Int.one_mul, hθ, if_pos h1]
    have := hXB 0 j ht.1 h2
    rw [if_pos rfl, show sw M 0 = M from rfl] at this
    rw [show B t (t + j) = B (t + 0) (t + j) from rfl, this]
  have wi : ∀ i, 0 < i → W i 0 = Xo R C t w (sw M i) N - θ i * B t t := by
    intro i hi
    by_cases g : t + i < R
    · rw [hW, if_pos ⟨g, ht.2⟩]
      show W2 (t + i) t = _
      rw [a4 _ (by omega) g]
      have := wr i 0 hi g ht.2
      rw [show sw N 0 = N from rfl, ← hp0] at this
      exact this
    · rw [hW, if_neg (fun h => g h.1), hθ, if_neg g]
      have := hX0 i 0 (fun h => g h.1)
      rw [show sw N 0 = N from rfl] at this
      rw [this, Int.zero_mul]
      rfl
  have wij : ∀ i j, 0 < i → 0 < j → W i j = Xo R C t w (sw M i) (sw N j) - θ i * (s * Xo R C t w M (sw N j)) - κ j * W i 0 := by
    intro i j hi hj
    by_cases g : t + i < R
    · by_cases g2 : t + j < C
      · rw [hW, if_pos ⟨g, g2⟩, hκ, if_pos g2, a5 (t + i) (t + j) (by omega) g (by omega) g2, wr i j hi g g2, hW, if_pos ⟨g, ht.2⟩]
        show _ = _ - _ * W2 (t + i) t
        rw [a4 _ (by omega) g]
      · rw [hW, if_neg (fun h => g2 h.2), hκ, if_neg g2, hX0 i j (fun h => g2 h.2)]
        have := hX0 0 j (fun h => g2 h.2)
        rw [show sw M 0 = M from rfl] at this
        rw [this, Int.mul_zero, Int.mul_zero, Int.zero_mul]
        rfl
    · rw [hW, if_neg (fun h => g h.1), hθ, if_neg g, hX0 i j (fun h => g h.1), hW, if_neg (fun h => g h.1), Int.zero_mul, Int.mul_zero]
      rfl
  have r0 : ∀ j, 0 < j → 0 ≤ W 0 j ∧ W 0 j < B t t := by
    intro j hj
    rw [hW]
    by_cases g : t + j < C
    · rw [if_pos ⟨ht.1, g⟩]
      exact a6 (t + j) (by omega) g
    · rw [if_neg (fun h => g h.2)]
      exact ⟨Int.le_refl _, hp⟩
  have ri : ∀ i, 0 < i → 0 ≤ W i 0 ∧ W i 0 < B t t := by
    intro i hi
    rw [hW]
    by_cases g : t + i < R
    · rw [if_pos ⟨g, ht.2⟩]
      show 0 ≤ W2 (t + i) t ∧ W2 (t + i) t < B t t
      rw [a4 _ (by omega) g]
      exact a3 (t + i) (by omega) g
    · rw [if_neg (fun h => g h.1)]
      exact ⟨Int.le_refl _, hp⟩
  have hpX : Xo R C t w M N = B t t ∨ Xo R C t w M N = -B t t := by
    rw [hp0]
    rcases hs with rfl | rfl
    · exact Or.inl (by omega)
    · exact Or.inr (by omega)
  have hpn : (na (w ((t + M) * 5 + (t + N))) : Int) = B t t := by
    have e := xo_in (w := w) (R := R) (C := C) (t := t) (i := M) (j := N) ⟨hm.2.1, hm.2.2.2⟩
    have := na_i (x := w ((t + M) * 5 + (t + N)))
    have := na_p (x := w ((t + M) * 5 + (t + N)))
    omega
  refine ⟨M, m1, a, a', N, c1, b, b', B t t, s, θ a, θ a', κ b, κ b', W, pa, pb, ga, gb, ⟨hp, fun i j => ?_, fun i j hij => ?_⟩, ⟨hs, hp0.symm, w00, ?_, ?_, ?_, ?_, ?_, ?_, ?_, ?_, r0 b zb.1, r0 b' zb.2.1, ri a za.1, ri a' za.2.1⟩, ?_⟩
  · by_cases g : t + i < R ∧ t + j < C
    · rw [xo_in g]
      by_cases e : w ((t + i) * 5 + (t + j)) = 0
      · exact Or.inl (by rw [e]; rfl)
      · have h1 := hl (t + i) (t + j) (by omega) g.1 (by omega) g.2 e
        have h2 := na_i (x := w ((t + i) * 5 + (t + j)))
        omega
    · exact Or.inl (xo_out g)
  · by_cases g : t + i < R ∧ t + j < C
    · rw [xo_in g]
      rcases hf (t + i) (t + j) (by omega) g.1 (by omega) g.2 (by omega) with e | e
      · exact Or.inl (by rw [e]; rfl)
      · have h2 := na_i (x := w ((t + i) * 5 + (t + j)))
        omega
    · exact Or.inl (xo_out g)
  · rw [w0 b zb.1, sb1]
  · rw [w0 b' zb.2.1, sb2]
  · rw [wi a za.1, sa1]
  · rw [wi a' za.2.1, sa2]
  · rw [wij a b za.1 zb.1, sa1, sb1]
  · rw [wij a b' za.1 zb.2.1, sa1, sb2]
  · rw [wij a' b za.2.1 zb.1, sa2, sb1]
  · rw [wij a' b' za.2.1 zb.2.1, sa2, sb2]
  · have ia : ∀ i, 0 < i → t + i < R → i = a ∨ i = a' := by
      intro i h1 h2
      have : i = 1 ∨ i = 2 := by omega
      unfold pm at pa
      omega
    have jb : ∀ j, 0 < j → t + j < C → j = b ∨ j = b' := by
      intro i h1 h2
      have : i = 1 ∨ i = 2 := by omega
      unfold pm at pb
      omega
    rcases hE with ⟨e1, e2⟩ | ⟨e1, e2, i, j, e3, e4, e5, e6, e7, e8⟩
    · refine Or.inl ⟨fun i j => ?_, ?_⟩
      · rw [hW]
        unfold Xo
        by_cases g : t + i < R ∧ t + j < C
        · rw [if_pos g, if_pos g]
          exact e1 _ _ (by omega) g.1 (by omega) g.2
        · rw [if_neg g, if_neg g]
      · rcases e2 with ⟨x, h1, h2, h3⟩ | ⟨y, h1, h2, h3⟩
        · obtain ⟨i, rfl⟩ : ∃ i, x = t + i := ⟨x - t, by omega⟩
          have h4 : W i 0 ≠ 0 := by rw [hW, if_pos ⟨h2, ht.2⟩]; exact h3
          rcases ia i (by omega) h2 with rfl | rfl
          · exact Or.inl h4
          · exact Or.inr (Or.inl h4)
        · obtain ⟨j, rfl⟩ : ∃ j, y = t + j := ⟨y - t, by omega⟩
          have h4 : W 0 j ≠ 0 := by rw [hW, if_pos ⟨ht.1, h2⟩]; exact h3
          rcases jb j (by omega) h2 with rfl | rfl
          · exact Or.inr (Or.inr (Or.inl h4))
          · exact Or.inr (Or.inr (Or.inr h4))
    · obtain ⟨i, rfl⟩ : ∃ k, i = t + k := ⟨i - t, by omega⟩
      obtain ⟨j, rfl⟩ : ∃ k, j = t + k := ⟨j - t, by omega⟩
      have k1 : ∀ x, 0 < x → W x 0 = 0 := by
        intro x hx
        rw [hW]
        by_cases g : t + x < R
        · rw [if_pos ⟨g, ht.2⟩]
          exact e1 (t + x) (by omega) g
        · rw [if_neg (fun h => g h.1)]
      have k2 : ∀ x, 0 < x → W 0 x = 0 := by
        intro x hx
        rw [hW]
        by_cases g : t + x < C
        · rw [if_pos ⟨ht.1, g⟩]
          exact e2 (t + x) (by omega) g
        · rw [if_neg (fun h => g h.2)]
      have y0 : ∀ y, 0 < y → Xo R C t w3 0 y = W i y := by
        intro y hy
        rw [hW]
        by_cases g : t + y < C
        · rw [xo_in ⟨ht.1, g⟩, if_pos ⟨e4, g⟩]
          have := e8 t (t + y) (Nat.le_refl _) ht.1 (by omega) g
          rw [if_pos rfl, e2 (t + y) (by omega) g, Int.zero_add] at this
          exact this
        · rw [xo_out (fun h => g h.2), if_neg (fun h => g h.2)]
      have yx : ∀ x y, 0 < x → Xo R C t w3 x y = W x y := by
        intro x y hx
        rw [hW]
        unfold Xo
        by_cases g : t + x < R ∧ t + y < C
        · rw [if_pos g, if_pos g]
          have := e8 (t + x) (t + y) (by omega) g.1 (by omega) g.2
          rw [if_neg (by omega)] at this
          exact this
        · rw [if_neg g, if_neg g]
      refine Or.inr ⟨⟨k1 a za.1, k1 a' za.2.1, k2 b zb.1, k2 b' zb.2.1⟩, i, ia i (by omega) e4, ?_, ?_, y0 b zb.1, y0 b' zb.2.1, fun y => yx a y za.1, fun y => yx a' y za.2.1⟩
      · have h4 : W i j % B t t ≠ 0 := by
          rw [hW, if_pos ⟨e4, e6⟩, ← w00, hW, if_pos ⟨ht.1, ht.2⟩]
          exact e7
        rcases jb j (by omega) e6 with rfl | rfl
        · exact Or.inl h4
        · exact Or.inr h4
      · rw [xo_in ⟨ht.1, ht.2⟩]
        have := e8 t t (Nat.le_refl _) ht.1 (Nat.le_refl _) ht.2
        rw [if_pos rfl, e1 (t + i) (by omega) e4, Int.add_zero] at this
        rw [← w00, hW, if_pos ⟨ht.1, ht.2⟩]
        exact this
end PBG
