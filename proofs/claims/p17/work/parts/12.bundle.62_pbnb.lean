section
-- 62.pbnb
section PBP
variable {X Y W : Nat → Nat → Int} {p p1 p2 P g : Int} {a a' b b' i i' j j' : Nat}
theorem T2x (ha : pm a a') (hb : pm b b') (hT : T2 X p1 p P g a a' b b') (hN : SN X p1 P a a' b b') (hg : g = -p → X a b' = 0) (hX : Bg P X) (hS : Sl 3 P X) : False := by
  obtain ⟨t1, t2, t3, t4, t5, t6, t7, t8⟩ := hT
  obtain ⟨Y, s1, s2, s3⟩ := hS
  obtain ⟨W, q, d, d', e, e', m1, m2, m3, m4, m5, m6, m7, m8, m9, m10, m11, m12, m13, m14⟩ := N1 ha hb hN hX s1 s2
  rcases pm2 ha m1 with ⟨rfl, rfl⟩ | ⟨rfl, rfl⟩ <;> rcases pm2 hb m2 with ⟨rfl, rfl⟩ | ⟨rfl, rfl⟩
  · omega
  · omega
  · omega
  · have y1 := m4 0 e'
    have hR : X d' e = 0 := by omega
    obtain ⟨u1, u2, u3⟩ := m10 hR
    exact T3x m1 m2 (p2 := q) (p1 := p1) (p := p) (P := P) (g := g) (W := W) ⟨by omega, m8.1, m8.2.1, m8.2.2.1, by rw [m8.2.2.2]; omega, u1, by rw [u2]; exact t3, by rw [u3]; exact t4, by omega, m9.1, m9.2.1⟩ m14 s2 s3
end PBP
end
section
-- 62.pbnc
section PBP
variable {X Y W : Nat → Nat → Int} {p p1 p2 P g : Int} {a a' b b' i i' j j' : Nat}
theorem SA2x (ha : pm a a') (hb : pm b b') (hA : SA X p1 P i i' b b') (hi : (i = a ∧ i' = a') ∨ (i = a' ∧ i' = a)) (hn : p1 < p ∧ p ≤ P ∧ P < 2 * p1) (g1 : X a b = p) (g2 : p1 ≤ X a b' ∧ X a b' < p) (g3 : X a' b = 0) (hX : Bg P X) (hS : Sl 2 P X) : False := by
  have hpi : pm i i' := by
    rcases hi with ⟨rfl, rfl⟩ | ⟨rfl, rfl⟩
    · exact ha
    · exact pmx ha
  obtain ⟨Y, s1, s2, Z, s3, s4, -⟩ := hS
  have hA' := hA
  obtain ⟨n0, n1, n2, n3, n4, n5, n6, n7⟩ := hA'
  rcases A1 hpi hb hA hX s1 s2 with ⟨c, c', k0, k1, k2, k3, k4, k5, k6⟩ | ⟨q, c, c', k0, k1, k2, k3, k4⟩ | ⟨W, q, c, c', k0, k1, k2, k3, k4⟩
  · have k2' := k2
    obtain ⟨o0, o1, o2, o3, o4, o5, o6, o7⟩ := k2'
    obtain ⟨W, q, d, d', e, e', m1, m2, m3, m4, m5, m6, -⟩ := N1 hpi k0 k2 s2 s3 s4
    clear n7 m4 k1 hA k2 s1 s2 s3 s4 hX
    rcases pm2 hb k0 with ⟨rfl, rfl⟩ | ⟨rfl, rfl⟩ <;> rcases pm2 hb m2 with ⟨rfl, rfl⟩ | ⟨rfl, rfl⟩ <;> rcases pm2 hpi m1 with ⟨rfl, rfl⟩ | ⟨rfl, rfl⟩ <;> rcases hi with ⟨rfl, rfl⟩ | ⟨rfl, rfl⟩ <;> omega
  · rcases pm2 hb k0 with ⟨rfl, rfl⟩ | ⟨rfl, rfl⟩ <;> rcases hi with ⟨rfl, rfl⟩ | ⟨rfl, rfl⟩ <;> omega
  · rcases pm2 hb k0 with ⟨rfl, rfl⟩ | ⟨rfl, rfl⟩ <;> rcases hi with ⟨rfl, rfl⟩ | ⟨rfl, rfl⟩ <;> omega
end PBP
end
section
-- 62.pbnd
section PBP
variable {X Y W : Nat → Nat → Int} {p p1 p2 P g : Int} {a a' b b' i i' j j' : Nat}
theorem Sl_le : ∀ {m n : Nat} {X : Nat → Nat → Int}, m ≤ n → Sl n P X → Sl m P X
  | 0, _, _, _, _ => trivial
  | m + 1, 0, _, h, _ => absurd h (by omega)
  | m + 1, n + 1, _, h, ⟨Y, h1, h2, h3⟩ => ⟨Y, h1, h2, Sl_le (by omega) h3⟩
theorem T5x (ha : pm i i') (hb : pm b b') (hT : T5 W p1 p P i i' b b') (hE : En W X i i' b b' p1 ∨ En W X i' i b b' p1) (hX : Bg P X) (hS : Sl 4 P X) : False := by
  obtain ⟨t1, t2, t3, t4, t5, t6, t7, t8, t9⟩ := hT
  have hC : ((∀ i j, X i j = W i j) ∧ SN X p1 P i i' b b') ∨ ∃ i0 i0', ((i0 = i ∧ i0' = i') ∨ (i0 = i' ∧ i0' = i)) ∧ SA X p1 P i0 i0' b b' ∧ (∀ j, X i j = W i j) ∧ ∀ j, X i' j = W i' j := by
    rcases hE with hE | hE
    · rcases En_k (P := P) hE ha t2 t1.1 (by omega) (by omega) t4 t5 (by omega) with h | ⟨_, h⟩
      · exact Or.inl h
      · exact Or.inr h
    · rcases En_k (P := P) hE (pmx ha) t2 t1.1 (by omega) (by omega) t4 (by omega) t5 with ⟨h1, h2⟩ | ⟨_, i0, i0', h1, h2, h3, h4⟩
      · exact Or.inl ⟨h1, SN_x h2 (pmx ha) hb ha hb⟩
      · exact Or.inr ⟨i0, i0', h1.symm, h2, h4, h3⟩
  rcases hC with ⟨e1, e2⟩ | ⟨i0, i0', hi, hA, f1, f2⟩
  · obtain ⟨Y, s1, s2, s3⟩ := hS
    obtain ⟨V, q, d, d', e, e', m1, m2, m3, m4, m5, m6, m7, m8, m9, m10, m11, m12, m13, m14⟩ := N1 ha hb e2 hX s1 s2
    obtain ⟨o0, o1, o2, o3, o4, o5, o6, o7⟩ := e2
    simp only [e1] at m5 m6 m7 m8 m10 m11 m12 m13 o7
    rcases pm2 hb m2 with ⟨rfl, rfl⟩ | ⟨rfl, rfl⟩
    · exfalso
      rcases pm2 ha m1 with ⟨rfl, rfl⟩ | ⟨rfl, rfl⟩ <;> omega
    · have n1 : W d e = -q := by
        rcases m6 with ⟨h1, h2⟩ | h
        · exfalso
          rcases pm2 ha m1 with ⟨rfl, rfl⟩ | ⟨rfl, rfl⟩ <;> omega
        · exact h
      have n2 : W d' e = -q := by rcases pm2 ha m1 with ⟨rfl, rfl⟩ | ⟨rfl, rfl⟩ <;> omega
      obtain ⟨u1, u2, u3⟩ := m12 n1 n2
      have n3 : W d' 0 - W d 0 = 0 := by rcases pm2 ha m1 with ⟨rfl, rfl⟩ | ⟨rfl, rfl⟩ <;> omega
      have n4 : W d' e' - W d e' = p ∨ W d' e' - W d e' = -p := by rcases pm2 ha m1 with ⟨rfl, rfl⟩ | ⟨rfl, rfl⟩ <;> omega
      exact T3x m1 m2 (p2 := q) (p1 := p1) (p := p) (P := P) (g := W d' e' - W d e') (W := V) ⟨by omega, m8.1, m8.2.1, m8.2.2.1, Or.inl (by rw [m8.2.2.2]; exact t3), u1, by rw [u2]; exact n3, u3, n4, m9.1, m9.2.1⟩ m14 s2 (Sl_le (by decide) s3)
  · have hpi : pm i0 i0' := by
      rcases hi with ⟨rfl, rfl⟩ | ⟨rfl, rfl⟩
      · exact ha
      · exact pmx ha
    rw [← f1] at t7
    rw [← f2] at t8
    rw [← f1, ← f2] at t9
    obtain ⟨Y, s1, s2, s3⟩ := hS
    have hA' := hA
    obtain ⟨n0, n1, n2, n3, n4, n5, n6, n7⟩ := hA'
    rcases A1 hpi hb hA hX s1 s2 with ⟨c, c', k0, k1, k2, k3, k4, k5, k6⟩ | ⟨q, c, c', k0, k1, k2, k3, k4, k5, k6⟩ | ⟨V, q, c, c', k0, k1, k2, k3, k4⟩
    · obtain ⟨Z, s3, s4, _⟩ := s3
      have k2' := k2
      obtain ⟨o0, o1, o2, o3, o4, o5, o6, o7⟩ := k2'
      obtain ⟨V, q, d, d', e, e', m1, m2, m3, m4, m5, m6, -⟩ := N1 hpi k0 k2 s2 s3 s4
      clear n7 m4 k1 hA k2 s1 s2 s3 s4 hX
      rcases pm2 hb k0 with ⟨rfl, rfl⟩ | ⟨rfl, rfl⟩ <;> rcases pm2 hb m2 with ⟨rfl, rfl⟩ | ⟨rfl, rfl⟩ <;> rcases pm2 hpi m1 with ⟨rfl, rfl⟩ | ⟨rfl, rfl⟩ <;> rcases hi with ⟨rfl, rfl⟩ | ⟨rfl, rfl⟩ <;> omega
    · exact T2x hpi k0 k4 k6 (fun _ => k5) s2 s3
    · have z1 := k3 b
      have z2 := k3 b'
      rcases pm2 hb k0 with ⟨rfl, rfl⟩ | ⟨rfl, rfl⟩ <;> rcases hi with ⟨rfl, rfl⟩ | ⟨rfl, rfl⟩ <;> omega
end PBP
end
section
-- 62.pbne
section PBP
variable {X Y W : Nat → Nat → Int} {p p1 p2 P g : Int} {a a' b b' i i' j j' : Nat}
theorem SAx (ha : pm i i') (hb : pm j j') (hA : SA X p P i i' j j') (hX : Bg P X) (hS : Sl 5 P X) : False := by
  obtain ⟨Y, s1, s2, s3⟩ := hS
  have hpP : p ≤ P := hA.2.2.1
  rcases A1 ha hb hA hX s1 s2 with ⟨c, c', k0, k1, k2, k3, k4, k5, k6⟩ | ⟨q, c, c', k0, k1, k2, k3, k4, k5, k6⟩ | ⟨V, q, c, c', k0, k1, k2, k3, k4, k5, k6⟩
  · obtain ⟨Z, s4, s5, s6⟩ := s3
    have k2' := k2
    obtain ⟨W, q, d, d', e, e', m1, m2, m3, m4, m5, m6, m7, m8, m9, m10, m11, m12, m13, m14⟩ := N1 ha k0 k2 s2 s4 s5
    obtain ⟨o0, o1, o2, o3, o4, o5, o6, o7⟩ := SN_x k2' ha k0 m1 m2
    have z1 : Y d 0 = 0 ∧ Y d' 0 = 0 := by
      rcases pm2 ha m1 with ⟨rfl, rfl⟩ | ⟨rfl, rfl⟩
      · exact k3
      · exact k3.symm
    have z2 := m7 z1.1
    have z3 := m13 z1.1 z1.2
    have z4 := m4 0 e'
    rcases En_k (P := P) m14 m1 m8.1 m3.1 (by omega) m9.1 m9.2.1 (by omega) m9.2.2 with ⟨e1, e2⟩ | ⟨e0, i0, i0', e1, e2, e3, e4⟩
    · refine T2x m1 m2 (p1 := q) (p := p) (g := p) ?_ e2 (fun h => by omega) s5 (Sl_le (by decide) s6)
      unfold T2
      simp only [e1]
      exact ⟨by omega, m8.1, m8.2.1, m8.2.2.1, by rw [m8.2.2.2]; omega, by rw [m8.2.2.2]; omega, Or.inl trivial, m9⟩
    · exact SA2x m1 m2 e2 e1 (p := p) (by omega) (by rw [e3]; exact m8.2.2.1) (by rw [e3, m8.2.2.2]; omega) (by rw [e4]; exact z3) s5 (Sl_le (by decide) s6)
  · exact T2x ha k0 k4 k6 (fun _ => k5) s2 (Sl_le (by decide) s3)
  · exact T5x ha k0 k5 k6 s2 s3
theorem SNx (ha : pm i i') (hb : pm j j') (hN : SN X p P i i' j j') (hX : Bg P X) (hS : Sl 6 P X) : False := by
  obtain ⟨Y, s1, s2, s3⟩ := hS
  obtain ⟨W, q, d, d', e, e', m1, m2, m3, m4, m5, m6, m7, m8, m9, m10, m11, m12, m13, m14⟩ := N1 ha hb hN hX s1 s2
  obtain ⟨o0, o1, o2, o3, o4, o5, o6, o7⟩ := SN_x hN ha hb m1 m2
  have z4 := m4 0 e'
  rcases En_k (P := P) m14 m1 m8.1 m3.1 (by omega) m9.1 m9.2.1 (by omega) m9.2.2 with ⟨e1, e2⟩ | ⟨e0, i0, i0', e1, e2, e3, e4⟩
  · refine T2x m1 m2 (p1 := q) (p := p) (g := p) ?_ e2 (fun h => by omega) s2 (Sl_le (by decide) s3)
    unfold T2
    simp only [e1]
    exact ⟨by omega, m8.1, m8.2.1, m8.2.2.1, by rw [m8.2.2.2]; omega, by rw [m8.2.2.2]; omega, Or.inl trivial, m9⟩
  · exact SAx (by
      rcases e1 with ⟨rfl, rfl⟩ | ⟨rfl, rfl⟩
      · exact m1
      · exact pmx m1) m2 e2 s2 s3
/-- behind a pass with the least P, seven passes don't keep all above its half -/
theorem Pv_half {P : Int} (hP : Pv X Y) (hl : ∃ m c, X m c ≠ 0 ∧ X m c ≤ P ∧ -P ≤ X m c) (hY : Bg P Y) (hS : Sl 6 P Y) : False := by
  obtain ⟨m, m1, a, a', c, c1, b, b', p, s, q1, q2, k1, k2, W, ha, hb, hm, hc, hL, hV, hE⟩ := hP
  obtain ⟨v1, v2, v3, v4, v5, v6, v7, v8, v9, v10, v11, v12, v13, v14, v15⟩ := hV
  obtain ⟨x, y, g1, g2, g3⟩ := hl
  have hle := hL.2.1 x y
  have hp : p ≤ P := by omega
  rcases En_k (P := P) hE ha v3 hL.1 hp v12 v13 v14 v15 with ⟨e1, e2⟩ | ⟨e0, i0, i0', e1, e2, e3, e4⟩
  · exact SNx ha hb e2 hY hS
  · exact SAx (by
      rcases e1 with ⟨rfl, rfl⟩ | ⟨rfl, rfl⟩
      · exact ha
      · exact pmx ha) hb e2 hY (Sl_le (by decide) hS)
end PBP
end
section
-- 63.pbng
/-- the block from t, t, in whole numbers, 0 elsewhere -/
noncomputable def Xo (R C t : Nat) (w : Nat → Int64) (i j : Nat) : Int := if t + i < R ∧ t + j < C then (w ((t + i) * 5 + (t + j))).toInt else 0
def sw (m i : Nat) : Nat := if i = 0 then m else if i = m then 0 else i
section PBG
variable {w w3 : Nat → Int64} {R C t : Nat}
theorem sw_x {M : Nat} (h : M ≤ 2) : ∃ m1 a a', pm a a' ∧ ((M = 0 ∧ m1 = a) ∨ (M = a ∧ m1 = 0)) ∧ sw M a = m1 ∧ sw M a' = a' := by
  have : M = 0 ∨ M = 1 ∨ M = 2 := by omega
  rcases this with rfl | rfl | rfl
  · exact ⟨1, 1, 2, Or.inl ⟨rfl, rfl⟩, Or.inl ⟨rfl, rfl⟩, rfl, rfl⟩
  · exact ⟨0, 1, 2, Or.inl ⟨rfl, rfl⟩, Or.inr ⟨rfl, rfl⟩, rfl, rfl⟩
  · exact ⟨0, 2, 1, Or.inr ⟨rfl, rfl⟩, Or.inr ⟨rfl, rfl⟩, rfl, rfl⟩
theorem sw_t {t M i : Nat} : (if t + i = t then t + M else if t + i = t + M then t else t + i) = t + sw M i := by
  unfold sw
  by_cases h : i = 0
  · rw [if_pos (by omega), if_pos h]
  · rw [if_neg (by omega), if_neg h]
    by_cases g : i = M
    · rw [if_pos (by omega), if_pos g]; rfl
    · rw [if_neg (by omega), if_neg g]
theorem sw_l {t M i R : Nat} (h : t + M < R) : t + sw M i < R ↔ t + i < R := by
  unfold sw
  by_cases h0 : i = 0
  · rw [if_pos h0]; omega
  · rw [if_neg h0]
    by_cases g : i = M
    · rw [if_pos g]; omega
    · rw [if_neg g]
theorem xo_in {i j : Nat} (h : t + i < R ∧ t + j < C) : Xo R C t w i j = (w ((t + i) * 5 + (t + j))).toInt := if_pos h
theorem xo_out {i j : Nat} (h : ¬ (t + i < R ∧ t + j < C)) : Xo R C t w i j = 0 := if_neg h
theorem na_i {x : Int64} : (na x : Int) = x.toInt ∨ (na x : Int) = -x.toInt := by unfold na; omega
theorem na_p {x : Int64} : 0 ≤ (na x : Int) := Int.natCast_nonneg _
theorem nz_i {x : Int64} (h : ¬ x = 0) : x.toInt ≠ 0 := fun e => h (Int64.toInt_inj.mp e)
theorem Ps_Pv (hP : Ps R C t w w3) (hR : R ≤ t + 3) (hC : C ≤ t + 3) (ht : t < R ∧ t < C) : Pv (Xo R C t w) (Xo R C t w3) := by
  obtain ⟨m, c0, s, Q, K, B, W1, W2, hm, hs, hn, hl, hf, hB, hp, a1, a2, a3, a4, a5, a6, hE⟩ := hP
  obtain ⟨M, rfl⟩ : ∃ M, m = t + M := ⟨m - t, by omega⟩
  obtain ⟨N, rfl⟩ : ∃ N, c0 = t + N := ⟨c0 - t, by omega⟩
  obtain ⟨m1, a, a', pa, ga, sa1, sa2⟩ := sw_x (M := M) (by omega)
  obtain ⟨c1, b, b', pb, gb, sb1, sb2⟩ := sw_x (M := N) (by omega)
  have za := pmp pa
  have zb := pmp pb
  have hXB : ∀ i j, t + i < R → t + j < C → B (t + i) (t + j) = (if i = 0 then s else 1) * Xo R C t w (sw M i) (sw N j) := by
    intro i j hi hj
    rw [hB _ _ (by omega) hi (by omega) hj, sw_t, sw_t, xo_in ⟨(sw_l hm.2.1).mpr hi, (sw_l hm.2.2.2).mpr hj⟩]
    by_cases h : i = 0
    · rw [if_pos h, if_pos (by omega)]
    · rw [if_neg h, if_neg (by omega)]
  have hX0 : ∀ i j, ¬ (t + i < R ∧ t + j < C) → Xo R C t w (sw M i) (sw N j) = 0 := by
    intro i j h
    refine xo_out (fun g => h ⟨(sw_l hm.2.1).mp g.1, (sw_l hm.2.2.2).mp g.2⟩)
  have hp0 : B t t = s * Xo R C t w M N := by
    have := hXB 0 0 ht.1 ht.2
    rwa [if_pos rfl, show sw M 0 = M from rfl, show sw N 0 = N from rfl] at this
  obtain ⟨W, hW⟩ : ∃ W : Nat → Nat → Int, ∀ i j, W i j = if t + i < R ∧ t + j < C then W2 (t + i) (t + j) else 0 := ⟨_, fun i j => rfl⟩
  obtain ⟨θ, hθ⟩ : ∃ θ : Nat → Int, ∀ i, θ i = if t + i < R then Q (t + i) else 0 := ⟨_, fun i => rfl⟩
  obtain ⟨κ, hκ⟩ : ∃ κ : Nat → Int, ∀ j, κ j = if t + j < C then K (t + j) else 0 := ⟨_, fun j => rfl⟩
  have w00 : W 0 0 = B t t := by
    rw [hW, if_pos ⟨ht.1, ht.2⟩]
    show W2 t t = _
    rw [a4 t (Nat.le_refl _) ht.1, a1 t (Nat.le_refl _) ht.2]
  have w0 : ∀ j, 0 < j → W 0 j = s * Xo R C t w M (sw N j) - κ j * B t t := by
    intro j hj
    rw [hW, hκ]
    by_cases g : t + j < C
    · rw [if_pos ⟨ht.1, g⟩, if_pos g]
      show W2 t (t + j) = _
      rw [a5 t (t + j) (Nat.le_refl _) ht.1 (by omega) g, a1 _ (by omega) g, a1 t (Nat.le_refl _) ht.2]
      have := hXB 0 j ht.1 g
      rw [if_pos rfl, show sw M 0 = M from rfl] at this
      rw [show B t (t + j) = B (t + 0) (t + j) from rfl, this]
    · rw [if_neg (fun h => g h.2), if_neg g]
      have := hX0 0 j (fun h => g h.2)
      rw [show sw M 0 = M from rfl] at this
      rw [this, Int.mul_zero, Int.zero_mul]
      rfl
  have wr : ∀ i j, 0 < i → t + i < R → t + j < C → W1 (t + i) (t + j) = Xo R C t w (sw M i) (sw N j) - θ i * (s * Xo R C t w M (sw N j)) := by
    intro i j hi h1 h2
    rw [a2 (t + i) (t + j) (by omega) h1 (by omega) h2, hXB i j h1 h2, if_neg (by omega), Int.one_mul, hθ, if_pos h1]
    have := hXB 0 j ht.1 h2
    rw [if_pos rfl, show sw M 0 = M from rfl] at this
    rw [show B t (t + j) = B (t + 0) (t + j) from rfl, this]
  have wi : ∀ i, 0 < i → W i 0 = Xo R C t w (sw M i) N - θ i * B t t := by
    intro i hi
    by_cases g : t + i < R
    · rw [hW, if_pos ⟨g, ht.2⟩]
      show W2 (t + i) t = _
      rw [a4 _ (by omega) g]
      have := wr i 0 hi g ht.2
      rw [show sw N 0 = N from rfl, ← hp0] at this
      exact this
    · rw [hW, if_neg (fun h => g h.1), hθ, if_neg g]
      have := hX0 i 0 (fun h => g h.1)
      rw [show sw N 0 = N from rfl] at this
      rw [this, Int.zero_mul]
      rfl
  have wij : ∀ i j, 0 < i → 0 < j → W i j = Xo R C t w (sw M i) (sw N j) - θ i * (s * Xo R C t w M (sw N j)) - κ j * W i 0 := by
    intro i j hi hj
    by_cases g : t + i < R
    · by_cases g2 : t + j < C
      · rw [hW, if_pos ⟨g, g2⟩, hκ, if_pos g2, a5 (t + i) (t + j) (by omega) g (by omega) g2, wr i j hi g g2, hW, if_pos ⟨g, ht.2⟩]
        show _ = _ - _ * W2 (t + i) t
        rw [a4 _ (by omega) g]
      · rw [hW, if_neg (fun h => g2 h.2), hκ, if_neg g2, hX0 i j (fun h => g2 h.2)]
        have := hX0 0 j (fun h => g2 h.2)
        rw [show sw M 0 = M from rfl] at this
        rw [this, Int.mul_zero, Int.mul_zero, Int.zero_mul]
        rfl
    · rw [hW, if_neg (fun h => g h.1), hθ, if_neg g, hX0 i j (fun h => g h.1), hW, if_neg (fun h => g h.1), Int.zero_mul, Int.mul_zero]
      rfl
  have r0 : ∀ j, 0 < j → 0 ≤ W 0 j ∧ W 0 j < B t t := by
    intro j hj
    rw [hW]
    by_cases g : t + j < C
    · rw [if_pos ⟨ht.1, g⟩]
      exact a6 (t + j) (by omega) g
    · rw [if_neg (fun h => g h.2)]
      exact ⟨Int.le_refl _, hp⟩
  have ri : ∀ i, 0 < i → 0 ≤ W i 0 ∧ W i 0 < B t t := by
    intro i hi
    rw [hW]
    by_cases g : t + i < R
    · rw [if_pos ⟨g, ht.2⟩]
      show 0 ≤ W2 (t + i) t ∧ W2 (t + i) t < B t t
      rw [a4 _ (by omega) g]
      exact a3 (t + i) (by omega) g
    · rw [if_neg (fun h => g h.1)]
      exact ⟨Int.le_refl _, hp⟩
  have hpX : Xo R C t w M N = B t t ∨ Xo R C t w M N = -B t t := by
    rw [hp0]
    rcases hs with rfl | rfl
    · exact Or.inl (by omega)
    · exact Or.inr (by omega)
  have hpn : (na (w ((t + M) * 5 + (t + N))) : Int) = B t t := by
    have e := xo_in (w := w) (R := R) (C := C) (t := t) (i := M) (j := N) ⟨hm.2.1, hm.2.2.2⟩
    have := na_i (x := w ((t + M) * 5 + (t + N)))
    have := na_p (x := w ((t + M) * 5 + (t + N)))
    omega
  refine ⟨M, m1, a, a', N, c1, b, b', B t t, s, θ a, θ a', κ b, κ b', W, pa, pb, ga, gb, ⟨hp, fun i j => ?_, fun i j hij => ?_⟩, ⟨hs, hp0.symm, w00, ?_, ?_, ?_, ?_, ?_, ?_, ?_, ?_, r0 b zb.1, r0 b' zb.2.1, ri a za.1, ri a' za.2.1⟩, ?_⟩
  · by_cases g : t + i < R ∧ t + j < C
    · rw [xo_in g]
      by_cases e : w ((t + i) * 5 + (t + j)) = 0
      · exact Or.inl (by rw [e]; rfl)
      · have h1 := hl (t + i) (t + j) (by omega) g.1 (by omega) g.2 e
        have h2 := na_i (x := w ((t + i) * 5 + (t + j)))
        omega
    · exact Or.inl (xo_out g)
  · by_cases g : t + i < R ∧ t + j < C
    · rw [xo_in g]
      rcases hf (t + i) (t + j) (by omega) g.1 (by omega) g.2 (by omega) with e | e
      · exact Or.inl (by rw [e]; rfl)
      · have h2 := na_i (x := w ((t + i) * 5 + (t + j)))
        omega
    · exact Or.inl (xo_out g)
  · rw [w0 b zb.1, sb1]
  · rw [w0 b' zb.2.1, sb2]
  · rw [wi a za.1, sa1]
  · rw [wi a' za.2.1, sa2]
  · rw [wij a b za.1 zb.1, sa1, sb1]
  · rw [wij a b' za.1 zb.2.1, sa1, sb2]
  · rw [wij a' b za.2.1 zb.1, sa2, sb1]
  · rw [wij a' b' za.2.1 zb.2.1, sa2, sb2]
  · have ia : ∀ i, 0 < i → t + i < R → i = a ∨ i = a' := by
      intro i h1 h2
      have : i = 1 ∨ i = 2 := by omega
      unfold pm at pa
      omega
    have jb : ∀ j, 0 < j → t + j < C → j = b ∨ j = b' := by
      intro i h1 h2
      have : i = 1 ∨ i = 2 := by omega
      unfold pm at pb
      omega
    rcases hE with ⟨e1, e2⟩ | ⟨e1, e2, i, j, e3, e4, e5, e6, e7, e8⟩
    · refine Or.inl ⟨fun i j => ?_, ?_⟩
      · rw [hW]
        unfold Xo
        by_cases g : t + i < R ∧ t + j < C
        · rw [if_pos g, if_pos g]
          exact e1 _ _ (by omega) g.1 (by omega) g.2
        · rw [if_neg g, if_neg g]
      · rcases e2 with ⟨x, h1, h2, h3⟩ | ⟨y, h1, h2, h3⟩
        · obtain ⟨i, rfl⟩ : ∃ i, x = t + i := ⟨x - t, by omega⟩
          have h4 : W i 0 ≠ 0 := by rw [hW, if_pos ⟨h2, ht.2⟩]; exact h3
          rcases ia i (by omega) h2 with rfl | rfl
          · exact Or.inl h4
          · exact Or.inr (Or.inl h4)
        · obtain ⟨j, rfl⟩ : ∃ j, y = t + j := ⟨y - t, by omega⟩
          have h4 : W 0 j ≠ 0 := by rw [hW, if_pos ⟨ht.1, h2⟩]; exact h3
          rcases jb j (by omega) h2 with rfl | rfl
          · exact Or.inr (Or.inr (Or.inl h4))
          · exact Or.inr (Or.inr (Or.inr h4))
    · obtain ⟨i, rfl⟩ : ∃ k, i = t + k := ⟨i - t, by omega⟩
      obtain ⟨j, rfl⟩ : ∃ k, j = t + k := ⟨j - t, by omega⟩
      have k1 : ∀ x, 0 < x → W x 0 = 0 := by
        intro x hx
        rw [hW]
        by_cases g : t + x < R
        · rw [if_pos ⟨g, ht.2⟩]
          exact e1 (t + x) (by omega) g
        · rw [if_neg (fun h => g h.1)]
      have k2 : ∀ x, 0 < x → W 0 x = 0 := by
        intro x hx
        rw [hW]
        by_cases g : t + x < C
        · rw [if_pos ⟨ht.1, g⟩]
          exact e2 (t + x) (by omega) g
        · rw [if_neg (fun h => g h.2)]
      have y0 : ∀ y, 0 < y → Xo R C t w3 0 y = W i y := by
        intro y hy
        rw [hW]
        by_cases g : t + y < C
        · rw [xo_in ⟨ht.1, g⟩, if_pos ⟨e4, g⟩]
          have := e8 t (t + y) (Nat.le_refl _) ht.1 (by omega) g
          rw [if_pos rfl, e2 (t + y) (by omega) g, Int.zero_add] at this
          exact this
        · rw [xo_out (fun h => g h.2), if_neg (fun h => g h.2)]
      have yx : ∀ x y, 0 < x → Xo R C t w3 x y = W x y := by
        intro x y hx
        rw [hW]
        unfold Xo
        by_cases g : t + x < R ∧ t + y < C
        · rw [if_pos g, if_pos g]
          have := e8 (t + x) (t + y) (by omega) g.1 (by omega) g.2
          rw [if_neg (by omega)] at this
          exact this
        · rw [if_neg g, if_neg g]
      refine Or.inr ⟨⟨k1 a za.1, k1 a' za.2.1, k2 b zb.1, k2 b' zb.2.1⟩, i, ia i (by omega) e4, ?_, ?_, y0 b zb.1, y0 b' zb.2.1, fun y => yx a y za.1, fun y => yx a' y za.2.1⟩
      · have h4 : W i j % B t t ≠ 0 := by
          rw [hW, if_pos ⟨e4, e6⟩, ← w00, hW, if_pos ⟨ht.1, ht.2⟩]
          exact e7
        rcases jb j (by omega) e6 with rfl | rfl
        · exact Or.inl h4
        · exact Or.inr h4
      · rw [xo_in ⟨ht.1, ht.2⟩]
        have := e8 t t (Nat.le_refl _) ht.1 (Nat.le_refl _) ht.2
        rw [if_pos rfl, e1 (t + i) (by omega) e4, Int.add_zero] at this
        rw [← w00, hW, if_pos ⟨ht.1, ht.2⟩]
        exact this
end PBG
end
section
-- 64.pbnh
/-- a chain of passes -/
def Chn (R C t : Nat) : Nat → (Nat → Int64) → Prop
  | 0, _ => True
  | n + 1, w => ∃ w3, Ps R C t w w3 ∧ Chn R C t n w3
/-- a state to which a row was added -/
def Aw (R C t : Nat) (w : Nat → Int64) (p : Int) : Prop := (w (t * 5 + t)).toInt = p ∧ 0 < p ∧ (∀ a, t < a → a < R → (w (a * 5 + t)).toInt = 0) ∧ ∃ b, t < b ∧ b < C ∧ (w (t * 5 + b)).toInt % p ≠ 0
/-- some number of the block is not 0, of at most this size -/
def Hs (R C t : Nat) (w : Nat → Int64) (k : Int) : Prop := ∃ a b, t ≤ a ∧ a < R ∧ t ≤ b ∧ b < C ∧ (w (a * 5 + b)).toInt ≠ 0 ∧ (w (a * 5 + b)).toInt ≤ k ∧ -k ≤ (w (a * 5 + b)).toInt
section PBH
variable {w w3 : Nat → Int64} {R C t : Nat}
theorem Chn_le : ∀ {m n : Nat} {w : Nat → Int64}, m ≤ n → Chn R C t n w → Chn R C t m w
  | 0, _, _, _, _ => trivial
  | m + 1, 0, _, h, _ => absurd h (by omega)
  | m + 1, n + 1, _, h, ⟨w3, h1, h2⟩ => ⟨w3, h1, Chn_le (by omega) h2⟩
theorem no_bg {P : Int} (h : ¬ Bg P (Xo R C t w)) : Hs R C t w (P / 2) := by
  obtain ⟨i, hi⟩ := Classical.not_forall.mp h
  obtain ⟨j, hj⟩ := Classical.not_forall.mp hi
  by_cases g : t + i < R ∧ t + j < C
  · rw [xo_in g] at hj
    exact ⟨t + i, t + j, by omega, g.1, by omega, g.2, by omega, by omega, by omega⟩
  · exact absurd (Or.inl (xo_out g)) hj
theorem ch_sl {P : Int} {m : Nat} (hR : R ≤ t + 3) (hC : C ≤ t + 3) (ht : t < R ∧ t < C) : ∀ (n : Nat) (w : Nat → Int64), Chn R C t (n + m) w → Sl n P (Xo R C t w) ∨ ∃ w', Chn R C t m w' ∧ Hs R C t w' (P / 2) := by
  intro n
  induction n with
  | zero => intro w h; exact Or.inl trivial
  | succ n ih =>
    intro w h
    rw [show n + 1 + m = (n + m) + 1 by omega] at h
    obtain ⟨w3, h1, h2⟩ := h
    rcases Classical.em (Bg P (Xo R C t w3)) with hb | hb
    · rcases ih w3 h2 with h3 | h3
      · exact Or.inl ⟨_, Ps_Pv h1 hR hC ht, hb, h3⟩
      · exact Or.inr h3
    · exact Or.inr ⟨w3, Chn_le (by omega) h2, no_bg hb⟩
/-- a block of at most three rows and columns: seven passes a halving -/
theorem ch_half (hR : R ≤ t + 3) (hC : C ≤ t + 3) (ht : t < R ∧ t < C) : ∀ (k : Nat) (w : Nat → Int64) (P : Int), P < 2 ^ k → Hs R C t w P → ¬ Chn R C t (7 * k + 1) w := by
  intro k
  induction k with
  | zero =>
    intro w P hP hH _
    obtain ⟨a, b, _, _, _, _, h1, h2, h3⟩ := hH
    have : (2 : Int) ^ 0 = 1 := rfl
    omega
  | succ k ih =>
    intro w P hP hH hc
    rw [show 7 * (k + 1) + 1 = (6 + (7 * k + 1)) + 1 by omega] at hc
    obtain ⟨w1, h1, h2⟩ := hc
    have hv := Ps_Pv h1 hR hC ht
    have hP2 : P / 2 < 2 ^ k := by
      have : (2 : Int) ^ (k + 1) = 2 ^ k * 2 := Int.pow_succ 2 k
      omega
    rcases Classical.em (Bg P (Xo R C t w1)) with hb | hb
    · rcases ch_sl hR hC ht (P := P) (m := 7 * k + 1) 6 w1 h2 with h3 | ⟨w', h3, h4⟩
      · obtain ⟨a, b, g1, g2, g3, g4, g5, g6, g7⟩ := hH
        refine Pv_half hv ⟨a - t, b - t, ?_⟩ hb h3
        rw [xo_in (by omega), show t + (a - t) = a by omega, show t + (b - t) = b by omega]
        exact ⟨g5, g6, g7⟩
      · exact ih w' (P / 2) hP2 h4 h3
    · exact ih w1 (P / 2) hP2 (no_bg hb) (Chn_le (by omega) h2)
/-- a pass: what is least falls, or a row is added; behind that it falls -/
theorem Ps_dec (hP : Ps R C t w w3) (ht : t < R ∧ t < C) : ∃ p : Int, 0 < p ∧ Hs R C t w p ∧ (∀ k, Hs R C t w k → p ≤ k) ∧ (Hs R C t w3 (p - 1) ∨ Aw R C t w3 p) ∧ (Aw R C t w p → Hs R C t w3 (p - 1)) := by
  obtain ⟨m, c0, s, Q, K, B, W1, W2, hm, hs, hn, hl, hf, hB, hp, a1, a2, a3, a4, a5, a6, hE⟩ := hP
  have hp0 : B t t = s * (w (m * 5 + c0)).toInt := by
    have := hB t t (Nat.le_refl _) ht.1 (Nat.le_refl _) ht.2
    rwa [if_pos rfl, if_pos rfl, if_pos rfl] at this
  have e1 := na_i (x := w (m * 5 + c0))
  have e2 := na_p (x := w (m * 5 + c0))
  have hpn : (na (w (m * 5 + c0)) : Int) = B t t ∧ ((w (m * 5 + c0)).toInt = B t t ∨ (w (m * 5 + c0)).toInt = -B t t) := by rcases hs with rfl | rfl <;> omega
  have w2tt : W2 t t = B t t := by rw [a4 t (Nat.le_refl _) ht.1, a1 t (Nat.le_refl _) ht.2]
  have hnn : ((∀ a b, t ≤ a → a < R → t ≤ b → b < C → (w3 (a * 5 + b)).toInt = W2 a b) ∧ ((∃ a, t < a ∧ a < R ∧ W2 a t ≠ 0) ∨ ∃ b, t < b ∧ b < C ∧ W2 t b ≠ 0)) → Hs R C t w3 (B t t - 1) := by
    intro ⟨g1, g2⟩
    rcases g2 with ⟨a, h1, h2, h3⟩ | ⟨b, h1, h2, h3⟩
    · have r := a3 a h1 h2
      rw [← a4 a (by omega) h2] at r
      have e := g1 a t (by omega) h2 (Nat.le_refl _) ht.2
      exact ⟨a, t, by omega, h2, Nat.le_refl _, ht.2, by omega, by omega, by omega⟩
    · have r := a6 b h1 h2
      have e := g1 t b (Nat.le_refl _) ht.1 (by omega) h2
      exact ⟨t, b, Nat.le_refl _, ht.1, by omega, h2, by omega, by omega, by omega⟩
  refine ⟨B t t, hp, ⟨m, c0, hm.1, hm.2.1, hm.2.2.1, hm.2.2.2, nz_i hn, by omega, by omega⟩, ?_, ?_, ?_⟩
  · intro k ⟨a, b, h1, h2, h3, h4, h5, h6, h7⟩
    have g1 := hl a b h1 h2 h3 h4 (fun e => h5 (by rw [e]; rfl))
    have g2 := na_i (x := w (a * 5 + b))
    omega
  · rcases hE with h | ⟨h1, h2, i, j, h3, h4, h5, h6, h7, h8⟩
    · exact Or.inl (hnn h)
    · refine Or.inr ⟨?_, hp, fun a ha ha2 => ?_, j, h5, h6, ?_⟩
      · have := h8 t t (Nat.le_refl _) ht.1 (Nat.le_refl _) ht.2
        rw [if_pos rfl, h1 i h3 h4, w2tt] at this
        omega
      · have := h8 a t (by omega) ha2 (Nat.le_refl _) ht.2
        rw [if_neg (by omega), h1 a ha ha2] at this
        exact this
      · have := h8 t j (Nat.le_refl _) ht.1 (by omega) h6
        rw [if_pos rfl, h2 j h5 h6, Int.zero_add] at this
        rw [this, ← w2tt]
        exact h7
  · intro ⟨g1, g2, g3, b, g4, g5, g6⟩
    have hpl : m = t ∧ c0 = t := by
      rcases Classical.em (t < m ∨ t = m ∧ t < c0) with h | h
      · exfalso
        rcases hf t t (Nat.le_refl _) ht.1 (Nat.le_refl _) ht.2 h with h2 | h2
        · rw [h2] at g1
          have : (0 : Int64).toInt = 0 := rfl
          omega
        · have := na_i (x := w (t * 5 + t))
          omega
      · omega
    obtain ⟨rfl, rfl⟩ := hpl
    have hb := hB c0 b (Nat.le_refl _) ht.1 (by omega) g5
    have hs1 : s = 1 := by rcases hs with rfl | rfl <;> omega
    subst hs1
    rw [if_pos rfl, if_pos rfl, if_neg (by omega), if_neg (by omega), Int.one_mul] at hb
    have w2 := a5 c0 b (Nat.le_refl _) ht.1 (by omega) g5
    rw [a1 b (by omega) g5, a1 c0 (Nat.le_refl _) ht.2, hb] at w2
    have hne : W2 c0 b ≠ 0 := by
      intro e
      rw [w2] at e
      exact g6 (no_rem e)
    rcases hE with h | ⟨h1, h2, _⟩
    · exact hnn h
    · exact absurd (h2 b g4 g5) hne
/-- the steps of one t end -/
theorem ch_two (ht : t < R ∧ t < C) : ∀ (k : Nat) (w : Nat → Int64), Hs R C t w k → ¬ Chn R C t (2 * k + 1) w := by
  intro k
  induction k with
  | zero =>
    intro w hH _
    obtain ⟨a, b, _, _, _, _, h1, h2, h3⟩ := hH
    omega
  | succ k ih =>
    intro w hH hc
    rw [show 2 * (k + 1) + 1 = (2 * k + 2) + 1 by omega] at hc
    obtain ⟨w3, h1, h2⟩ := hc
    have up : ∀ {v : Nat → Int64} {p q : Int}, p ≤ q → Hs R C t v p → Hs R C t v q := by
      intro v p q h ⟨a, b, g1, g2, g3, g4, g5, g6, g7⟩
      exact ⟨a, b, g1, g2, g3, g4, g5, by omega, by omega⟩
    obtain ⟨p, p1, p2, p3, p4, p5⟩ := Ps_dec h1 ht
    have hpk := p3 _ hH
    rcases p4 with p4 | p4
    · exact ih w3 (up (by omega) p4) (Chn_le (by omega) h2)
    · obtain ⟨w4, h3, h4⟩ := h2
      obtain ⟨q, q1, q2, q3, q4, q5⟩ := Ps_dec h3 ht
      have hq : q ≤ p := q3 p ⟨t, t, Nat.le_refl _, ht.1, Nat.le_refl _, ht.2, by have := p4.1; omega, by have := p4.1; omega, by have := p4.1; omega⟩
      rcases Classical.em (q = p) with e | e
      · subst e
        exact ih w4 (up (by omega) (q5 p4)) h4
      · exact ih w3 (up (by omega) q2) (Chn_le (n := (2 * k + 1) + 1) (by omega) ⟨w4, h3, h4⟩)
end PBH
end
section
-- 65.pcro
section PCR
variable {r q : Nat → Int32} {f : Nat → Nat → Int64} {w v u g : Nat → Int64} {R C t i : Nat} {i1 i2 i3 : Int32}
theorem cross_eq (hD : DH r R C) (hR : R ≤ 4) (hC : C ≤ 4) (ht : t < R ∧ t < C) (hq : q 1 = 0) : ∀ (B n1 n2 y : Nat) (w v u : Nat → Int64) (i1 i2 : Int32), ¬ Chn R C t B w → y + B < 1000000 → B + 1 ≤ n1 → B + 1 ≤ n2 → Sd R C w v u →
    FdD R C t w q f (D_X1_clearCross_2 r (nI t) n1 (nI y) q (ds f w v u)) (D_X9_isCleared_0 R C i3 t n2 u v w i1 i2 0) := by
  intro B
  induction B with
  | zero => intro n1 n2 y w v u i1 i2 h; exact absurd trivial h
  | succ B ih =>
    intro n1 n2 y w v u i1 i2 hc hy h1 h2 hF
    obtain ⟨m1, rfl⟩ : ∃ m, n1 = m + 2 := ⟨n1 - 2, by omega⟩
    obtain ⟨m2, rfl⟩ : ∃ m, n2 = m + 2 := ⟨n2 - 2, by omega⟩
    rcases dpass_eq (r := r) (q := q) (f := f) (i1 := i1) (i2 := i2) (i3 := i3) hD hR hC ht hq hF (n1 := m1) (n2 := m2) (y := y) (by omega) with h | ⟨w1, v1, u1, j1, j2, g1, g2, g3, g4, g5⟩
    · exact h
    · rw [g4, g5]
      obtain ⟨G, xc, xr, k1, k2, w3, v3, u3, w4, v4, u4, e1, e2, e3, e4, e5⟩ := ih (m1 + 1) (m2 + 1) (y + 1) w1 v1 u1 j1 j2 (fun h => hc ⟨w1, g1, h⟩) (by omega) (by omega) (by omega) g3
      refine ⟨G, xc, xr, k1, k2, w3, v3, u3, w4, v4, u4, e1, e2, e3, e4, fun h => ?_⟩
      obtain ⟨a1, a2, a3, a4, a5, a6, a7, a8, a9⟩ := e5 h
      exact ⟨a1, a2, a3, a4, a5, a6, Fj_t g2 a7, a8, a9⟩
/-- small numbers at first -/
def Sw (R : Nat) (w : Nat → Int64) : Prop := ∀ k, k < R * 5 → -20 ≤ (w k).toInt ∧ (w k).toInt ≤ 20
theorem no_chn (hR : R ≤ 4) (hC : C ≤ 4) (ht : t < R ∧ t < C) (hw : Nw R w) (h0 : t = 0 → Sw R w) : ¬ Chn R C t 211 w := by
  intro hc
  have hc0 := hc
  obtain ⟨w3, h1, h2⟩ := hc0
  obtain ⟨m, c0, s, Q, K, B, W1, W2, hm, hs, hn, _⟩ := h1
  by_cases e : t = 0
  · have hb := h0 e (m * 5 + c0) (by omega)
    exact ch_two ht 20 w ⟨m, c0, hm.1, hm.2.1, hm.2.2.1, hm.2.2.2, nz_i hn, hb.2, hb.1⟩ (Chn_le (m := 2 * 20 + 1) (n := 211) (by omega) hc)
  · have hb := ng_int (hw (m * 5 + c0) (by omega))
    exact ch_half (R := R) (C := C) (t := t) (by omega) (by omega) ht 30 w 1000000000 (by decide) ⟨m, c0, hm.1, hm.2.1, hm.2.2.1, hm.2.2.2, nz_i hn, hb.2, hb.1⟩ hc
theorem clear_eq (hD : DH r R C) (hR : R ≤ 4) (hC : C ≤ 4) (ht : t < R ∧ t < C) (hq : q 1 = 0) (hF : Sd R C w v u) (h0 : t = 0 → Sw R w) : FdD R C t w q f (D_X1_clearCross r q (ds f w v u) (nI t)) (D_X9_isCleared R C u v w i1 i2 i3 0 t) := by
  unfold D_X1_clearCross D_X9_isCleared
  rw [show gap 1000000 0 = 1000000 - 0 from gapN (a := 1000000) (b := 0) (by omega) (by omega)]
  exact cross_eq hD hR hC ht hq 211 (1000000 - 0 + 1) (2000000000 + 1) 0 w v u i1 i2 (no_chn hR hC ht hF.1.1 h0) (by omega) (by omega) (by omega) hF
/-- so many of the diagonal are not 0, and they stand first -/
def Rk (R C : Nat) (w : Nat → Int64) (k : Nat) : Prop := k ≤ R ∧ k ≤ C ∧ (∀ j, j < k → ¬ w (j * 5 + j) = 0) ∧ ∀ j, k ≤ j → j < R → j < C → w (j * 5 + j) = 0
theorem cl0 {n : Nat} {G : Int32} (hk : i3.toNatClampNeg = n) {m : Nat} : D_X9_init_48 R C (m + 1) t 0 u w v i1 i2 i3 G = (u, v, w, i1, i2, n, G) := by
  rw [D_X9_init_48_s, if_pos rfl]
  show (u, v, w, i1, i2, i3.toNatClampNeg, G) = _
  rw [hk]
theorem w39 {n : Nat} {y x : Int32} (h : ¬ q 1 = 0) : D_X1_walk_39 r (n + 1) y x q f = (r, q, f) := by
  rw [D_X1_walk_39_s]
  split
  · rfl
  · split
    · rfl
    · split
      · rfl
      · rfl
theorem dwl (hD : DH r R C) (hR : R ≤ 4) (hC : C ≤ 4) : ∀ n1 n2 t : Nat, ∀ (w v u : Nat → Int64) (q : Nat → Int32) (i1 i2 : Int32), t ≤ R → t ≤ C → R - t < n1 → R - t < n2 → q 1 = 0 → Sd R C w v u → (t = 0 → Sw R w) → (∀ j, j < t → ¬ w (j * 5 + j) = 0) →
    ∃ (G j1 j2 : Int32) (K : Nat) (w1 v1 u1 w2 v2 u2 : Nat → Int64), (G = 0 ∨ G = 1) ∧ D_X1_walk_39 r n1 (nI t) 1 q (ds f w v u) = (r, va_up q 1 G, ds f w1 v1 u1) ∧ D_X9_init_48 R C n2 t 1 u w v i1 i2 (nI t) 0 = (u2, v2, w2, j1, j2, K, G) ∧ (G = 0 → w2 = w1 ∧ v2 = v1 ∧ u2 = u1 ∧ Sd R C w1 v1 u1 ∧ Rk R C w1 K) := by
  intro n1
  induction n1 with
  | zero => intro n2 t w v u q i1 i2 _ _ h; omega
  | succ n1 ih =>
    intro n2 t w v u q i1 i2 hy hyC h1 h2 hq hF h0 hnz
    obtain ⟨n2, rfl⟩ : ∃ n, n2 = n + 1 := ⟨n2 - 1, by omega⟩
    have hkt : (nI t).toNatClampNeg = t := nI_clamp (by omega)
    rw [D_X1_walk_39_s, D_X9_init_48_s, hD.1.1, hD.1.2, if_neg (show ¬ (1 : Int32) = 0 by decide), if_neg (show ¬ (1 : Int32) = 0 by decide)]
    have hend : R ≤ t ∨ C ≤ t → ∃ (G j1 j2 : Int32) (K : Nat) (w1 v1 u1 w2 v2 u2 : Nat → Int64), (G = 0 ∨ G = 1) ∧ (r, q, ds f w v u) = (r, va_up q 1 G, ds f w1 v1 u1) ∧ (u, v, w, i1, i2, t, (0 : Int32)) = (u2, v2, w2, j1, j2, K, G) ∧ (G = 0 → w2 = w1 ∧ v2 = v1 ∧ u2 = u1 ∧ Sd R C w1 v1 u1 ∧ Rk R C w1 K) := fun h => ⟨0, i1, i2, t, w, v, u, w, v, u, Or.inl rfl, by rw [vq1 hq], rfl, fun _ => ⟨rfl, rfl, rfl, hF, hy, hyC, hnz, fun j _ _ _ => by omega⟩⟩
    by_cases e : R ≤ t
    · rw [if_pos (ile e (by omega)), if_pos e]
      simp only [nm, hkt]
      exact hend (Or.inl e)
    · rw [if_neg (nile e (by omega)), if_neg e]
      by_cases e2 : C ≤ t
      · rw [if_pos (ile e2 (by omega)), if_pos e2]
        simp only [nm, hkt]
        exact hend (Or.inr e2)
      · rw [if_neg (nile e2 (by omega)), if_neg e2, if_pos hq]
        obtain ⟨G, xc, xr, k1, k2, w3, v3, u3, w4, v4, u4, e1, e3, e4, e5, e6⟩ := clear_eq (r := r) (q := q) (f := f) (i1 := i1) (i2 := i2) (i3 := nI t) hD hR hC (show t < R ∧ t < C by omega) hq hF h0
        rw [e3, e4]
        simp only [bnd3, bnd7]
        obtain ⟨n1, rfl⟩ : ∃ n, n1 = n + 1 := ⟨n1 - 1, by omega⟩
        obtain ⟨n2, rfl⟩ : ∃ n, n2 = n + 1 := ⟨n2 - 1, by omega⟩
        have hk0 : (nI t + 0).toNatClampNeg = t := by rw [show nI t + 0 = nI t from Int32.add_zero _]; exact hkt
        rcases e1 with rfl | rfl
        · obtain ⟨a1, a2, rfl, rfl, rfl, a6, a7, a8, a9⟩ := e6 rfl
          rw [vq1 hq, a1]
          rcases a2 with rfl | rfl
          · rw [if_pos rfl, cl0 hk0]
            refine ⟨0, k1, k2, t, w4, v4, u4, w4, v4, u4, Or.inl rfl, ?_, rfl, fun _ => ⟨rfl, rfl, rfl, a6, hy, hyC, fun j hj => ?_, fun j hj h1 h2 => a9 rfl j j hj h1 hj h2⟩⟩
            · rw [D_X1_walk_39_s, vq1 hq]
              split
              · rfl
              · split
                · rfl
                · rw [if_pos rfl]
            · rw [a7 j hj]; exact hnz j hj
          · rw [if_neg (by decide), s1]
            exact ih (n2 + 1) (t + 1) w4 v4 u4 q k1 k2 (by omega) (by omega) (by omega) (by omega) hq a6 (fun h => absurd h (by omega)) (fun j hj => by
              by_cases ej : j = t
              · rw [ej]; exact a8 rfl
              · rw [a7 j (by omega)]; exact hnz j (by omega))
        · rw [e5 rfl, if_pos rfl, cl0 hk0, w39 (by rw [vu_self]; decide)]
          exact ⟨1, k1, k2, t, w3, v3, u3, w4, v4, u4, Or.inr rfl, rfl, rfl, fun h => absurd h (by decide)⟩
/-- the steps to the diagonal of a table -/
theorem dwalk_eq (hT : CT r f i R C g) (h8 : i ≠ 8) (h9 : i ≠ 9) (h10 : i ≠ 10) (h1 : 1 ≤ R) (hR : R ≤ 4) (h2 : 1 ≤ C) (hC : C ≤ 4) (hg : Sw R g) (hz : zc C (R * 5) g) :
    ∃ (G j1 j2 : Int32) (K : Nat) (w1 v1 u1 w2 v2 u2 : Nat → Int64), (G = 0 ∨ G = 1) ∧ D_X1_walk r q f i = (rs (rs (rs r 8 R C) 9 R R) 10 C C, va_up q 1 G, ds f w1 v1 u1) ∧ D_X9_init R C g = (u2, v2, w2, j1, j2, K, G) ∧ (G = 0 → w2 = w1 ∧ v2 = v1 ∧ u2 = u1 ∧ Sd R C w1 v1 u1 ∧ Rk R C w1 K) := by
  obtain ⟨a1, a2, a3⟩ := hT
  have hgn : ∀ k, k < R * 5 → ng (g k) := fun k hk => by
    have := hg k hk
    exact ⟨Int64.le_iff_toInt_le.mpr (by show (-1000000000 : Int) ≤ _; omega), Int64.le_iff_toInt_le.mpr (by show _ ≤ (1000000000 : Int); omega)⟩
  unfold D_X1_walk D_X9_init
  rw [cbl a1 a2]
  simp only [bnd3, bnd1]
  rw [rs_R' h8, a1, cun h1 hR]
  simp only [bnd3]
  rw [rs_C' h9, rs_C' h8, a2, cun h2 hC]
  simp only [bnd3]
  have hD : DH (rs (rs (rs r 8 R C) 9 R R) 10 C C) R C := ⟨⟨(rs_R' (by decide)).trans ((rs_R' (by decide)).trans rs_R), (rs_C' (by decide)).trans ((rs_C' (by decide)).trans rs_C)⟩, ⟨(rs_R' (by decide)).trans rs_R, (rs_C' (by decide)).trans rs_C⟩, rs_R, rs_C⟩
  have hf : va_up (va_up (va_up f 8 (cp 20 (f i) (f 8))) 9 (un R (zf 20 (va_up f 8 (cp 20 (f i) (f 8)) 9)))) 10 (un C (zf 20 (va_up (va_up f 8 (cp 20 (f i) (f 8))) 9 (un R (zf 20 (va_up f 8 (cp 20 (f i) (f 8)) 9))) 10))) = ds f (cp (R * 5) g (fun _ => 0)) (un R (fun _ => 0)) (un C (fun _ => 0)) := by
    unfold ds
    rw [vu_ne (show (10 : Nat) ≠ 9 by decide), vu_ne (show (10 : Nat) ≠ 8 by decide), vu_ne (show (9 : Nat) ≠ 8 by decide), un_cp hR, un_cp hC]
    congr 3
    funext k
    by_cases e : k < 20
    · rw [cpl e, cpl e, a3 k e]
    · unfold cp; rw [if_neg e, if_neg e]
  rw [hf, hD.1.1, show gap (nI R) 0 = R - 0 from gapN (b := 0) (by omega) (by omega), rcp, run, run]
  obtain ⟨G, j1, j2, K, w1, v1, u1, w2, v2, u2, hG, g1, g2, g3⟩ := dwl (r := rs (rs (rs r 8 R C) 9 R R) 10 C C) (f := f) hD hR hC (R - 0 + 1) (R + 1 - 0 + 1) 0 (cp (R * 5) g (fun _ => 0)) (un R (fun _ => 0)) (un C (fun _ => 0)) (va_up q 1 0) 1 1 (by omega) (by omega) (by omega) (by omega) vu_self ⟨⟨fun k _ => cp_ng hgn k, fun k _ => un_ng k, fun k _ => un_ng k⟩, cp_zo hz, un_zo, un_zo⟩ (fun _ k hk => by
    show -20 ≤ (cp (R * 5) g (fun _ => 0) k).toInt ∧ _
    unfold cp
    rw [if_pos hk]
    exact hg k hk) (fun j hj => absurd hj (by omega))
  refine ⟨G, j1, j2, K, w1, v1, u1, w2, v2, u2, hG, ?_, g2, g3⟩
  rw [vu2] at g1
  exact g1
end PCR
end
