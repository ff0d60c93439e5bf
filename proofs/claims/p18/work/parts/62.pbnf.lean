section PBP
variable {X Y W : Nat → Nat → Int} {p p1 p2 P g : Int} {a a' b b' i i' j j' : Nat}
theorem T3_A (ha : pm a a') (hb : pm b b') (hA : SA X p2 P i i' b b') (hi : (i = a ∧ i' = a') ∨ (i = a' ∧ i' = a)) (hn : p2 < p1 ∧ p1 < p ∧ p ≤ P ∧ P < 2 * p2) (g1 : X a b = p1) (g2 : X a b' = 0 ∨ p2 ≤ X a b') (g3 : X a' b = 0) (g4 : X a' b' = g) (hg : g = p ∨ g = -p) (hX : Bg P X) (hS : Sl 2 P X) : False := by
  have hpi : pm i i' := by
    rcases hi with ⟨rfl, rfl⟩ | ⟨rfl, rfl⟩
    · exact ha
    · exact pmx ha
  obtain ⟨Y, s1, s2, Z, s3, s4, _⟩ := hS
  have hA' := hA
  obtain ⟨n0, n1, n2, n3, n4, n5, n6, n7⟩ := hA'
  rcases A1 hpi hb hA hX s1 s2 with ⟨c, c', k0, k1, k2, k3, k4, k5, k6⟩ | ⟨q, c, c', k0, k1, k2, k3, k4⟩ | ⟨W, q, c, c', k0, k1, k2, k3, k4⟩
  · obtain ⟨W, q, d, d', e, e', m1, m2, m3, m4, m5, m6, _⟩ := N1 hpi k0 k2 s2 s3 s4
    rcases pm2 hb k0 with ⟨rfl, rfl⟩ | ⟨rfl, rfl⟩ <;> rcases pm2 hb m2 with ⟨rfl, rfl⟩ | ⟨rfl, rfl⟩ <;> rcases pm2 hpi m1 with ⟨rfl, rfl⟩ | ⟨rfl, rfl⟩ <;> rcases hi with ⟨rfl, rfl⟩ | ⟨rfl, rfl⟩ <;> omega
  · rcases pm2 hb k0 with ⟨rfl, rfl⟩ | ⟨rfl, rfl⟩ <;> rcases hi with ⟨rfl, rfl⟩ | ⟨rfl, rfl⟩ <;> omega
  · rcases pm2 hb k0 with ⟨rfl, rfl⟩ | ⟨rfl, rfl⟩ <;> rcases hi with ⟨rfl, rfl⟩ | ⟨rfl, rfl⟩ <;> omega
theorem T3x (ha : pm a a') (hb : pm b b') (hT : T3 W p2 p1 p P g a a' b b') (hE : En W X a a' b b' p2) (hX : Bg P X) (hS : Sl 2 P X) : False := by
  obtain ⟨t1, t2, t3, t4, t5, t6, t7, t8, t9, t10, t11⟩ := hT
  rcases En_k (P := P) hE ha t2 t1.1 (by omega) t10 t11 (by omega) (by omega) with ⟨e1, e2⟩ | ⟨e0, i, i', e1, e2, e3, e4⟩
  · obtain ⟨Y, s1, s2, _⟩ := hS
    obtain ⟨W', q, d, d', e, e', m1, m2, m3, m4, m5, m6, _⟩ := N1 ha hb e2 hX s1 s2
    rw [e1, e1] at m6
    rcases pm2 hb m2 with ⟨rfl, rfl⟩ | ⟨rfl, rfl⟩ <;> rcases pm2 ha m1 with ⟨rfl, rfl⟩ | ⟨rfl, rfl⟩ <;> omega
  · exact T3_A ha hb e2 e1 t1.2 (by rw [e3]; exact t4) (by rw [e3]; exact t5) (by rw [e4]; exact t7) (by rw [e4]; exact t8) t9 hX hS
theorem T2x (ha : pm a a') (hb : pm b b') (hT : T2 X p1 p P g a a' b b') (hN : SN X p1 P a a' b b') (hg : g = -p → X a b' = 0) (hX : Bg P X) (hS : Sl 3 P X) : False := by
  obtain ⟨t1, t2, t3, t4, t5, t6, t7, t8⟩ := hT
  obtain ⟨Y, s1, s2, s3⟩ := hS
  obtain ⟨W, q, d, d', e, e', m1, m2, m3, m4, m5, m6, m7, m8, m9, m10, m11, m12, m13, m14⟩ := N1 ha hb hN hX s1 s2
  rcases pm2 ha m1 with ⟨rfl, rfl⟩ | ⟨rfl, rfl⟩ <;> rcases pm2 hb m2 with ⟨rfl, rfl⟩ | ⟨rfl, rfl⟩
  · omega
  · omega
  · omega
  · have y1 := m4 0 e'
    have hR : X d' e = 0 := by omega
    obtain ⟨u1, u2, u3⟩ := m10 hR
    exact T3x m1 m2 (p2 := q) (p1 := p1) (p := p) (P := P) (g := g) (W := W) ⟨by omega, m8.1, m8.2.1, m8.2.2.1, by rw [m8.2.2.2]; omega, u1, by rw [u2]; exact t3, by rw [u3]; exact t4, by omega, m9.1, m9.2.1⟩ m14 s2 s3
theorem SA2x (ha : pm a a') (hb : pm b b') (hA : SA X p1 P i i' b b') (hi : (i = a ∧ i' = a') ∨ (i = a' ∧ i' = a)) (hn : p1 < p ∧ p ≤ P ∧ P < 2 * p1) (g1 : X a b = p) (g2 : p1 ≤ X a b' ∧ X a b' < p) (g3 : X a' b = 0) (hX : Bg P X) (hS : Sl 2 P X) : False := by
  have hpi : pm i i' := by
    rcases hi with ⟨rfl, rfl⟩ | ⟨rfl, rfl⟩
    · exact ha
    · exact pmx ha
  obtain ⟨Y, s1, s2, Z, s3, s4, _⟩ := hS
  have hA' := hA
  obtain ⟨n0, n1, n2, n3, n4, n5, n6, n7⟩ := hA'
  rcases A1 hpi hb hA hX s1 s2 with ⟨c, c', k0, k1, k2, k3, k4, k5, k6⟩ | ⟨q, c, c', k0, k1, k2, k3, k4⟩ | ⟨W, q, c, c', k0, k1, k2, k3, k4⟩
  · have k2' := k2
    obtain ⟨o0, o1, o2, o3, o4, o5, o6, o7⟩ := k2'
    obtain ⟨W, q, d, d', e, e', m1, m2, m3, m4, m5, m6, _⟩ := N1 hpi k0 k2 s2 s3 s4
    rcases pm2 hb k0 with ⟨rfl, rfl⟩ | ⟨rfl, rfl⟩ <;> rcases pm2 hb m2 with ⟨rfl, rfl⟩ | ⟨rfl, rfl⟩ <;> rcases pm2 hpi m1 with ⟨rfl, rfl⟩ | ⟨rfl, rfl⟩ <;> rcases hi with ⟨rfl, rfl⟩ | ⟨rfl, rfl⟩ <;> omega
  · rcases pm2 hb k0 with ⟨rfl, rfl⟩ | ⟨rfl, rfl⟩ <;> rcases hi with ⟨rfl, rfl⟩ | ⟨rfl, rfl⟩ <;> omega
  · rcases pm2 hb k0 with ⟨rfl, rfl⟩ | ⟨rfl, rfl⟩ <;> rcases hi with ⟨rfl, rfl⟩ | ⟨rfl, rfl⟩ <;> omega
theorem Sl_le : ∀ {m n : Nat} {X : Nat → Nat → Int}, m ≤ n → Sl n P X → Sl m P X
  | 0, _, _, _, _ => trivial
  | m + 1, 0, _, h, _ => absurd h (by omega)
  | m + 1, n + 1, _, h, ⟨Y, h1, h2, h3⟩ => ⟨Y, h1, h2, Sl_le (by omega) h3⟩
theorem T5x (ha : pm i i') (hb : pm b b') (hT : T5 W p1 p P i i' b b') (hE : En W X i i' b b' p1 ∨ En W X i' i b b' p1) (hX : Bg P X) (hS : Sl 4 P X) : False := by
  obtain ⟨t1, t2, t3, t4, t5, t6, t7, t8, t9⟩ := hT
  have hC : ((∀ i j, X i j = W i j) ∧ SN X p1 P i i' b b') ∨ ∃ i0 i0', ((i0 = i ∧ i0' = i') ∨ (i0 = i' ∧ i0' = i)) ∧ SA X p1 P i0 i0' b b' ∧ (∀ j, X i j = W i j) ∧ ∀ j, X i' j = W i' j := by
    rcases hE with hE | hE
    · rcases En_k (P := P) hE ha t2 t1.1 (by omega) (by omega) t4 t5 (by omega) with h | ⟨_, h⟩
      · exact Or.inl h
      · exact Or.inr h
    · rcases En_k (P := P) hE (pmx ha) t2 t1.1 (by omega) (by omega) t4 (by omega) t5 with ⟨h1, h2⟩ | ⟨_, i0, i0', h1, h2, h3, h4⟩
      · exact Or.inl ⟨h1, SN_x h2 (pmx ha) hb ha hb⟩
      · exact Or.inr ⟨i0, i0', h1.symm, h2, h4, h3⟩
  rcases hC with ⟨e1, e2⟩ | ⟨i0, i0', hi, hA, f1, f2⟩
  · obtain ⟨Y, s1, s2, s3⟩ := hS
    obtain ⟨V, q, d, d', e, e', m1, m2, m3, m4, m5, m6, m7, m8, m9, m10, m11, m12, m13, m14⟩ := N1 ha hb e2 hX s1 s2
    obtain ⟨o0, o1, o2, o3, o4, o5, o6, o7⟩ := e2
    simp only [e1] at m5 m6 m7 m8 m10 m11 m12 m13 o7
    rcases pm2 hb m2 with ⟨rfl, rfl⟩ | ⟨rfl, rfl⟩
    · exfalso
      rcases pm2 ha m1 with ⟨rfl, rfl⟩ | ⟨rfl, rfl⟩ <;> omega
    · have n1 : W d e = -q := by
        rcases m6 with ⟨h1, h2⟩ | h
        · exfalso
          rcases pm2 ha m1 with ⟨rfl, rfl⟩ | ⟨rfl, rfl⟩ <;> omega
        · exact h
      have n2 : W d' e = -q := by rcases pm2 ha m1 with ⟨rfl, rfl⟩ | ⟨rfl, rfl⟩ <;> omega
      obtain ⟨u1, u2, u3⟩ := m12 n1 n2
      have n3 : W d' 0 - W d 0 = 0 := by rcases pm2 ha m1 with ⟨rfl, rfl⟩ | ⟨rfl, rfl⟩ <;> omega
      have n4 : W d' e' - W d e' = p ∨ W d' e' - W d e' = -p := by rcases pm2 ha m1 with ⟨rfl, rfl⟩ | ⟨rfl, rfl⟩ <;> omega
      exact T3x m1 m2 (p2 := q) (p1 := p1) (p := p) (P := P) (g := W d' e' - W d e') (W := V) ⟨by omega, m8.1, m8.2.1, m8.2.2.1, Or.inl (by rw [m8.2.2.2]; exact t3), u1, by rw [u2]; exact n3, u3, n4, m9.1, m9.2.1⟩ m14 s2 (Sl_le (by decide) s3)
  · have hpi : pm i0 i0' := by
      rcases hi with ⟨rfl, rfl⟩ | ⟨rfl, rfl⟩
      · exact ha
      · exact pmx ha
    rw [← f1] at t7
    rw [← f2] at t8
    rw [← f1, ← f2] at t9
    obtain ⟨Y, s1, s2, s3⟩ := hS
    have hA' := hA
    obtain ⟨n0, n1, n2, n3, n4, n5, n6, n7⟩ := hA'
    rcases A1 hpi hb hA hX s1 s2 with ⟨c, c', k0, k1, k2, k3, k4, k5, k6⟩ | ⟨q, c, c', k0, k1, k2, k3, k4, k5, k6⟩ | ⟨V, q, c, c', k0, k1, k2, k3, k4⟩
    · obtain ⟨Z, s3, s4, _⟩ := s3
      have k2' := k2
      obtain ⟨o0, o1, o2, o3, o4, o5, o6, o7⟩ := k2'
      obtain ⟨V, q, d, d', e, e', m1, m2, m3, m4, m5, m6, _⟩ := N1 hpi k0 k2 s2 s3 s4
      rcases pm2 hb k0 with ⟨rfl, rfl⟩ | ⟨rfl, rfl⟩ <;> rcases pm2 hb m2 with ⟨rfl, rfl⟩ | ⟨rfl, rfl⟩ <;> rcases pm2 hpi m1 with ⟨rfl, rfl⟩ | ⟨rfl, rfl⟩ <;> rcases hi with ⟨rfl, rfl⟩ | ⟨rfl, rfl⟩ <;> omega
    · exact T2x hpi k0 k4 k6 (fun _ => k5) s2 s3
    · have z1 := k3 b
      have z2 := k3 b'
      rcases pm2 hb k0 with ⟨rfl, rfl⟩ | ⟨rfl, rfl⟩ <;> rcases hi with ⟨rfl, rfl⟩ | ⟨rfl, rfl⟩ <;> omega
theorem SAx (ha : pm i i') (hb : pm j j') (hA : SA X p P i i' j j') (hX : Bg P X) (hS : Sl 5 P X) : False := by
  obtain ⟨Y, s1, s2, s3⟩ := hS
  have hpP : p ≤ P := hA.2.2.1
  rcases A1 ha hb hA hX s1 s2 with ⟨c, c', k0, k1, k2, k3, k4, k5, k6⟩ | ⟨q, c, c', k0, k1, k2, k3, k4, k5, k6⟩ | ⟨V, q, c, c', k0, k1, k2, k3, k4, k5, k6⟩
  · obtain ⟨Z, s4, s5, s6⟩ := s3
    have k2' := k2
    obtain ⟨W, q, d, d', e, e', m1, m2, m3, m4, m5, m6, m7, m8, m9, m10, m11, m12, m13, m14⟩ := N1 ha k0 k2 s2 s4 s5
    obtain ⟨o0, o1, o2, o3, o4, o5, o6, o7⟩ := SN_x k2' ha k0 m1 m2
    have z1 : Y d 0 = 0 ∧ Y d' 0 = 0 := by
      rcases pm2 ha m1 with ⟨rfl, rfl⟩ | ⟨rfl, rfl⟩
      · exact k3
      · exact k3.symm
    have z2 := m7 z1.1
    have z3 := m13 z1.1 z1.2
    have z4 := m4 0 e'
    rcases En_k (P := P) m14 m1 m8.1 m3.1 (by omega) m9.1 m9.2.1 (by omega) m9.2.2 with ⟨e1, e2⟩ | ⟨e0, i0, i0', e1, e2, e3, e4⟩
    · refine T2x m1 m2 (p1 := q) (p := p) (g := p) ?_ e2 (fun h => by omega) s5 (Sl_le (by decide) s6)
      unfold T2
      simp only [e1]
      exact ⟨by omega, m8.1, m8.2.1, m8.2.2.1, by rw [m8.2.2.2]; omega, by rw [m8.2.2.2]; omega, Or.inl trivial, m9⟩
    · exact SA2x m1 m2 e2 e1 (p := p) (by omega) (by rw [e3]; exact m8.2.2.1) (by rw [e3, m8.2.2.2]; omega) (by rw [e4]; exact z3) s5 (Sl_le (by decide) s6)
  · exact T2x ha k0 k4 k6 (fun _ => k5) s2 (Sl_le (by decide) s3)
  · exact T5x ha k0 k5 k6 s2 s3
theorem SNx (ha : pm i i') (hb : pm j j') (hN : SN X p P i i' j j') (hX : Bg P X) (hS : Sl 6 P X) : False := by
  obtain ⟨Y, s1, s2, s3⟩ := hS
  obtain ⟨W, q, d, d', e, e', m1, m2, m3, m4, m5, m6, m7, m8, m9, m10, m11, m12, m13, m14⟩ := N1 ha hb hN hX s1 s2
  obtain ⟨o0, o1, o2, o3, o4, o5, o6, o7⟩ := SN_x hN ha hb m1 m2
  have z4 := m4 0 e'
  rcases En_k (P := P) m14 m1 m8.1 m3.1 (by omega) m9.1 m9.2.1 (by omega) m9.2.2 with ⟨e1, e2⟩ | ⟨e0, i0, i0', e1, e2, e3, e4⟩
  · refine T2x m1 m2 (p1 := q) (p := p) (g := p) ?_ e2 (fun h => by omega) s2 (Sl_le (by decide) s3)
    unfold T2
    simp only [e1]
    exact ⟨by omega, m8.1, m8.2.1, m8.2.2.1, by rw [m8.2.2.2]; omega, by rw [m8.2.2.2]; omega, Or.inl trivial, m9⟩
  · exact SAx (by
      rcases e1 with ⟨rfl, rfl⟩ | ⟨rfl, rfl⟩
      · exact m1
      · exact pmx m1) m2 e2 s2 s3
/-- behind a pass with the least P, seven passes don't keep all above its half -/
theorem Pv_half {P : Int} (hP : Pv X Y) (hl : ∃ m c, X m c ≠ 0 ∧ X m c ≤ P ∧ -P ≤ X m c) (hY : Bg P Y) (hS : Sl 6 P Y) : False := by
  obtain ⟨m, m1, a, a', c, c1, b, b', p, s, q1, q2, k1, k2, W, ha, hb, hm, hc, hL, hV, hE⟩ := hP
  obtain ⟨v1, v2, v3, v4, v5, v6, v7, v8, v9, v10, v11, v12, v13, v14, v15⟩ := hV
  obtain ⟨x, y, g1, g2, g3⟩ := hl
  have hle := hL.2.1 x y
  have hp : p ≤ P := by omega
  rcases En_k (P := P) hE ha v3 hL.1 hp v12 v13 v14 v15 with ⟨e1, e2⟩ | ⟨e0, i0, i0', e1, e2, e3, e4⟩
  · exact SNx ha hb e2 hY hS
  · exact SAx (by
      rcases e1 with ⟨rfl, rfl⟩ | ⟨rfl, rfl⟩
      · exact ha
      · exact pmx ha) hb e2 hY (Sl_le (by decide) hS)
end PBP
