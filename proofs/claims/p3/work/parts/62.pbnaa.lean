section PBP
variable {X Y W : Nat → Nat → Int} {p p1 p2 P g : Int} {a a' b b' i i' j j' : Nat}
theorem T3_A2 (ha : pm a a') (hb : pm b b') (hA : SA X p2 P a' a b b') (hn : p2 < p1 ∧ p1 < p ∧ p ≤ P ∧ P < 2 * p2) (g1 : X a b = p1) (g2 : X a b' = 0 ∨ p2 ≤ X a b') (g3 : X a' b = 0) (g4 : X a' b' = g) (hg : g = p ∨ g = -p) (hX : Bg P X) (hS : Sl 2 P X) : False := by
  obtain ⟨Y, s1, s2, Z, s3, s4, _⟩ := hS
  have hA' := hA
  obtain ⟨n0, n1, n2, n3, n4, n5, n6, n7⟩ := hA'
  rcases A1 (pmx ha) hb hA hX s1 s2 with ⟨c, c', k0, k1, k2, k3, k4, k5, k6⟩ | ⟨q, c, c', k0, k1, k2, k3, k4⟩ | ⟨W, q, c, c', k0, k1, k2, k3, k4⟩
  · obtain ⟨W, q, d, d', e, e', m1, m2, m3, m4, m5, m6, m7⟩ := N1 (pmx ha) k0 k2 s2 s3 s4
    clear m7 n7 k5 k6 m4 k1 hA k2
    rcases pm2 hb k0 with ⟨rfl, rfl⟩ | ⟨rfl, rfl⟩ <;> rcases pm2 hb m2 with ⟨rfl, rfl⟩ | ⟨rfl, rfl⟩ <;> rcases pm2 (pmx ha) m1 with ⟨rfl, rfl⟩ | ⟨rfl, rfl⟩ <;> omega
  · rcases pm2 hb k0 with ⟨rfl, rfl⟩ | ⟨rfl, rfl⟩ <;> omega
  · rcases pm2 hb k0 with ⟨rfl, rfl⟩ | ⟨rfl, rfl⟩ <;> omega
theorem T3_A (ha : pm a a') (hb : pm b b') (hA : SA X p2 P i i' b b') (hi : (i = a ∧ i' = a') ∨ (i = a' ∧ i' = a)) (hn : p2 < p1 ∧ p1 < p ∧ p ≤ P ∧ P < 2 * p2) (g1 : X a b = p1) (g2 : X a b' = 0 ∨ p2 ≤ X a b') (g3 : X a' b = 0) (g4 : X a' b' = g) (hg : g = p ∨ g = -p) (hX : Bg P X) (hS : Sl 2 P X) : False := by
  rcases hi with ⟨rfl, rfl⟩ | ⟨rfl, rfl⟩
  · exact T3_A1 ha hb hA hn g1 g2 g3 g4 hg hX hS
  · exact T3_A2 ha hb hA hn g1 g2 g3 g4 hg hX hS
theorem T3x (ha : pm a a') (hb : pm b b') (hT : T3 W p2 p1 p P g a a' b b') (hE : En W X a a' b b' p2) (hX : Bg P X) (hS : Sl 2 P X) : False := by
  obtain ⟨t1, t2, t3, t4, t5, t6, t7, t8, t9, t10, t11⟩ := hT
  rcases En_k (P := P) hE ha t2 t1.1 (by omega) t10 t11 (by omega) (by omega) with ⟨e1, e2⟩ | ⟨e0, i, i', e1, e2, e3, e4⟩
  · obtain ⟨Y, s1, s2, -⟩ := hS
    obtain ⟨W', q, d, d', e, e', m1, m2, m3, -, -, m6, -⟩ := N1 ha hb e2 hX s1 s2
    clear t2 t3 t6 t10 t11 s1 s2 e2 hX hE
    rw [e1, e1] at m6
    rcases pm2 hb m2 with ⟨rfl, rfl⟩ | ⟨rfl, rfl⟩ <;> rcases pm2 ha m1 with ⟨rfl, rfl⟩ | ⟨rfl, rfl⟩ <;> omega
  · exact T3_A ha hb e2 e1 t1.2 (by rw [e3]; exact t4) (by rw [e3]; exact t5) (by rw [e4]; exact t7) (by rw [e4]; exact t8) t9 hX hS
end PBP
