section PBP
variable {X Y W : Nat → Nat → Int} {p p1 p2 P g : Int} {a a' b b' i i' j j' : Nat}
theorem T3_A1 (ha : pm a a') (hb : pm b b') (hA : SA X p2 P a a' b b') (hn : p2 < p1 ∧ p1 < p ∧ p ≤ P ∧ P < 2 * p2) (g1 : X a b = p1) (g2 : X a b' = 0 ∨ p2 ≤ X a b') (g3 : X a' b = 0) (g4 : X a' b' = g) (hg : g = p ∨ g = -p) (hX : Bg P X) (hS : Sl 2 P X) : False := by
  obtain ⟨Y, s1, s2, Z, s3, s4, _⟩ := hS
  have hA' := hA
  obtain ⟨n0, n1, n2, n3, n4, n5, n6, n7⟩ := hA'
  rcases A1 ha hb hA hX s1 s2 with ⟨c, c', k0, k1, k2, k3, k4, k5, k6⟩ | ⟨q, c, c', k0, k1, k2, k3, k4⟩ | ⟨W, q, c, c', k0, k1, k2, k3, k4⟩
  · obtain ⟨W, q, d, d', e, e', m1, m2, m3, m4, m5, m6, _⟩ := N1 ha k0 k2 s2 s3 s4
    rcases pm2 hb k0 with ⟨rfl, rfl⟩ | ⟨rfl, rfl⟩ <;> rcases pm2 hb m2 with ⟨rfl, rfl⟩ | ⟨rfl, rfl⟩ <;> rcases pm2 ha m1 with ⟨rfl, rfl⟩ | ⟨rfl, rfl⟩ <;> omega
  · rcases pm2 hb k0 with ⟨rfl, rfl⟩ | ⟨rfl, rfl⟩ <;> omega
  · rcases pm2 hb k0 with ⟨rfl, rfl⟩ | ⟨rfl, rfl⟩ <;> omega
end PBP
