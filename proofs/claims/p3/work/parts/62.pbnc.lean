section PBP
variable {X Y W : Nat → Nat → Int} {p p1 p2 P g : Int} {a a' b b' i i' j j' : Nat}
theorem SA2x (ha : pm a a') (hb : pm b b') (hA : SA X p1 P i i' b b') (hi : (i = a ∧ i' = a') ∨ (i = a' ∧ i' = a)) (hn : p1 < p ∧ p ≤ P ∧ P < 2 * p1) (g1 : X a b = p) (g2 : p1 ≤ X a b' ∧ X a b' < p) (g3 : X a' b = 0) (hX : Bg P X) (hS : Sl 2 P X) : False := by
  have hpi : pm i i' := by
    rcases hi with ⟨rfl, rfl⟩ | ⟨rfl, rfl⟩
    · exact ha
    · exact pmx ha
  obtain ⟨Y, s1, s2, Z, s3, s4, _⟩ := hS
  have hA' := hA
  obtain ⟨n0, n1, n2, n3, n4, n5, n6, n7⟩ := hA'
  rcases A1 hpi hb hA hX s1 s2 with ⟨c, c', k0, k1, k2, k3, k4, k5, k6⟩ | ⟨q, c, c', k0, k1, k2, k3, k4⟩ | ⟨W, q, c, c', k0, k1, k2, k3, k4⟩
  · have k2' := k2
    obtain ⟨o0, o1, o2, o3, o4, o5, o6, o7⟩ := k2'
    obtain ⟨W, q, d, d', e, e', m1, m2, m3, m4, m5, m6, _⟩ := N1 hpi k0 k2 s2 s3 s4
    rcases pm2 hb k0 with ⟨rfl, rfl⟩ | ⟨rfl, rfl⟩ <;> rcases pm2 hb m2 with ⟨rfl, rfl⟩ | ⟨rfl, rfl⟩ <;> rcases pm2 hpi m1 with ⟨rfl, rfl⟩ | ⟨rfl, rfl⟩ <;> rcases hi with ⟨rfl, rfl⟩ | ⟨rfl, rfl⟩ <;> omega
  · rcases pm2 hb k0 with ⟨rfl, rfl⟩ | ⟨rfl, rfl⟩ <;> rcases hi with ⟨rfl, rfl⟩ | ⟨rfl, rfl⟩ <;> omega
  · rcases pm2 hb k0 with ⟨rfl, rfl⟩ | ⟨rfl, rfl⟩ <;> rcases hi with ⟨rfl, rfl⟩ | ⟨rfl, rfl⟩ <;> omega
end PBP
