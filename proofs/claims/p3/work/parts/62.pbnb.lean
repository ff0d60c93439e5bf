section PBP
variable {X Y W : Nat → Nat → Int} {p p1 p2 P g : Int} {a a' b b' i i' j j' : Nat}
theorem T2x (ha : pm a a') (hb : pm b b') (hT : T2 X p1 p P g a a' b b') (hN : SN X p1 P a a' b b') (hg : g = -p → X a b' = 0) (hX : Bg P X) (hS : Sl 3 P X) : False := by
  obtain ⟨t1, t2, t3, t4, t5, t6, t7, t8⟩ := hT
  obtain ⟨Y, s1, s2, s3⟩ := hS
  obtain ⟨W, q, d, d', e, e', m1, m2, m3, m4, m5, m6, m7, m8, m9, m10, m11, m12, m13, m14⟩ := N1 ha hb hN hX s1 s2
  rcases pm2 ha m1 with ⟨rfl, rfl⟩ | ⟨rfl, rfl⟩ <;> rcases pm2 hb m2 with ⟨rfl, rfl⟩ | ⟨rfl, rfl⟩
  · omega
  · omega
  · omega
  · have y1 := m4 0 e'
    have hR : X d' e = 0 := by omega
    obtain ⟨u1, u2, u3⟩ := m10 hR
    exact T3x m1 m2 (p2 := q) (p1 := p1) (p := p) (P := P) (g := g) (W := W) ⟨by omega, m8.1, m8.2.1, m8.2.2.1, by rw [m8.2.2.2]; omega, u1, by rw [u2]; exact t3, by rw [u3]; exact t4, by omega, m9.1, m9.2.1⟩ m14 s2 s3
end PBP
