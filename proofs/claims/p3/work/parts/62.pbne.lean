section PBP
variable {X Y W : Nat → Nat → Int} {p p1 p2 P g : Int} {a a' b b' i i' j j' : Nat}
theorem SAx (ha : pm i i') (hb : pm j j') (hA : SA X p P i i' j j') (hX : Bg P X) (hS : Sl 5 P X) : False := by
  obtain ⟨Y, s1, s2, s3⟩ := hS
  have hpP : p ≤ P := hA.2.2.1
  rcases A1 ha hb hA hX s1 s2 with ⟨c, c', k0, k1, k2, k3, k4, k5, k6⟩ | ⟨q, c, c', k0, k1, k2, k3, k4, k5, k6⟩ | ⟨V, q, c, c', k0, k1, k2, k3, k4, k5, k6⟩
  · obtain ⟨Z, s4, s5, s6⟩ := s3
    have k2' := k2
    obtain ⟨W, q, d, d', e, e', m1, m2, m3, m4, m5, m6, m7, m8, m9, m10, m11, m12, m13, m14⟩ := N1 ha k0 k2 s2 s4 s5
    obtain ⟨o0, o1, o2, o3, o4, o5, o6, o7⟩ := SN_x k2' ha k0 m1 m2
    have z1 : Y d 0 = 0 ∧ Y d' 0 = 0 := by
      rcases pm2 ha m1 with ⟨rfl, rfl⟩ | ⟨rfl, rfl⟩
      · exact k3
      · exact k3.symm
    have z2 := m7 z1.1
    have z3 := m13 z1.1 z1.2
    have z4 := m4 0 e'
    rcases En_k (P := P) m14 m1 m8.1 m3.1 (by omega) m9.1 m9.2.1 (by omega) m9.2.2 with ⟨e1, e2⟩ | ⟨e0, i0, i0', e1, e2, e3, e4⟩
    · refine T2x m1 m2 (p1 := q) (p := p) (g := p) ?_ e2 (fun h => by omega) s5 (Sl_le (by decide) s6)
      unfold T2
      simp only [e1]
      exact ⟨by omega, m8.1, m8.2.1, m8.2.2.1, by rw [m8.2.2.2]; omega, by rw [m8.2.2.2]; omega, Or.inl trivial, m9⟩
    · exact SA2x m1 m2 e2 e1 (p := p) (by omega) (by rw [e3]; exact m8.2.2.1) (by rw [e3, m8.2.2.2]; omega) (by rw [e4]; exact z3) s5 (Sl_le (by decide) s6)
  · exact T2x ha k0 k4 k6 (fun _ => k5) s2 (Sl_le (by decide) s3)
  · exact T5x ha k0 k5 k6 s2 s3
theorem SNx (ha : pm i i') (hb : pm j j') (hN : SN X p P i i' j j') (hX : Bg P X) (hS : Sl 6 P X) : False := by
  obtain ⟨Y, s1, s2, s3⟩ := hS
  obtain ⟨W, q, d, d', e, e', m1, m2, m3, m4, m5, m6, m7, m8, m9, m10, m11, m12, m13, m14⟩ := N1 ha hb hN hX s1 s2
  obtain ⟨o0, o1, o2, o3, o4, o5, o6, o7⟩ := SN_x hN ha hb m1 m2
  have z4 := m4 0 e'
  rcases En_k (P := P) m14 m1 m8.1 m3.1 (by omega) m9.1 m9.2.1 (by omega) m9.2.2 with ⟨e1, e2⟩ | ⟨e0, i0, i0', e1, e2, e3, e4⟩
  · refine T2x m1 m2 (p1 := q) (p := p) (g := p) ?_ e2 (fun h => by omega) s2 (Sl_le (by decide) s3)
    unfold T2
    simp only [e1]
    exact ⟨by omega, m8.1, m8.2.1, m8.2.2.1, by rw [m8.2.2.2]; omega, by rw [m8.2.2.2]; omega, Or.inl trivial, m9⟩
  · exact SAx (by
      rcases e1 with ⟨rfl, rfl⟩ | ⟨rfl, rfl⟩
      · exact m1
      · exact pmx m1) m2 e2 s2 s3
/-- behind a pass with the least P, seven passes don't keep all above its half -/
theorem Pv_half {P : Int} (hP : Pv X Y) (hl : ∃ m c, X m c ≠ 0 ∧ X m c ≤ P ∧ -P ≤ X m c) (hY : Bg P Y) (hS : Sl 6 P Y) : False := by
  obtain ⟨m, m1, a, a', c, c1, b, b', p, s, q1, q2, k1, k2, W, ha, hb, hm, hc, hL, hV, hE⟩ := hP
  obtain ⟨v1, v2, v3, v4, v5, v6, v7, v8, v9, v10, v11, v12, v13, v14, v15⟩ := hV
  obtain ⟨x, y, g1, g2, g3⟩ := hl
  have hle := hL.2.1 x y
  have hp : p ≤ P := by omega
  rcases En_k (P := P) hE ha v3 hL.1 hp v12 v13 v14 v15 with ⟨e1, e2⟩ | ⟨e0, i0, i0', e1, e2, e3, e4⟩
  · exact SNx ha hb e2 hY hS
  · exact SAx (by
      rcases e1 with ⟨rfl, rfl⟩ | ⟨rfl, rfl⟩
      · exact ha
      · exact pmx ha) hb e2 hY (Sl_le (by decide) hS)
end PBP
