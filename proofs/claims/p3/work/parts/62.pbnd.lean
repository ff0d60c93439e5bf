section PBP
variable {X Y W : Nat → Nat → Int} {p p1 p2 P g : Int} {a a' b b' i i' j j' : Nat}
theorem Sl_le : ∀ {m n : Nat} {X : Nat → Nat → Int}, m ≤ n → Sl n P X → Sl m P X
  | 0, _, _, _, _ => trivial
  | m + 1, 0, _, h, _ => absurd h (by omega)
  | m + 1, n + 1, _, h, ⟨Y, h1, h2, h3⟩ => ⟨Y, h1, h2, Sl_le (by omega) h3⟩
theorem T5x (ha : pm i i') (hb : pm b b') (hT : T5 W p1 p P i i' b b') (hE : En W X i i' b b' p1 ∨ En W X i' i b b' p1) (hX : Bg P X) (hS : Sl 4 P X) : False := by
  obtain ⟨t1, t2, t3, t4, t5, t6, t7, t8, t9⟩ := hT
  have hC : ((∀ i j, X i j = W i j) ∧ SN X p1 P i i' b b') ∨ ∃ i0 i0', ((i0 = i ∧ i0' = i') ∨ (i0 = i' ∧ i0' = i)) ∧ SA X p1 P i0 i0' b b' ∧ (∀ j, X i j = W i j) ∧ ∀ j, X i' j = W i' j := by
    rcases hE with hE | hE
    · rcases En_k (P := P) hE ha t2 t1.1 (by omega) (by omega) t4 t5 (by omega) with h | ⟨_, h⟩
      · exact Or.inl h
      · exact Or.inr h
    · rcases En_k (P := P) hE (pmx ha) t2 t1.1 (by omega) (by omega) t4 (by omega) t5 with ⟨h1, h2⟩ | ⟨_, i0, i0', h1, h2, h3, h4⟩
      · exact Or.inl ⟨h1, SN_x h2 (pmx ha) hb ha hb⟩
      · exact Or.inr ⟨i0, i0', h1.symm, h2, h4, h3⟩
  rcases hC with ⟨e1, e2⟩ | ⟨i0, i0', hi, hA, f1, f2⟩
  · obtain ⟨Y, s1, s2, s3⟩ := hS
    obtain ⟨V, q, d, d', e, e', m1, m2, m3, m4, m5, m6, m7, m8, m9, m10, m11, m12, m13, m14⟩ := N1 ha hb e2 hX s1 s2
    obtain ⟨o0, o1, o2, o3, o4, o5, o6, o7⟩ := e2
    simp only [e1] at m5 m6 m7 m8 m10 m11 m12 m13 o7
    rcases pm2 hb m2 with ⟨rfl, rfl⟩ | ⟨rfl, rfl⟩
    · exfalso
      rcases pm2 ha m1 with ⟨rfl, rfl⟩ | ⟨rfl, rfl⟩ <;> omega
    · have n1 : W d e = -q := by
        rcases m6 with ⟨h1, h2⟩ | h
        · exfalso
          rcases pm2 ha m1 with ⟨rfl, rfl⟩ | ⟨rfl, rfl⟩ <;> omega
        · exact h
      have n2 : W d' e = -q := by rcases pm2 ha m1 with ⟨rfl, rfl⟩ | ⟨rfl, rfl⟩ <;> omega
      obtain ⟨u1, u2, u3⟩ := m12 n1 n2
      have n3 : W d' 0 - W d 0 = 0 := by rcases pm2 ha m1 with ⟨rfl, rfl⟩ | ⟨rfl, rfl⟩ <;> omega
      have n4 : W d' e' - W d e' = p ∨ W d' e' - W d e' = -p := by rcases pm2 ha m1 with ⟨rfl, rfl⟩ | ⟨rfl, rfl⟩ <;> omega
      exact T3x m1 m2 (p2 := q) (p1 := p1) (p := p) (P := P) (g := W d' e' - W d e') (W := V) ⟨by omega, m8.1, m8.2.1, m8.2.2.1, Or.inl (by rw [m8.2.2.2]; exact t3), u1, by rw [u2]; exact n3, u3, n4, m9.1, m9.2.1⟩ m14 s2 (Sl_le (by decide) s3)
  · have hpi : pm i0 i0' := by
      rcases hi with ⟨rfl, rfl⟩ | ⟨rfl, rfl⟩
      · exact ha
      · exact pmx ha
    rw [← f1] at t7
    rw [← f2] at t8
    rw [← f1, ← f2] at t9
    obtain ⟨Y, s1, s2, s3⟩ := hS
    have hA' := hA
    obtain ⟨n0, n1, n2, n3, n4, n5, n6, n7⟩ := hA'
    rcases A1 hpi hb hA hX s1 s2 with ⟨c, c', k0, k1, k2, k3, k4, k5, k6⟩ | ⟨q, c, c', k0, k1, k2, k3, k4, k5, k6⟩ | ⟨V, q, c, c', k0, k1, k2, k3, k4⟩
    · obtain ⟨Z, s3, s4, _⟩ := s3
      have k2' := k2
      obtain ⟨o0, o1, o2, o3, o4, o5, o6, o7⟩ := k2'
      obtain ⟨V, q, d, d', e, e', m1, m2, m3, m4, m5, m6, _⟩ := N1 hpi k0 k2 s2 s3 s4
      rcases pm2 hb k0 with ⟨rfl, rfl⟩ | ⟨rfl, rfl⟩ <;> rcases pm2 hb m2 with ⟨rfl, rfl⟩ | ⟨rfl, rfl⟩ <;> rcases pm2 hpi m1 with ⟨rfl, rfl⟩ | ⟨rfl, rfl⟩ <;> rcases hi with ⟨rfl, rfl⟩ | ⟨rfl, rfl⟩ <;> omega
    · exact T2x hpi k0 k4 k6 (fun _ => k5) s2 s3
    · have z1 := k3 b
      have z2 := k3 b'
      rcases pm2 hb k0 with ⟨rfl, rfl⟩ | ⟨rfl, rfl⟩ <;> rcases hi with ⟨rfl, rfl⟩ | ⟨rfl, rfl⟩ <;> omega
end PBP
