/-- the place of the least so far in the block from t, t on -/
def MIf (R C t : Nat) (F : Nat → Int64) (i j row col : Nat) : Prop := (t ≤ row ∧ row < R ∧ t ≤ col ∧ col < C) ∧ (∀ a b, t ≤ a → a < R → t ≤ b → b < C → (a < i ∨ a = i ∧ b < j) → ¬ F (a * 5 + b) = 0 → ¬ F (row * 5 + col) = 0 ∧ na (F (row * 5 + col)) ≤ na (F (a * 5 + b))) ∧ (row = t ∧ col = t ∨ ¬ F (row * 5 + col) = 0 ∧ (F (t * 5 + t) = 0 ∨ na (F (row * 5 + col)) < na (F (t * 5 + t))))
section MIS
variable {R C t i j row col N : Nat} {F F1 F2 F3 f : Nat → Int64} {G G1 : Int32}
theorem MI_0 (hR : t < R) (hC : t < C) : MIf R C t F t t t t := ⟨⟨Nat.le_refl _, hR, Nat.le_refl _, hC⟩, fun a b h1 _ h3 _ h5 => by omega, Or.inl ⟨rfl, rfl⟩⟩
theorem MI_k (h : MIf R C t F i j row col) (d : F (i * 5 + j) = 0 ∨ ¬ F (row * 5 + col) = 0 ∧ na (F (row * 5 + col)) ≤ na (F (i * 5 + j))) : MIf R C t F i (j + 1) row col := by
  refine ⟨h.1, fun a b h1 h2 h3 h4 h5 hn => ?_, h.2.2⟩
  by_cases e : a = i ∧ b = j
  · obtain ⟨rfl, rfl⟩ := e
    exact d.resolve_left hn
  · exact h.2.1 a b h1 h2 h3 h4 (by omega) hn
theorem MI_n (h : MIf R C t F i j row col) (ht : t ≤ i ∧ i < R ∧ t ≤ j ∧ j < C) (d : ¬ F (i * 5 + j) = 0) (d2 : F (row * 5 + col) = 0 ∨ na (F (i * 5 + j)) < na (F (row * 5 + col))) : MIf R C t F i (j + 1) i j := by
  refine ⟨ht, fun a b h1 h2 h3 h4 h5 hn => ⟨d, ?_⟩, Or.inr ⟨d, ?_⟩⟩
  · by_cases e : a = i ∧ b = j
    · obtain ⟨rfl, rfl⟩ := e
      exact Nat.le_refl _
    · have h6 := h.2.1 a b h1 h2 h3 h4 (by omega) hn
      exact Nat.le_trans (Nat.le_of_lt (d2.resolve_left h6.1)) h6.2
  · rcases h.2.2 with ⟨rfl, rfl⟩ | ⟨h7, h8⟩
    · exact d2
    · rcases h8 with h8 | h8
      · exact Or.inl h8
      · exact Or.inr (Nat.lt_trans (d2.resolve_left h7) h8)
theorem MI_r (h : MIf R C t F i j row col) (hj : j = C) : MIf R C t F (i + 1) t row col :=
  ⟨h.1, fun a b h1 h2 h3 h4 h5 hn => h.2.1 a b h1 h2 h3 h4 (by omega) hn, h.2.2⟩
def PHf (R C t N : Nat) (F : Nat → Int64) : Prop := (∃ i j, t ≤ i ∧ i < R ∧ t ≤ j ∧ j < C ∧ ¬ F (i * 5 + j) = 0 ∧ 2 * na (F (i * 5 + j)) ≤ N) ∨ (0 < (F (t * 5 + t)).toInt ∧ 2 * na (F (t * 5 + t)) ≤ N + 1 ∧ ∃ j, t < j ∧ j < C ∧ ¬ F (t * 5 + j) - F (t * 5 + j) / F (t * 5 + t) * F (t * 5 + t) = 0) ∨ ∀ i j, t ≤ i → i < R → t ≤ j → j < C → F (i * 5 + j) = 0
theorem PH_ex (R C t : Nat) (F : Nat → Int64) (hC : C ≤ 5) (hng : ∀ k, k < R * 5 → ng (F k)) : ∃ N, N ≤ 2000000000 ∧ PHf R C t N F := by
  by_cases h : ∃ i j, t ≤ i ∧ i < R ∧ t ≤ j ∧ j < C ∧ ¬ F (i * 5 + j) = 0
  · obtain ⟨i, j, h1, h2, h3, h4, h5⟩ := h
    have h6 := ng_int (hng (i * 5 + j) (by omega))
    exact ⟨2 * na (F (i * 5 + j)), by unfold na; omega, Or.inl ⟨i, j, h1, h2, h3, h4, h5, Nat.le_refl _⟩⟩
  · exact ⟨0, Nat.zero_le _, Or.inr (Or.inr fun i j h1 h2 h3 h4 => Classical.byContradiction fun h5 => h ⟨i, j, h1, h2, h3, h4, h5⟩)⟩
def HSf (R C t : Nat) (f : Nat → Int64) (N : Nat) (F : Nat → Int64) (G : Int32) : Prop := (G = 0 ∨ G = 1) ∧ (G = 0 → ∀ k, k < R * 5 → ng (F k)) ∧ (∀ k, k < t → F (k * 5 + k) = f (k * 5 + k)) ∧ (G = 0 → PHf R C t N F)
def QHf (C t N : Nat) (F : Nat → Int64) : Prop := 0 < (F (t * 5 + t)).toInt ∧ (2 * na (F (t * 5 + t)) ≤ N ∨ 2 * na (F (t * 5 + t)) ≤ N + 1 ∧ ∃ j, t < j ∧ j < C ∧ ¬ F (t * 5 + j) - F (t * 5 + j) / F (t * 5 + t) * F (t * 5 + t) = 0)
theorem QH_of (hP : PHf R C t N F) (hM : MIf R C t F R t row col) (hn : ¬ F (row * 5 + col) = 0) (hB : BRf R t row col F F1) : QHf C t N F1 := by
  obtain ⟨b1, b2, b3, b4, b5⟩ := hB
  refine ⟨b2, ?_⟩
  rw [b3]
  rcases hP with ⟨i, j, h1, h2, h3, h4, h5, h6⟩ | ⟨h1, h2, j, h3, h4, h5⟩ | h
  · have h7 := (hM.2.1 i j h1 h2 h3 h4 (Or.inl h2) h5).2
    exact Or.inl (by omega)
  · rcases hM.2.2 with ⟨rfl, rfl⟩ | ⟨h7, h8⟩
    · have e := b5 rfl rfl h1
      subst e
      exact Or.inr ⟨h2, j, h3, h4, h5⟩
    · have h9 : ¬ F (t * 5 + t) = 0 := fun e => by rw [e] at h1; exact absurd h1 (by decide)
      have := h8.resolve_left h9
      exact Or.inl (by omega)
  · exact absurd (h row col hM.1.1 hM.1.2.1 hM.1.2.2.1 hM.1.2.2.2) hn
theorem QH_1 (h : QHf C t N F) : 1 ≤ N := by
  obtain ⟨h1, h2⟩ := h
  have h3 : 1 ≤ na (F (t * 5 + t)) := by unfold na; omega
  rcases h2 with h2 | h2 <;> omega
/-- not alone: a smaller one is there -/
theorem HS_1 (hS : HSf R C t f N F G) (hB : BRf R t row col F F1) (hQ : QHf C t N F1) (hT : TKf R C t F1 F2 G1) (hg : G1 = 0) (h : ∃ i j, t ≤ i ∧ i < R ∧ t ≤ j ∧ j < C ∧ (i = t ∧ t < j ∨ t < i ∧ j = t) ∧ ¬ F2 (i * 5 + j) = 0) : HSf R C t f (N - 1) F2 G1 := by
  obtain ⟨t1, t2, t3, t4⟩ := hT
  obtain ⟨u1, u2, u3⟩ := t4 hg
  refine ⟨t1, fun _ => u1, fun k hk => by rw [t3 k hk, hB.2.2.2.1 k hk, hS.2.2.1 k hk], fun _ => ?_⟩
  obtain ⟨i, j, h1, h2, h3, h4, h5, h6⟩ := h
  refine Or.inl ⟨i, j, h1, h2, h3, h4, h6, ?_⟩
  have hlt : 0 ≤ (F2 (i * 5 + j)).toInt ∧ (F2 (i * 5 + j)).toInt < (F1 (t * 5 + t)).toInt := by
    rcases h5 with ⟨rfl, h5⟩ | ⟨h5, rfl⟩
    · rw [u3 j h5 h4]
      exact rmf_int hQ.1
    · exact u2 i h5 h2
  obtain ⟨q1, q2⟩ := hQ
  unfold na at q2 ⊢
  rcases q2 with q2 | ⟨q2, _⟩ <;> omega
theorem HS_2 {di dj : Nat} {G0 : Int32} (hC5 : C ≤ 5) (htR : t < R) (hS : HSf R C t f N F G0) (hB : BRf R t row col F F1) (hQ : QHf C t N F1) (hT : TKf R C t F1 F2 G) (hg : G = 0) (hal1 : ∀ i, t < i → i < R → F2 (i * 5 + t) = 0) (hal2 : ∀ j, t < j → j < C → F2 (t * 5 + j) = 0)
    (hb : G1 = 0 ∨ G1 = 1) (hn : G1 = 0 → G = 0 ∧ ∀ k, k < R * 5 → ng (F3 k)) (d1 : t < di) (d2 : di < R) (d3 : t < dj) (d4 : dj < C) (d5 : ¬ F2 (di * 5 + dj) - F2 (di * 5 + dj) / F2 (t * 5 + t) * F2 (t * 5 + t) = 0) (d6 : F3 = ar C t di 1 F2) : HSf R C t f (N - 1) F3 G1 := by
  obtain ⟨t1, t2, t3, t4⟩ := hT
  obtain ⟨u1, u2, u3⟩ := t4 hg
  have hN := QH_1 hQ
  have e1 : F3 (t * 5 + t) = F2 (t * 5 + t) := by
    rw [d6]
    unfold ar
    rw [if_pos (by omega), show (t * 5 + t) % 5 = t by omega, hal1 di d1 d2]
    simp
  have e2 : F3 (t * 5 + dj) = F2 (di * 5 + dj) := by
    rw [d6]
    unfold ar
    rw [if_pos (by omega), show (t * 5 + dj) % 5 = dj by omega, hal2 dj d3 d4]
    simp
  refine ⟨hb, fun z => (hn z).2, fun k hk => ?_, fun _ => Or.inr (Or.inl ⟨?_, ?_, dj, d3, d4, ?_⟩)⟩
  · rw [← hS.2.2.1 k hk, ← hB.2.2.2.1 k hk, ← t3 k hk, d6]
    unfold ar
    rw [if_neg (by omega)]
  · rw [e1, t2]
    exact hQ.1
  · rw [e1, t2]
    rcases hQ.2 with q | ⟨_, j, q1, q2, q3⟩
    · omega
    · have q4 := u3 j q1 q2
      rw [hal2 j q1 q2] at q4
      exact absurd q4.symm (rmf_ne hQ.1 q3)
  · rw [e1, e2]
    exact d5
/-- what isCleared says -/
def CSf (R t : Nat) (f F : Nat → Int64) (G x : Int32) : Prop := (∀ k, k < t → F (k * 5 + k) = f (k * 5 + k)) ∧ (x = 1 → ¬ F (t * 5 + t) = 0 ∧ G = 0 ∧ ∀ k, k < R * 5 → ng (F k)) ∧ (G = 0 ∨ G = 1)
theorem CS_0 (hS : HSf R C t f N F G) : CSf R t f F G 0 := ⟨hS.2.2.1, fun z => absurd z (by decide), hS.1⟩
theorem CS_g (hS : HSf R C t f N F G) (hB : BRf R t row col F F1) (hT : TKf R C t F1 F2 G1) : CSf R t f F2 G1 0 := ⟨fun k hk => by rw [hT.2.2.1 k hk, hB.2.2.2.1 k hk, hS.2.2.1 k hk], fun z => absurd z (by decide), hT.1⟩
theorem CS_1 {G0 : Int32} (hS : HSf R C t f N F G0) (hB : BRf R t row col F F1) (hT : TKf R C t F1 F2 G) (hg : G = 0) (e : F3 = F2) (eg : G1 = G) : CSf R t f F3 G1 1 := by
  subst e; subst eg
  refine ⟨fun k hk => by rw [hT.2.2.1 k hk, hB.2.2.2.1 k hk, hS.2.2.1 k hk], fun _ => ⟨?_, hg, (hT.2.2.2 hg).1⟩, hT.1⟩
  rw [hT.2.1]
  intro e
  have := hB.2.1
  rw [e] at this
  exact absurd this (by decide)
/-- the constructor's loop -/
def RIf (R C t : Nat) (M i3 : Int32) (F : Nat → Int64) (G : Int32) : Prop := (¬ M = 0 → i3 = nI t ∧ G = 0 ∧ ∀ k, k < R * 5 → ng (F k)) ∧ ∃ k, i3 = nI k ∧ k ≤ R ∧ k ≤ C ∧ ∀ j, j < k → ¬ F (j * 5 + j) = 0
theorem RI_0 (h : ∀ k, k < R * 5 → ng (F k)) (hg : G = 0) {M : Int32} : RIf R C 0 M 0 F G := ⟨fun _ => ⟨rfl, hg, h⟩, 0, rfl, Nat.zero_le _, Nat.zero_le _, fun j hj => absurd hj (Nat.not_lt_zero j)⟩
theorem RI_1 {M i3 : Int32} (h : RIf R C t M i3 F G) (hR4 : R ≤ 4) (hM : ¬ M = 0) (hR : t < R) (hC : t < C) (hc : CSf R t F F1 G1 1) : RIf R C (t + 1) 1 (i3 + 1) F1 G1 := by
  obtain ⟨⟨a1, a2, a3⟩, k, b1, b2, b3, b4⟩ := And.intro (h.1 hM) h.2
  obtain ⟨c1, c2, c3⟩ := hc.2.1 rfl
  have ek : k = t := (nI_eq (by omega) (by omega)).mp (b1.symm.trans a1)
  subst ek
  refine ⟨fun _ => ⟨by rw [a1]; exact nI_1 k, c2, c3⟩, k + 1, by rw [a1]; exact nI_1 k, hR, hC, fun j hj => ?_⟩
  by_cases e : j = k
  · rw [e]; exact c1
  · rw [hc.1 j (by omega)]; exact b4 j (by omega)
theorem RI_2 {M i3 : Int32} (h : RIf R C t M i3 F G) (hR4 : R ≤ 4) (hM : ¬ M = 0) (hR : t < R) (hC : t < C) (hc : CSf R t F F1 G1 0) : RIf R C (t + 1) 0 (i3 + 0) F1 G1 := by
  obtain ⟨⟨a1, a2, a3⟩, k, b1, b2, b3, b4⟩ := And.intro (h.1 hM) h.2
  have ek : k = t := (nI_eq (by omega) (by omega)).mp (b1.symm.trans a1)
  subst ek
  refine ⟨fun z => absurd rfl z, k, by rw [a1]; exact Int32.add_zero _, by omega, by omega, fun j hj => ?_⟩
  rw [hc.1 j hj]; exact b4 j hj
end MIS

noncomputable def D_X9_isCleared_29 (R : Nat) (C : Nat) (i3 : Int32) (f1_0 : Nat → Int64) (f2_0 : Nat → Int64) (f3_0 : Nat → Int64) (i1_0 : Int32) (i2_0 : Int32) (i4_0 : Int32) (lb14 : Nat → Nat → Nat → Int32 × (Nat → Int64) × (Nat → Int64) × (Nat → Int64) × Int32 × Int32 × Int32) (y4_14 : Nat) (nn : Nat) : Nat → Nat → Nat → Int32 × (Nat → Int64) × (Nat → Int64) × (Nat → Int64) × Int32 × Int32 × Int32 := @Nat.rec (fun _ => Nat → Nat → Nat → Int32 × (Nat → Int64) × (Nat → Int64) × (Nat → Int64) × Int32 × Int32 × Int32) (fun _ _ _ => default) (fun _ lb29 (y5_29 : Nat) (y3_29 : Nat) (y2_29 : Nat) => (if C ≤ y5_29 then (lb14 (y4_14 + 1) y3_29 y2_29) else bnd1 (D_X9_isLess R C f1_0 f2_0 f3_0 i1_0 i2_0 i3 i4_0 (f3_0 (y4_14 * 5 + y5_29)) (f3_0 (y2_29 * 5 + y3_29))) (fun (x827 : Int32) => (if x827 = 0 then (lb29 (y5_29 + 1) y3_29 y2_29) else (lb29 (y5_29 + 1) y5_29 y4_14))))) nn
theorem D_X9_isCleared_29_s {R : Nat} {C : Nat} {i3 : Int32} {f1_0 : Nat → Int64} {f2_0 : Nat → Int64} {f3_0 : Nat → Int64} {i1_0 : Int32} {i2_0 : Int32} {i4_0 : Int32} {lb14 : Nat → Nat → Nat → Int32 × (Nat → Int64) × (Nat → Int64) × (Nat → Int64) × Int32 × Int32 × Int32} {y4_14 : Nat} {nn : Nat} {y5_29 : Nat} {y3_29 : Nat} {y2_29 : Nat} : D_X9_isCleared_29 R C i3 f1_0 f2_0 f3_0 i1_0 i2_0 i4_0 lb14 y4_14 (nn + 1) y5_29 y3_29 y2_29 = (if C ≤ y5_29 then (lb14 (y4_14 + 1) y3_29 y2_29) else bnd1 (D_X9_isLess R C f1_0 f2_0 f3_0 i1_0 i2_0 i3 i4_0 (f3_0 (y4_14 * 5 + y5_29)) (f3_0 (y2_29 * 5 + y3_29))) (fun (x827 : Int32) => (if x827 = 0 then ((D_X9_isCleared_29 R C i3 f1_0 f2_0 f3_0 i1_0 i2_0 i4_0 lb14 y4_14 nn) (y5_29 + 1) y3_29 y2_29) else ((D_X9_isCleared_29 R C i3 f1_0 f2_0 f3_0 i1_0 i2_0 i4_0 lb14 y4_14 nn) (y5_29 + 1) y5_29 y4_14)))) := rfl
noncomputable def D_X9_isCleared_14 (R : Nat) (C : Nat) (i3 : Int32) (t : Nat) (lb0 : (Nat → Int64) → (Nat → Int64) → (Nat → Int64) → Int32 → Int32 → Int32 → Int32 × (Nat → Int64) × (Nat → Int64) × (Nat → Int64) × Int32 × Int32 × Int32) (f1_0 : Nat → Int64) (f2_0 : Nat → Int64) (f3_0 : Nat → Int64) (i1_0 : Int32) (i2_0 : Int32) (i4_0 : Int32) (nn : Nat) : Nat → Nat → Nat → Int32 × (Nat → Int64) × (Nat → Int64) × (Nat → Int64) × Int32 × Int32 × Int32 := @Nat.rec (fun _ => Nat → Nat → Nat → Int32 × (Nat → Int64) × (Nat → Int64) × (Nat → Int64) × Int32 × Int32 × Int32) (fun _ _ _ => default) (fun _ lb14 (y4_14 : Nat) (y3_14 : Nat) (y2_14 : Nat) => (if R ≤ y4_14 then (if (lg_cmp (f3_0 (y2_14 * 5 + y3_14)) 0) = 0 then (0, f1_0, f2_0, f3_0, i1_0, i2_0, i4_0) else bnd5 (D_X9_bring R C f1_0 f2_0 f3_0 i1_0 i2_0 i3 i4_0 t y2_14 y3_14) (fun (F787 : Nat → Int64) (F788 : Nat → Int64) (F789 : Nat → Int64) (S790 : Int32) (S791 : Int32) => bnd4 (D_X9_takeOff R C F787 F788 F789 S790 S791 i3 i4_0 t) (fun (F794 : Nat → Int64) (F795 : Nat → Int64) (F796 : Nat → Int64) (G797 : Int32) => (if G797 = 0 then bnd1 (D_X9_isAlone R C F794 F795 F796 S790 S791 i3 G797 t) (fun (x801 : Int32) => (if x801 = 0 then (lb0 F794 F795 F796 S790 S791 G797) else bnd4 (D_X9_isDividing R C F794 F795 F796 S790 S791 i3 G797 t) (fun (x806 : Int32) (F807 : Nat → Int64) (F808 : Nat → Int64) (G809 : Int32) => (if x806 = 1 then (1, F794, F807, F808, S790, S791, G809) else (lb0 F794 F807 F808 S790 S791 G809))))) else (0, F794, F795, F796, S790, S791, G797))))) else (D_X9_isCleared_29 R C i3 f1_0 f2_0 f3_0 i1_0 i2_0 i4_0 lb14 y4_14 (C + 1 - t + 1) t y3_14 y2_14))) nn
theorem D_X9_isCleared_14_s {R : Nat} {C : Nat} {i3 : Int32} {t : Nat} {lb0 : (Nat → Int64) → (Nat → Int64) → (Nat → Int64) → Int32 → Int32 → Int32 → Int32 × (Nat → Int64) × (Nat → Int64) × (Nat → Int64) × Int32 × Int32 × Int32} {f1_0 : Nat → Int64} {f2_0 : Nat → Int64} {f3_0 : Nat → Int64} {i1_0 : Int32} {i2_0 : Int32} {i4_0 : Int32} {nn : Nat} {y4_14 : Nat} {y3_14 : Nat} {y2_14 : Nat} : D_X9_isCleared_14 R C i3 t lb0 f1_0 f2_0 f3_0 i1_0 i2_0 i4_0 (nn + 1) y4_14 y3_14 y2_14 = (if R ≤ y4_14 then (if (lg_cmp (f3_0 (y2_14 * 5 + y3_14)) 0) = 0 then (0, f1_0, f2_0, f3_0, i1_0, i2_0, i4_0) else bnd5 (D_X9_bring R C f1_0 f2_0 f3_0 i1_0 i2_0 i3 i4_0 t y2_14 y3_14) (fun (F787 : Nat → Int64) (F788 : Nat → Int64) (F789 : Nat → Int64) (S790 : Int32) (S791 : Int32) => bnd4 (D_X9_takeOff R C F787 F788 F789 S790 S791 i3 i4_0 t) (fun (F794 : Nat → Int64) (F795 : Nat → Int64) (F796 : Nat → Int64) (G797 : Int32) => (if G797 = 0 then bnd1 (D_X9_isAlone R C F794 F795 F796 S790 S791 i3 G797 t) (fun (x801 : Int32) => (if x801 = 0 then (lb0 F794 F795 F796 S790 S791 G797) else bnd4 (D_X9_isDividing R C F794 F795 F796 S790 S791 i3 G797 t) (fun (x806 : Int32) (F807 : Nat → Int64) (F808 : Nat → Int64) (G809 : Int32) => (if x806 = 1 then (1, F794, F807, F808, S790, S791, G809) else (lb0 F794 F807 F808 S790 S791 G809))))) else (0, F794, F795, F796, S790, S791, G797))))) else (D_X9_isCleared_29 R C i3 f1_0 f2_0 f3_0 i1_0 i2_0 i4_0 (D_X9_isCleared_14 R C i3 t lb0 f1_0 f2_0 f3_0 i1_0 i2_0 i4_0 nn) y4_14 (C + 1 - t + 1) t y3_14 y2_14)) := rfl
noncomputable def D_X9_isCleared_0 (R : Nat) (C : Nat) (i3 : Int32) (t : Nat) (nn : Nat) : (Nat → Int64) → (Nat → Int64) → (Nat → Int64) → Int32 → Int32 → Int32 → Int32 × (Nat → Int64) × (Nat → Int64) × (Nat → Int64) × Int32 × Int32 × Int32 := @Nat.rec (fun _ => (Nat → Int64) → (Nat → Int64) → (Nat → Int64) → Int32 → Int32 → Int32 → Int32 × (Nat → Int64) × (Nat → Int64) × (Nat → Int64) × Int32 × Int32 × Int32) (fun _ _ _ _ _ _ => default) (fun _ lb0 (f1_0 : Nat → Int64) (f2_0 : Nat → Int64) (f3_0 : Nat → Int64) (i1_0 : Int32) (i2_0 : Int32) (i4_0 : Int32) => (if i4_0 = 0 then (D_X9_isCleared_14 R C i3 t lb0 f1_0 f2_0 f3_0 i1_0 i2_0 i4_0 (R + 1 - t + 1) t t t) else (0, f1_0, f2_0, f3_0, i1_0, i2_0, i4_0))) nn
theorem D_X9_isCleared_0_s {R : Nat} {C : Nat} {i3 : Int32} {t : Nat} {nn : Nat} {f1_0 : Nat → Int64} {f2_0 : Nat → Int64} {f3_0 : Nat → Int64} {i1_0 : Int32} {i2_0 : Int32} {i4_0 : Int32} : D_X9_isCleared_0 R C i3 t (nn + 1) f1_0 f2_0 f3_0 i1_0 i2_0 i4_0 = (if i4_0 = 0 then (D_X9_isCleared_14 R C i3 t (D_X9_isCleared_0 R C i3 t nn) f1_0 f2_0 f3_0 i1_0 i2_0 i4_0 (R + 1 - t + 1) t t t) else (0, f1_0, f2_0, f3_0, i1_0, i2_0, i4_0)) := rfl
noncomputable def D_X9_isCleared (R : Nat) (C : Nat) (f1 : Nat → Int64) (f2 : Nat → Int64) (f3 : Nat → Int64) (i1 : Int32) (i2 : Int32) (i3 : Int32) (i4 : Int32) (t : Nat) : Int32 × (Nat → Int64) × (Nat → Int64) × (Nat → Int64) × Int32 × Int32 × Int32 := (D_X9_isCleared_0 R C i3 t (2000000000 + 1) f1 f2 f3 i1 i2 i4)
theorem D_X9_isCleared_s {R : Nat} {C : Nat} {f1 : Nat → Int64} {f2 : Nat → Int64} {f3 : Nat → Int64} {i1 : Int32} {i2 : Int32} {i3 : Int32} {i4 : Int32} {t : Nat} : D_X9_isCleared R C f1 f2 f3 i1 i2 i3 i4 t = (D_X9_isCleared_0 R C i3 t (2000000000 + 1) f1 f2 f3 i1 i2 i4) := rfl
set_option maxHeartbeats 4000000 in
set_option maxRecDepth 100000 in
theorem k_X9_isCleared (κ : Kt) (l : Launch) (w : va_W) (s_0 g_r b_r g_l b_l g_w b_w R C : Nat) (f1 f2 f3 : Nat → Int64) (i1 i2 i3 i4 : Int32) (xt : Int32) (t : Nat) (hs : shp R C) (hC4 : C ≤ 4) (hxt : xt = nI t) (ht : t < R ∧ t < C) (hng : ∀ k, k < R * 5 → ng (f3 k)) (hg0 : i4 = 0) (o_x : Int32) (o_F1 : Nat → Int64) (o_F2 : Nat → Int64) (o_F3 : Nat → Int64) (o_S1 : Int32) (o_S2 : Int32) (o_G1 : Int32) (hR : D_X9_isCleared R C f1 f2 f3 i1 i2 i3 i4 t = (o_x, o_F1, o_F2, o_F3, o_S1, o_S2, o_G1)) : CM κ l yX9_isCleared cX9_isCleared 6 (some .boolean) 3 73 0 0 [.ref s_0, .int xt] (lA κ b_r (C * 5) f1 :: gO g_r C C b_r :: lA κ b_l (R * 5) f2 :: gO g_l R R b_l :: lA κ b_w (R * 5) f3 :: gO g_w R C b_w :: (s_0, .inr (10, [.ref g_w, .ref g_l, .ref g_r, .int i1, .int i2, .int i3, .int i4])) :: w) (fun o w' => o = some (.int o_x) ∧ (o_x = 0 ∨ o_x = 1) ∧ (CSf R t f3 o_F3 o_G1 o_x) ∧ w' = lA κ b_r (C * 5) o_F1 :: gO g_r C C b_r :: lA κ b_l (R * 5) o_F2 :: gO g_l R R b_l :: lA κ b_w (R * 5) o_F3 :: gO g_w R C b_w :: (s_0, .inr (10, [.ref g_w, .ref g_l, .ref g_r, .int o_S1, .int o_S2, .int i3, .int o_G1])) :: w) := by
  have hs0 := hs
  obtain ⟨hs1, hs2, hs3, hs4⟩ := hs0
  subst hxt
  refine CM_begin (plainFor_of_name (by decide)) (Nat.le_of_ble_eq_true rfl) ?_
  intro p e s m args below meth c A Q hX hnm hA3 hQ hB ls hl
  have hx := hX.1.1
  have hb := hX.1.2.1
  have hl : lv_has ls 6 [(0, .ref s_0), (1, .int (nI t))] := hl
  obtain ⟨ht1, ht2⟩ := ht
  obtain ⟨N0, hNb, hN0⟩ := PH_ex R C t f3 hs4 hng
  replace hR := (D_X9_isCleared_s).symm.trans hR
  have lp0 : ∀ (nn0 : Nat) (f1_0 : Nat → Int64) (f2_0 : Nat → Int64) (f3_0 : Nat → Int64) (i1_0 : Int32) (i2_0 : Int32) (i4_0 : Int32) (N_0 : Nat) (H : Heap) (locs : List Loc), (HSf R C t f3 N_0 f3_0 i4_0) → N_0 < nn0 → D_X9_isCleared_0 R C i3 t nn0 f1_0 f2_0 f3_0 i1_0 i2_0 i4_0 = (o_x, o_F1, o_F2, o_F3, o_S1, o_S2, o_G1) → Bd κ A s (lA κ b_r (C * 5) f1_0 :: gO g_r C C b_r :: lA κ b_l (R * 5) f2_0 :: gO g_l R R b_l :: lA κ b_w (R * 5) f3_0 :: gO g_w R C b_w :: (s_0, .inr (10, [.ref g_w, .ref g_l, .ref g_r, .int i1_0, .int i2_0, .int i3, .int i4_0])) :: w) H locs → ∀ ls : Array Slot, lv_has ls 6 [(0, .ref s_0), (1, .int (nI t))] → W p l e (Rm 3 73 0 0) s m args below meth c H locs (0) (0) Q (F0 m 0 ls []) := by
    intro nn0
    induction nn0 with
    | zero => intro f1_0 f2_0 f3_0 i1_0 i2_0 i4_0 N_0 H locs hS hμ; exact absurd hμ (Nat.not_lt_zero _)
    | succ nn0 ih0 =>
      intro f1_0 f2_0 f3_0 i1_0 i2_0 i4_0 N_0 H locs hS hμ0 hR hB ls hl
      replace hR := (D_X9_isCleared_0_s).symm.trans hR
      refine lv_aload_n hx hb dX9_isCleared_0 rfl (lv_at hl 0 rfl) ?_
      refine gf (k0 := 6) hX hB rfl rfl in9 6 (by decide) wm_6_233 rfl rfl dX9_isCleared_1 ?_
      refine lv_if_ne (tgt := 144) hx hb dX9_isCleared_4 (by decide) (fun c555 => ?_) (fun c555 => ?_)
      · replace hR := ifn c555 hR
        refine lv_iconst (v := 0) hx hb dX9_isCleared_144 (by decide) ?_
        rw [← hQ]
        exact end_i hX hB hA3 rfl rfl (by obtain ⟨rfl, rfl, rfl, rfl, rfl, rfl, rfl⟩ := pr7 hR; exact ⟨rfl, Or.inl rfl, CS_0 hS, rfl⟩) (Nat.le_of_ble_eq_true rfl) (Nat.le_of_ble_eq_true rfl) dX9_isCleared_145
      · replace hR := ifp c555 hR
        have hG := c555
        refine lv_iload_n hx hb dX9_isCleared_7 rfl (lv_at hl 1 rfl) ?_
        refine lv_istore_n (lv' := [(2, .int (nI t)), (0, .ref s_0), (1, .int (nI t))]) hx hb dX9_isCleared_8 rfl hl (by decide) rfl (fun ls hl => ?_)
        refine lv_iload_n hx hb dX9_isCleared_9 rfl (lv_at hl 2 rfl) ?_
        refine lv_istore_n (lv' := [(3, .int (nI t)), (2, .int (nI t)), (0, .ref s_0), (1, .int (nI t))]) hx hb dX9_isCleared_10 rfl hl (by decide) rfl (fun ls hl => ?_)
        refine lv_iload_n hx hb dX9_isCleared_11 rfl (lv_at hl 3 rfl) ?_
        refine lv_istore (lv' := [(4, .int (nI t)), (3, .int (nI t)), (2, .int (nI t)), (0, .ref s_0), (1, .int (nI t))]) hx hb dX9_isCleared_12 hl (by decide) rfl (fun ls hl => ?_)
        have lp14 : ∀ (nn14 : Nat) (y4_14 : Nat) (y3_14 : Nat) (y2_14 : Nat) (H : Heap) (locs : List Loc), (y4_14 ≤ R) → (t ≤ y4_14) → (MIf R C t f3_0 y4_14 t y2_14 y3_14) → R + 1 - y4_14 < nn14 → D_X9_isCleared_14 R C i3 t (D_X9_isCleared_0 R C i3 t nn0) f1_0 f2_0 f3_0 i1_0 i2_0 i4_0 nn14 y4_14 y3_14 y2_14 = (o_x, o_F1, o_F2, o_F3, o_S1, o_S2, o_G1) → Bd κ A s (lA κ b_r (C * 5) f1_0 :: gO g_r C C b_r :: lA κ b_l (R * 5) f2_0 :: gO g_l R R b_l :: lA κ b_w (R * 5) f3_0 :: gO g_w R C b_w :: (s_0, .inr (10, [.ref g_w, .ref g_l, .ref g_r, .int i1_0, .int i2_0, .int i3, .int i4_0])) :: w) H locs → ∀ ls : Array Slot, lv_has ls 6 [(4, .int (nI y4_14)), (3, .int (nI y3_14)), (2, .int (nI y2_14)), (0, .ref s_0), (1, .int (nI t))] → W p l e (Rm 3 73 0 0) s m args below meth c H locs (0) (0) Q (F0 m 14 ls []) := by
          intro nn14
          induction nn14 with
          | zero => intro y4_14 y3_14 y2_14 H locs hn4_14 hI14 hM14 hμ; exact absurd hμ (Nat.not_lt_zero _)
          | succ nn14 ih14 =>
            intro y4_14 y3_14 y2_14 H locs hn4_14 hI14 hM14 hμ14 hR hB ls hl
            replace hR := (D_X9_isCleared_14_s).symm.trans hR
            have hq14 := hM14.1
            refine lv_iload hx hb dX9_isCleared_14 (lv_at hl 0 rfl) ?_
            refine lv_aload_n hx hb dX9_isCleared_16 rfl (lv_at hl 3 rfl) ?_
            refine gf (k0 := 6) hX hB rfl rfl in9 0 (by decide) wm_6_221 rfl rfl dX9_isCleared_17 ?_
            refine gf (k0 := 5) hX hB rfl rfl in7 0 (by decide) wm_5_147 rfl rfl dX9_isCleared_20 ?_
            refine lv_icmp_ge (tgt := 86) hx hb dX9_isCleared_23 (by decide) (fun c785 => ?_) (fun c785 => ?_)
            · rw [nleP (a := R) (b := y4_14) (by omega) (by omega)] at c785
              replace hR := ifp c785 hR
              refine lv_aload_n hx hb dX9_isCleared_86 rfl (lv_at hl 3 rfl) ?_
              refine gf (k0 := 6) hX hB rfl rfl in9 0 (by decide) wm_6_221 rfl rfl dX9_isCleared_87 ?_
              refine lv_iload_n hx hb dX9_isCleared_90 rfl (lv_at hl 2 rfl) ?_
              refine lv_iload_n hx hb dX9_isCleared_91 rfl (lv_at hl 1 rfl) ?_
              refine call_V (n := 2) (k0 := 5) (As := [.int (nI y2_14), .int (nI y3_14)]) (rest := []) hX hB (k_X7_at κ l (lA κ b_r (C * 5) f1_0 :: gO g_r C C b_r :: lA κ b_l (R * 5) f2_0 :: gO g_l R R b_l :: lA κ b_w (R * 5) f3_0 :: gO g_w R C b_w :: (s_0, .inr (10, [.ref g_w, .ref g_l, .ref g_r, .int i1_0, .int i2_0, .int i3, .int i4_0])) :: w) 5 4 g_w b_w R C f3_0 (nI y2_14) y2_14 (nI y3_14) y3_14 rfl rfl hs rfl rfl (by omega)) ⟨rfl, by decide, by decide, by decide +kernel⟩ wm_6_188 wm_5_238 wm_5_239 wm_1_7 wm_6_0 ⟨Nat.le_of_ble_eq_true rfl, Nat.le_of_ble_eq_true rfl⟩ ⟨Nat.le_of_ble_eq_true rfl, Nat.le_of_ble_eq_true rfl⟩ rfl rfl rfl rfl hl.1 rfl (Nat.le_of_ble_eq_true rfl) dX9_isCleared_92 (fun o w' H locs hp hB => ?_)
              obtain ⟨rfl, hw9⟩ := hp
              replace hB : Bd κ A s (lA κ b_r (C * 5) f1_0 :: gO g_r C C b_r :: lA κ b_l (R * 5) f2_0 :: gO g_l R R b_l :: lA κ b_w (R * 5) f3_0 :: gO g_w R C b_w :: (s_0, .inr (10, [.ref g_w, .ref g_l, .ref g_r, .int i1_0, .int i2_0, .int i3, .int i4_0])) :: w) H locs := by rw [hw9] at hB; exact hB
              refine W.eq (g2 := F0 m 95 ls [.long (f3_0 (y2_14 * 5 + y3_14))]) rfl ?_
              refine lv_lconst (v := 0) hx hb dX9_isCleared_95 (by decide) ?_
              refine W.lcmp hx hb dX9_isCleared_96 ?_
              refine lv_if_ne (tgt := 102) hx hb dX9_isCleared_97 (by decide) (fun c786 => ?_) (fun c786 => ?_)
              · replace hR := ifn c786 hR
                refine lv_aload_n hx hb dX9_isCleared_102 rfl (lv_at hl 3 rfl) ?_
                refine lv_iload_n hx hb dX9_isCleared_103 rfl (lv_at hl 4 rfl) ?_
                refine lv_iload_n hx hb dX9_isCleared_104 rfl (lv_at hl 2 rfl) ?_
                refine lv_iload_n hx hb dX9_isCleared_105 rfl (lv_at hl 1 rfl) ?_
                obtain ⟨F787, F788, F789, S790, S791, hd792⟩ := ex5 (D_X9_bring R C f1_0 f2_0 f3_0 i1_0 i2_0 i3 i4_0 t y2_14 y3_14)
                replace hR := bnd5_use hd792 hR
                refine call_V (n := 3) (k0 := 6) (As := [.int (nI t), .int (nI y2_14), .int (nI y3_14)]) (rest := []) hX hB (k_X9_bring κ l (w) s_0 g_r b_r g_l b_l g_w b_w R C f1_0 f2_0 f3_0 i1_0 i2_0 i3 i4_0 (nI t) t (nI y2_14) y2_14 (nI y3_14) y3_14 hs (by omega) rfl rfl rfl (by omega) (hS.2.1 hG) (lgnz (by assumption)) F787 F788 F789 S790 S791 hd792) ⟨rfl, by decide, by decide, by decide +kernel⟩ wm_6_194 wm_6_196 wp_43 wm_1_16 wm_6_197 ⟨Nat.le_of_ble_eq_true rfl, Nat.le_of_ble_eq_true rfl⟩ ⟨Nat.le_of_ble_eq_true rfl, Nat.le_of_ble_eq_true rfl⟩ rfl rfl rfl rfl hl.1 rfl (Nat.le_of_ble_eq_true rfl) dX9_isCleared_106 (fun o w' H locs hp hB => ?_)
                obtain ⟨rfl, hf793, hw9⟩ := hp
                replace hB : Bd κ A s (lA κ b_r (C * 5) F787 :: gO g_r C C b_r :: lA κ b_l (R * 5) F788 :: gO g_l R R b_l :: lA κ b_w (R * 5) F789 :: gO g_w R C b_w :: (s_0, .inr (10, [.ref g_w, .ref g_l, .ref g_r, .int S790, .int S791, .int i3, .int i4_0])) :: w) H locs := by rw [hw9] at hB; exact hB
                refine W.eq (g2 := F0 m 109 ls []) rfl ?_
                have hQH := QH_of (hS.2.2.2 hG) ((show y4_14 = R by omega) ▸ hM14) (lgnz (by assumption)) hf793
                have hN1 := QH_1 hQH
                refine lv_aload_n hx hb dX9_isCleared_109 rfl (lv_at hl 3 rfl) ?_
                refine lv_iload_n hx hb dX9_isCleared_110 rfl (lv_at hl 4 rfl) ?_
                obtain ⟨F794, F795, F796, G797, hd798⟩ := ex4 (D_X9_takeOff R C F787 F788 F789 S790 S791 i3 i4_0 t)
                replace hR := bnd4_use hd798 hR
                refine call_V (n := 1) (k0 := 6) (As := [.int (nI t)]) (rest := []) hX hB (k_X9_takeOff κ l (w) s_0 g_r b_r g_l b_l g_w b_w R C F787 F788 F789 S790 S791 i3 i4_0 (nI t) t hs (by omega) rfl (by omega) hf793.1 hG hf793.2.1 F794 F795 F796 G797 hd798) ⟨rfl, by decide, by decide, by decide +kernel⟩ wm_6_201 wm_6_203 wp_44 wm_1_16 wm_6_204 ⟨Nat.le_of_ble_eq_true rfl, Nat.le_of_ble_eq_true rfl⟩ ⟨Nat.le_of_ble_eq_true rfl, Nat.le_of_ble_eq_true rfl⟩ rfl rfl rfl rfl hl.1 rfl (Nat.le_of_ble_eq_true rfl) dX9_isCleared_111 (fun o w' H locs hp hB => ?_)
                obtain ⟨rfl, hf799, hw9⟩ := hp
                replace hB : Bd κ A s (lA κ b_r (C * 5) F794 :: gO g_r C C b_r :: lA κ b_l (R * 5) F795 :: gO g_l R R b_l :: lA κ b_w (R * 5) F796 :: gO g_w R C b_w :: (s_0, .inr (10, [.ref g_w, .ref g_l, .ref g_r, .int S790, .int S791, .int i3, .int G797])) :: w) H locs := by rw [hw9] at hB; exact hB
                refine W.eq (g2 := F0 m 114 ls []) rfl ?_
                refine lv_aload_n hx hb dX9_isCleared_114 rfl (lv_at hl 3 rfl) ?_
                refine gf (k0 := 6) hX hB rfl rfl in9 6 (by decide) wm_6_233 rfl rfl dX9_isCleared_115 ?_
                refine lv_if_eq (tgt := 123) hx hb dX9_isCleared_118 (by decide) (fun c800 => ?_) (fun c800 => ?_)
                · replace hR := ifp c800 hR
                  have hG2 := c800
                  refine lv_aload_n hx hb dX9_isCleared_123 rfl (lv_at hl 3 rfl) ?_
                  refine lv_iload_n hx hb dX9_isCleared_124 rfl (lv_at hl 4 rfl) ?_
                  obtain ⟨x801, hd802⟩ := ex1 (D_X9_isAlone R C F794 F795 F796 S790 S791 i3 G797 t)
                  replace hR := bnd1_use hd802 hR
                  refine call_V (n := 1) (k0 := 6) (As := [.int (nI t)]) (rest := []) hX hB (k_X9_isAlone κ l (w) s_0 g_r b_r g_l b_l g_w b_w R C F794 F795 F796 S790 S791 i3 G797 (nI t) t hs (by omega) rfl (by omega) x801 hd802) ⟨rfl, by decide, by decide, by decide +kernel⟩ wm_6_213 wm_6_215 wp_46 wm_1_16 wm_6_216 ⟨Nat.le_of_ble_eq_true rfl, Nat.le_of_ble_eq_true rfl⟩ ⟨Nat.le_of_ble_eq_true rfl, Nat.le_of_ble_eq_true rfl⟩ rfl rfl rfl rfl hl.1 rfl (Nat.le_of_ble_eq_true rfl) dX9_isCleared_125 (fun o w' H locs hp hB => ?_)
                  obtain ⟨rfl, hf803, hw9⟩ := hp
                  replace hB : Bd κ A s (lA κ b_r (C * 5) F794 :: gO g_r C C b_r :: lA κ b_l (R * 5) F795 :: gO g_l R R b_l :: lA κ b_w (R * 5) F796 :: gO g_w R C b_w :: (s_0, .inr (10, [.ref g_w, .ref g_l, .ref g_r, .int S790, .int S791, .int i3, .int G797])) :: w) H locs := by rw [hw9] at hB; exact hB
                  rcases hf803 with ⟨rfl, hal⟩ | ⟨rfl, hal1, hal2⟩
                  · replace hR := ifp rfl hR
                    refine W.eq (g2 := F0 m 128 ls [.int 0]) rfl ?_
                    refine lv_if_eq (tgt := 141) hx hb dX9_isCleared_128 (by decide) (fun _ => ?_) (fun c804 => False.elim (by revert c804; decide))
                    refine lv_goto (tgt := 0) hx hb dX9_isCleared_141 (by decide) ?_
                    exact ih0 F794 F795 F796 S790 S791 G797 (N_0 - 1) _ _ (HS_1 hS hf793 hQH hf799 hG2 hal) (by omega) hR hB _ (lv_sub hl [3, 4] rfl)
                  · replace hR := ifn (by decide) hR
                    refine W.eq (g2 := F0 m 128 ls [.int 1]) rfl ?_
                    refine lv_if_eq (tgt := 141) hx hb dX9_isCleared_128 (by decide) (fun c805 => False.elim (by revert c805; decide)) (fun _ => ?_)
                    refine lv_aload_n hx hb dX9_isCleared_131 rfl (lv_at hl 3 rfl) ?_
                    refine lv_iload_n hx hb dX9_isCleared_132 rfl (lv_at hl 4 rfl) ?_
                    obtain ⟨x806, F807, F808, G809, hd810⟩ := ex4 (D_X9_isDividing R C F794 F795 F796 S790 S791 i3 G797 t)
                    replace hR := bnd4_use hd810 hR
                    refine call_V (n := 1) (k0 := 6) (As := [.int (nI t)]) (rest := []) hX hB (k_X9_isDividing κ l (w) s_0 g_r b_r g_l b_l g_w b_w R C F794 F795 F796 S790 S791 i3 G797 (nI t) t hs (by omega) rfl (by omega) (by rw [hf799.2.1]; intro e; have h0 := hf793.2.1; rw [e] at h0; exact absurd h0 (by decide)) hf799.1 x806 F807 F808 G809 hd810) ⟨rfl, by decide, by decide, by decide +kernel⟩ wm_6_217 wm_6_219 wp_47 wm_1_16 wm_6_220 ⟨Nat.le_of_ble_eq_true rfl, Nat.le_of_ble_eq_true rfl⟩ ⟨Nat.le_of_ble_eq_true rfl, Nat.le_of_ble_eq_true rfl⟩ rfl rfl rfl rfl hl.1 rfl (Nat.le_of_ble_eq_true rfl) dX9_isCleared_133 (fun o w' H locs hp hB => ?_)
                    obtain ⟨rfl, hf811, hw9⟩ := hp
                    replace hB : Bd κ A s (lA κ b_r (C * 5) F794 :: gO g_r C C b_r :: lA κ b_l (R * 5) F807 :: gO g_l R R b_l :: lA κ b_w (R * 5) F808 :: gO g_w R C b_w :: (s_0, .inr (10, [.ref g_w, .ref g_l, .ref g_r, .int S790, .int S791, .int i3, .int G809])) :: w) H locs := by rw [hw9] at hB; exact hB
                    rcases hf811 with ⟨rfl, hdv, hdg⟩ | ⟨rfl, hdb, hdn, di, dj, hd1, hd2, hd3, hd4, hd5, hd6⟩
                    · replace hR := ifp rfl hR
                      refine W.eq (g2 := F0 m 136 ls [.int 1]) rfl ?_
                      refine lv_if_eq (tgt := 141) hx hb dX9_isCleared_136 (by decide) (fun c812 => False.elim (by revert c812; decide)) (fun _ => ?_)
                      refine lv_iconst (v := 1) hx hb dX9_isCleared_139 (by decide) ?_
                      rw [← hQ]
                      exact end_i hX hB hA3 rfl rfl (by obtain ⟨rfl, rfl, rfl, rfl, rfl, rfl, rfl⟩ := pr7 hR; exact ⟨rfl, Or.inr rfl, CS_1 hS hf793 hf799 hG2 hdv hdg, rfl⟩) (Nat.le_of_ble_eq_true rfl) (Nat.le_of_ble_eq_true rfl) dX9_isCleared_140
                    · replace hR := ifn (by decide) hR
                      refine W.eq (g2 := F0 m 136 ls [.int 0]) rfl ?_
                      refine lv_if_eq (tgt := 141) hx hb dX9_isCleared_136 (by decide) (fun _ => ?_) (fun c813 => False.elim (by revert c813; decide))
                      refine lv_goto (tgt := 0) hx hb dX9_isCleared_141 (by decide) ?_
                      exact ih0 F794 F807 F808 S790 S791 G809 (N_0 - 1) _ _ (HS_2 hs4 ht1 hS hf793 hQH hf799 hG2 hal1 hal2 hdb hdn hd1 hd2 hd3 hd4 hd5 hd6) (by omega) hR hB _ (lv_sub hl [3, 4] rfl)
                · replace hR := ifn c800 hR
                  refine lv_iconst (v := 0) hx hb dX9_isCleared_121 (by decide) ?_
                  rw [← hQ]
                  exact end_i hX hB hA3 rfl rfl (by obtain ⟨rfl, rfl, rfl, rfl, rfl, rfl, rfl⟩ := pr7 hR; exact ⟨rfl, Or.inl rfl, CS_g hS hf793 hf799, rfl⟩) (Nat.le_of_ble_eq_true rfl) (Nat.le_of_ble_eq_true rfl) dX9_isCleared_122
              · replace hR := ifp c786 hR
                refine lv_iconst (v := 0) hx hb dX9_isCleared_100 (by decide) ?_
                rw [← hQ]
                exact end_i hX hB hA3 rfl rfl (by obtain ⟨rfl, rfl, rfl, rfl, rfl, rfl, rfl⟩ := pr7 hR; exact ⟨rfl, Or.inl rfl, CS_0 hS, rfl⟩) (Nat.le_of_ble_eq_true rfl) (Nat.le_of_ble_eq_true rfl) dX9_isCleared_101
            · rw [nleP (a := R) (b := y4_14) (by omega) (by omega)] at c785
              replace hR := ifn c785 hR
              refine lv_iload_n hx hb dX9_isCleared_26 rfl (lv_at hl 4 rfl) ?_
              refine lv_istore (lv' := [(5, .int (nI t)), (4, .int (nI y4_14)), (3, .int (nI y3_14)), (2, .int (nI y2_14)), (0, .ref s_0), (1, .int (nI t))]) hx hb dX9_isCleared_27 hl (by decide) rfl (fun ls hl => ?_)
              have lp29 : ∀ (nn29 : Nat) (y5_29 : Nat) (y3_29 : Nat) (y2_29 : Nat) (H : Heap) (locs : List Loc), (y5_29 ≤ C) → (t ≤ y5_29) → (MIf R C t f3_0 y4_14 y5_29 y2_29 y3_29) → C + 1 - y5_29 < nn29 → D_X9_isCleared_29 R C i3 f1_0 f2_0 f3_0 i1_0 i2_0 i4_0 (D_X9_isCleared_14 R C i3 t (D_X9_isCleared_0 R C i3 t nn0) f1_0 f2_0 f3_0 i1_0 i2_0 i4_0 nn14) y4_14 nn29 y5_29 y3_29 y2_29 = (o_x, o_F1, o_F2, o_F3, o_S1, o_S2, o_G1) → Bd κ A s (lA κ b_r (C * 5) f1_0 :: gO g_r C C b_r :: lA κ b_l (R * 5) f2_0 :: gO g_l R R b_l :: lA κ b_w (R * 5) f3_0 :: gO g_w R C b_w :: (s_0, .inr (10, [.ref g_w, .ref g_l, .ref g_r, .int i1_0, .int i2_0, .int i3, .int i4_0])) :: w) H locs → ∀ ls : Array Slot, lv_has ls 6 [(5, .int (nI y5_29)), (4, .int (nI y4_14)), (3, .int (nI y3_29)), (2, .int (nI y2_29)), (0, .ref s_0), (1, .int (nI t))] → W p l e (Rm 3 73 0 0) s m args below meth c H locs (0) (0) Q (F0 m 29 ls []) := by
                intro nn29
                induction nn29 with
                | zero => intro y5_29 y3_29 y2_29 H locs hn5_29 hI29 hM29 hμ; exact absurd hμ (Nat.not_lt_zero _)
                | succ nn29 ih29 =>
                  intro y5_29 y3_29 y2_29 H locs hn5_29 hI29 hM29 hμ29 hR hB ls hl
                  replace hR := (D_X9_isCleared_29_s).symm.trans hR
                  have hq29 := hM29.1
                  refine lv_iload hx hb dX9_isCleared_29 (lv_at hl 0 rfl) ?_
                  refine lv_aload_n hx hb dX9_isCleared_31 rfl (lv_at hl 4 rfl) ?_
                  refine gf (k0 := 6) hX hB rfl rfl in9 0 (by decide) wm_6_221 rfl rfl dX9_isCleared_32 ?_
                  refine gf (k0 := 5) hX hB rfl rfl in7 1 (by decide) wm_5_150 rfl rfl dX9_isCleared_35 ?_
                  refine lv_icmp_ge (tgt := 80) hx hb dX9_isCleared_38 (by decide) (fun c826 => ?_) (fun c826 => ?_)
                  · rw [nleP (a := C) (b := y5_29) (by omega) (by omega)] at c826
                    replace hR := ifp c826 hR
                    refine lv_iinc (v := nI (y4_14 + 1)) (lv' := [(4, .int (nI (y4_14 + 1))), (5, .int (nI y5_29)), (3, .int (nI y3_29)), (2, .int (nI y2_29)), (0, .ref s_0), (1, .int (nI t))]) hx hb dX9_isCleared_80 hl (k := 1) rfl (nI_add y4_14 1) (by decide) rfl (fun ls hl => ?_)
                    refine lv_goto (tgt := 14) hx hb dX9_isCleared_83 (by decide) ?_
                    exact ih14 (y4_14 + 1) y3_29 y2_29 _ _ (by omega) (by omega) (MI_r hM29 (by omega)) (by omega) hR hB _ (lv_sub hl [0, 2, 3, 4, 5] rfl)
                  · rw [nleP (a := C) (b := y5_29) (by omega) (by omega)] at c826
                    replace hR := ifn c826 hR
                    refine lv_aload_n hx hb dX9_isCleared_41 rfl (lv_at hl 4 rfl) ?_
                    refine lv_aload_n hx hb dX9_isCleared_42 rfl (lv_at hl 4 rfl) ?_
                    refine gf (k0 := 6) hX hB rfl rfl in9 0 (by decide) wm_6_221 rfl rfl dX9_isCleared_43 ?_
                    refine lv_iload hx hb dX9_isCleared_46 (lv_at hl 1 rfl) ?_
                    refine lv_iload hx hb dX9_isCleared_48 (lv_at hl 0 rfl) ?_
                    refine call_V (n := 2) (k0 := 5) (As := [.int (nI y4_14), .int (nI y5_29)]) (rest := [.ref s_0]) hX hB (k_X7_at κ l (lA κ b_r (C * 5) f1_0 :: gO g_r C C b_r :: lA κ b_l (R * 5) f2_0 :: gO g_l R R b_l :: lA κ b_w (R * 5) f3_0 :: gO g_w R C b_w :: (s_0, .inr (10, [.ref g_w, .ref g_l, .ref g_r, .int i1_0, .int i2_0, .int i3, .int i4_0])) :: w) 5 4 g_w b_w R C f3_0 (nI y4_14) y4_14 (nI y5_29) y5_29 rfl rfl hs rfl rfl (by omega)) ⟨rfl, by decide, by decide, by decide +kernel⟩ wm_6_188 wm_5_238 wm_5_239 wm_1_7 wm_6_0 ⟨Nat.le_of_ble_eq_true rfl, Nat.le_of_ble_eq_true rfl⟩ ⟨Nat.le_of_ble_eq_true rfl, Nat.le_of_ble_eq_true rfl⟩ rfl rfl rfl rfl hl.1 rfl (Nat.le_of_ble_eq_true rfl) dX9_isCleared_50 (fun o w' H locs hp hB => ?_)
                    obtain ⟨rfl, hw9⟩ := hp
                    replace hB : Bd κ A s (lA κ b_r (C * 5) f1_0 :: gO g_r C C b_r :: lA κ b_l (R * 5) f2_0 :: gO g_l R R b_l :: lA κ b_w (R * 5) f3_0 :: gO g_w R C b_w :: (s_0, .inr (10, [.ref g_w, .ref g_l, .ref g_r, .int i1_0, .int i2_0, .int i3, .int i4_0])) :: w) H locs := by rw [hw9] at hB; exact hB
                    refine W.eq (g2 := F0 m 53 ls [.long (f3_0 (y4_14 * 5 + y5_29)), .ref s_0]) rfl ?_
                    refine lv_aload_n hx hb dX9_isCleared_53 rfl (lv_at hl 4 rfl) ?_
                    refine gf (k0 := 6) hX hB rfl rfl in9 0 (by decide) wm_6_221 rfl rfl dX9_isCleared_54 ?_
                    refine lv_iload_n hx hb dX9_isCleared_57 rfl (lv_at hl 3 rfl) ?_
                    refine lv_iload_n hx hb dX9_isCleared_58 rfl (lv_at hl 2 rfl) ?_
                    refine call_V (n := 2) (k0 := 5) (As := [.int (nI y2_29), .int (nI y3_29)]) (rest := [.long (f3_0 (y4_14 * 5 + y5_29)), .ref s_0]) hX hB (k_X7_at κ l (lA κ b_r (C * 5) f1_0 :: gO g_r C C b_r :: lA κ b_l (R * 5) f2_0 :: gO g_l R R b_l :: lA κ b_w (R * 5) f3_0 :: gO g_w R C b_w :: (s_0, .inr (10, [.ref g_w, .ref g_l, .ref g_r, .int i1_0, .int i2_0, .int i3, .int i4_0])) :: w) 5 4 g_w b_w R C f3_0 (nI y2_29) y2_29 (nI y3_29) y3_29 rfl rfl hs rfl rfl (by omega)) ⟨rfl, by decide, by decide, by decide +kernel⟩ wm_6_188 wm_5_238 wm_5_239 wm_1_7 wm_6_0 ⟨Nat.le_of_ble_eq_true rfl, Nat.le_of_ble_eq_true rfl⟩ ⟨Nat.le_of_ble_eq_true rfl, Nat.le_of_ble_eq_true rfl⟩ rfl rfl rfl rfl hl.1 rfl (Nat.le_of_ble_eq_true rfl) dX9_isCleared_59 (fun o w' H locs hp hB => ?_)
                    obtain ⟨rfl, hw9⟩ := hp
                    replace hB : Bd κ A s (lA κ b_r (C * 5) f1_0 :: gO g_r C C b_r :: lA κ b_l (R * 5) f2_0 :: gO g_l R R b_l :: lA κ b_w (R * 5) f3_0 :: gO g_w R C b_w :: (s_0, .inr (10, [.ref g_w, .ref g_l, .ref g_r, .int i1_0, .int i2_0, .int i3, .int i4_0])) :: w) H locs := by rw [hw9] at hB; exact hB
                    refine W.eq (g2 := F0 m 62 ls [.long (f3_0 (y2_29 * 5 + y3_29)), .long (f3_0 (y4_14 * 5 + y5_29)), .ref s_0]) rfl ?_
                    obtain ⟨x827, hd828⟩ := ex1 (D_X9_isLess R C f1_0 f2_0 f3_0 i1_0 i2_0 i3 i4_0 (f3_0 (y4_14 * 5 + y5_29)) (f3_0 (y2_29 * 5 + y3_29)))
                    replace hR := bnd1_use hd828 hR
                    refine call_V (n := 2) (k0 := 6) (As := [.long (f3_0 (y4_14 * 5 + y5_29)), .long (f3_0 (y2_29 * 5 + y3_29))]) (rest := []) hX hB (k_X9_isLess κ l (w) s_0 g_r b_r g_l b_l g_w b_w R C f1_0 f2_0 f3_0 i1_0 i2_0 i3 i4_0 (f3_0 (y4_14 * 5 + y5_29)) (f3_0 (y2_29 * 5 + y3_29)) hs (by omega) (hS.2.1 hG _ (by omega)) (hS.2.1 hG _ (by omega)) x827 hd828) ⟨rfl, by decide, by decide, by decide +kernel⟩ wm_6_189 wm_6_191 wp_42 wm_1_16 wm_6_192 ⟨Nat.le_of_ble_eq_true rfl, Nat.le_of_ble_eq_true rfl⟩ ⟨Nat.le_of_ble_eq_true rfl, Nat.le_of_ble_eq_true rfl⟩ rfl rfl rfl rfl hl.1 rfl (Nat.le_of_ble_eq_true rfl) dX9_isCleared_62 (fun o w' H locs hp hB => ?_)
                    obtain ⟨rfl, hf829, hw9⟩ := hp
                    replace hB : Bd κ A s (lA κ b_r (C * 5) f1_0 :: gO g_r C C b_r :: lA κ b_l (R * 5) f2_0 :: gO g_l R R b_l :: lA κ b_w (R * 5) f3_0 :: gO g_w R C b_w :: (s_0, .inr (10, [.ref g_w, .ref g_l, .ref g_r, .int i1_0, .int i2_0, .int i3, .int i4_0])) :: w) H locs := by rw [hw9] at hB; exact hB
                    rcases hf829 with ⟨rfl, hle⟩ | ⟨rfl, hle0, hle1⟩
                    · replace hR := ifp rfl hR
                      refine W.eq (g2 := F0 m 65 ls [.int 0]) rfl ?_
                      refine lv_if_eq (tgt := 74) hx hb dX9_isCleared_65 (by decide) (fun _ => ?_) (fun c830 => False.elim (by revert c830; decide))
                      refine lv_iinc (v := nI (y5_29 + 1)) (lv' := [(5, .int (nI (y5_29 + 1))), (4, .int (nI y4_14)), (3, .int (nI y3_29)), (2, .int (nI y2_29)), (0, .ref s_0), (1, .int (nI t))]) hx hb dX9_isCleared_74 hl (k := 0) rfl (nI_add y5_29 1) (by decide) rfl (fun ls hl => ?_)
                      refine lv_goto (tgt := 29) hx hb dX9_isCleared_77 (by decide) ?_
                      exact ih29 (y5_29 + 1) y3_29 y2_29 _ _ (by omega) (by omega) (MI_k hM29 hle) (by omega) hR hB _ hl
                    · replace hR := ifn (by decide) hR
                      refine W.eq (g2 := F0 m 65 ls [.int 1]) rfl ?_
                      refine lv_if_eq (tgt := 74) hx hb dX9_isCleared_65 (by decide) (fun c831 => False.elim (by revert c831; decide)) (fun _ => ?_)
                      refine lv_iload hx hb dX9_isCleared_68 (lv_at hl 1 rfl) ?_
                      refine lv_istore_n (lv' := [(2, .int (nI y4_14)), (5, .int (nI y5_29)), (4, .int (nI y4_14)), (3, .int (nI y3_29)), (0, .ref s_0), (1, .int (nI t))]) hx hb dX9_isCleared_70 rfl hl (by decide) rfl (fun ls hl => ?_)
                      refine lv_iload hx hb dX9_isCleared_71 (lv_at hl 1 rfl) ?_
                      refine lv_istore_n (lv' := [(3, .int (nI y5_29)), (2, .int (nI y4_14)), (5, .int (nI y5_29)), (4, .int (nI y4_14)), (0, .ref s_0), (1, .int (nI t))]) hx hb dX9_isCleared_73 rfl hl (by decide) rfl (fun ls hl => ?_)
                      refine lv_iinc (v := nI (y5_29 + 1)) (lv' := [(5, .int (nI (y5_29 + 1))), (3, .int (nI y5_29)), (2, .int (nI y4_14)), (4, .int (nI y4_14)), (0, .ref s_0), (1, .int (nI t))]) hx hb dX9_isCleared_74 hl (k := 2) rfl (nI_add y5_29 1) (by decide) rfl (fun ls hl => ?_)
                      refine lv_goto (tgt := 29) hx hb dX9_isCleared_77 (by decide) ?_
                      exact ih29 (y5_29 + 1) y5_29 y4_14 _ _ (by omega) (by omega) (MI_n hM29 (by omega) hle0 hle1) (by omega) hR hB _ (lv_sub hl [0, 3, 1, 2, 4, 5] rfl)
              exact lp29 _ t y3_14 y2_14 _ _ (by omega) (by omega) hM14 (Nat.lt_succ_self _) hR hB _ hl
        exact lp14 _ t t t _ _ (by omega) (by omega) (MI_0 ht1 ht2) (Nat.lt_succ_self _) hR hB _ hl
  exact lp0 (2000000000 + 1) f1 f2 f3 i1 i2 i4 N0 _ _ (⟨Or.inl hg0, fun _ => hng, fun _ _ => rfl, fun _ => hN0⟩) (by omega) hR hB _ hl
noncomputable def D_X9_init_48 (R : Nat) (C : Nat) (nn : Nat) : Nat → Int32 → (Nat → Int64) → (Nat → Int64) → (Nat → Int64) → Int32 → Int32 → Int32 → Int32 → (Nat → Int64) × (Nat → Int64) × (Nat → Int64) × Int32 × Int32 × Nat × Int32 := @Nat.rec (fun _ => Nat → Int32 → (Nat → Int64) → (Nat → Int64) → (Nat → Int64) → Int32 → Int32 → Int32 → Int32 → (Nat → Int64) × (Nat → Int64) × (Nat → Int64) × Int32 × Int32 × Nat × Int32) (fun _ _ _ _ _ _ _ _ _ => default) (fun _ lb48 (y3_48 : Nat) (y2_48 : Int32) (fq12_48 : Nat → Int64) (fq2_48 : Nat → Int64) (fq7_48 : Nat → Int64) (i1_48 : Int32) (i2_48 : Int32) (i3_48 : Int32) (i4_48 : Int32) => (if y2_48 = 0 then nm ((i3_48).toNatClampNeg) (fun (kk : Nat) => (fq12_48, fq7_48, fq2_48, i1_48, i2_48, kk, i4_48)) else (if R ≤ y3_48 then nm ((i3_48).toNatClampNeg) (fun (kk : Nat) => (fq12_48, fq7_48, fq2_48, i1_48, i2_48, kk, i4_48)) else (if C ≤ y3_48 then nm ((i3_48).toNatClampNeg) (fun (kk : Nat) => (fq12_48, fq7_48, fq2_48, i1_48, i2_48, kk, i4_48)) else bnd7 (D_X9_isCleared R C fq12_48 fq7_48 fq2_48 i1_48 i2_48 i3_48 i4_48 y3_48) (fun (x49 : Int32) (F50 : Nat → Int64) (F51 : Nat → Int64) (F52 : Nat → Int64) (S53 : Int32) (S54 : Int32) (G55 : Int32) => (if x49 = 0 then (lb48 (y3_48 + 1) 0 F50 F52 F51 S53 S54 (i3_48 + 0) G55) else (lb48 (y3_48 + 1) 1 F50 F52 F51 S53 S54 (i3_48 + 1) G55))))))) nn
theorem D_X9_init_48_s {R : Nat} {C : Nat} {nn : Nat} {y3_48 : Nat} {y2_48 : Int32} {fq12_48 : Nat → Int64} {fq2_48 : Nat → Int64} {fq7_48 : Nat → Int64} {i1_48 : Int32} {i2_48 : Int32} {i3_48 : Int32} {i4_48 : Int32} : D_X9_init_48 R C (nn + 1) y3_48 y2_48 fq12_48 fq2_48 fq7_48 i1_48 i2_48 i3_48 i4_48 = (if y2_48 = 0 then nm ((i3_48).toNatClampNeg) (fun (kk : Nat) => (fq12_48, fq7_48, fq2_48, i1_48, i2_48, kk, i4_48)) else (if R ≤ y3_48 then nm ((i3_48).toNatClampNeg) (fun (kk : Nat) => (fq12_48, fq7_48, fq2_48, i1_48, i2_48, kk, i4_48)) else (if C ≤ y3_48 then nm ((i3_48).toNatClampNeg) (fun (kk : Nat) => (fq12_48, fq7_48, fq2_48, i1_48, i2_48, kk, i4_48)) else bnd7 (D_X9_isCleared R C fq12_48 fq7_48 fq2_48 i1_48 i2_48 i3_48 i4_48 y3_48) (fun (x49 : Int32) (F50 : Nat → Int64) (F51 : Nat → Int64) (F52 : Nat → Int64) (S53 : Int32) (S54 : Int32) (G55 : Int32) => (if x49 = 0 then ((D_X9_init_48 R C nn) (y3_48 + 1) 0 F50 F52 F51 S53 S54 (i3_48 + 0) G55) else ((D_X9_init_48 R C nn) (y3_48 + 1) 1 F50 F52 F51 S53 S54 (i3_48 + 1) G55)))))) := rfl
noncomputable def D_X9_init (R : Nat) (C : Nat) (f : Nat → Int64) : (Nat → Int64) × (Nat → Int64) × (Nat → Int64) × Int32 × Int32 × Nat × Int32 := bnd1 (D_X7_copy R C f) (fun (F3 : Nat → Int64) => bnd1 (D_X7_unit R) (fun (F8 : Nat → Int64) => bnd1 (D_X7_unit C) (fun (F13 : Nat → Int64) => (D_X9_init_48 R C (R + 1 - 0 + 1) 0 1 F13 F3 F8 1 1 0 0))))
theorem D_X9_init_s {R : Nat} {C : Nat} {f : Nat → Int64} : D_X9_init R C f = bnd1 (D_X7_copy R C f) (fun (F3 : Nat → Int64) => bnd1 (D_X7_unit R) (fun (F8 : Nat → Int64) => bnd1 (D_X7_unit C) (fun (F13 : Nat → Int64) => (D_X9_init_48 R C (R + 1 - 0 + 1) 0 1 F13 F3 F8 1 1 0 0)))) := rfl
set_option maxHeartbeats 4000000 in
set_option maxRecDepth 100000 in
theorem k_X9_init (κ : Kt) (l : Launch) (w : va_W) (s_0 k1 k2 g b R C : Nat) (f : Nat → Int64) (h1 : w[k1]? = some (gO g R C b)) (h2 : w[k2]? = some (lA κ b (R * 5) f)) (hs : shp R C) (hC4 : C ≤ 4) (hng : ∀ k, k < R * 5 → ng (f k)) (o_F1 : Nat → Int64) (o_F2 : Nat → Int64) (o_F3 : Nat → Int64) (o_S1 : Int32) (o_S2 : Int32) (o_K : Nat) (o_G1 : Int32) (hR : D_X9_init R C f = (o_F1, o_F2, o_F3, o_S1, o_S2, o_K, o_G1)) : CM κ l yX9_init cX9_init 4 (none) 4 98 6 69 [.ref s_0, .ref g] ((s_0, .inr (10, [.null, .null, .null, .int 0, .int 0, .int 0, .int 0])) :: w) (fun o w' => ∃ (g_r : Nat) (b_r : Nat) (g_l : Nat) (b_l : Nat) (g_w : Nat) (b_w : Nat), o = none ∧ (o_K ≤ R ∧ o_K ≤ C ∧ ∀ j, j < o_K → ¬ o_F3 (j * 5 + j) = 0) ∧ w' = lA κ b_r (C * 5) o_F1 :: gO g_r C C b_r :: lA κ b_l (R * 5) o_F2 :: gO g_l R R b_l :: lA κ b_w (R * 5) o_F3 :: gO g_w R C b_w :: (s_0, .inr (10, [.ref g_w, .ref g_l, .ref g_r, .int o_S1, .int o_S2, .int (nI o_K), .int o_G1])) :: w) := by
  have hs0 := hs
  obtain ⟨hs1, hs2, hs3, hs4⟩ := hs0
  refine CM_begin (plainFor_of_name (by decide)) (Nat.le_of_ble_eq_true rfl) ?_
  intro p e s m args below meth c A Q hX hnm hA3 hQ hB ls hl
  have hx := hX.1.1
  have hb := hX.1.2.1
  have hl : lv_has ls 4 [(0, .ref s_0), (1, .ref g)] := hl
  replace hR := (D_X9_init_s).symm.trans hR
  refine lv_aload_n hx hb dX9_init_0 rfl (lv_at hl 0 rfl) ?_
  refine W.objInit hx hb hX.1.2.2.2.1 (hX.1.2.2.2.2 _ wm_6_181) (hX.1.2.2.2.2 _ wm_1_36) (hX.1.2.2.2.2 _ wm_1_37) rfl (by rw [hX.1.2.2.1]; exact hl.1) rfl dX9_init_1 (Nat.le_of_ble_eq_true rfl) (Nat.le_of_ble_eq_true rfl) ?_
  refine W.eq (g2 := F0 m 4 ls []) rfl ?_
  refine lv_aload_n hx hb dX9_init_4 rfl (lv_at hl 0 rfl) ?_
  refine lv_iconst (v := 1) hx hb dX9_init_5 (by decide) ?_
  refine pf (ty := .int) (k0 := 0) hX hB rfl rfl in9 tyX9_ok nmX9 3 (by decide) wm_6_227 rfl rfl rfl rfl rfl (Nat.le_of_ble_eq_true rfl) (w1 := (s_0, .inr (10, [.null, .null, .null, .int 1, .int 0, .int 0, .int 0])) :: w) rfl dX9_init_6 (fun H locs hB => ?_)
  refine lv_aload_n hx hb dX9_init_9 rfl (lv_at hl 0 rfl) ?_
  refine lv_iconst (v := 1) hx hb dX9_init_10 (by decide) ?_
  refine pf (ty := .int) (k0 := 0) hX hB rfl rfl in9 tyX9_ok nmX9 4 (by decide) wm_6_229 rfl rfl rfl rfl rfl (Nat.le_of_ble_eq_true rfl) (w1 := (s_0, .inr (10, [.null, .null, .null, .int 1, .int 1, .int 0, .int 0])) :: w) rfl dX9_init_11 (fun H locs hB => ?_)
  refine lv_aload_n hx hb dX9_init_14 rfl (lv_at hl 0 rfl) ?_
  refine lv_aload_n hx hb dX9_init_15 rfl (lv_at hl 1 rfl) ?_
  obtain ⟨F3, hd4⟩ := ex1 (D_X7_copy R C f)
  replace hR := bnd1_use hd4 hR
  refine call_V (n := 0) (k0 := (k1 + 1)) (As := []) (rest := [.ref s_0]) hX hB (k_X7_copy κ l ((s_0, .inr (10, [.null, .null, .null, .int 1, .int 1, .int 0, .int 0])) :: w) (k1 + 1) (k2 + 1) g b R C f h1 h2 hs F3 hd4) ⟨rfl, by decide, by decide, by decide +kernel⟩ wm_6_182 wm_6_24 wm_6_25 wm_1_7 wm_6_26 ⟨Nat.le_of_ble_eq_true rfl, Nat.le_of_ble_eq_true rfl⟩ ⟨Nat.le_of_ble_eq_true rfl, Nat.le_of_ble_eq_true rfl⟩ h1 rfl rfl rfl hl.1 rfl (Nat.le_of_ble_eq_true rfl) dX9_init_16 (fun o w' H locs hp hB => ?_)
  obtain ⟨q1, q2, rfl, hf5, hw9⟩ := hp
  replace hB : Bd κ A s (lA κ q2 (R * 5) F3 :: gO q1 R C q2 :: (s_0, .inr (10, [.null, .null, .null, .int 1, .int 1, .int 0, .int 0])) :: w) H locs := by rw [hw9] at hB; exact hB
  refine W.eq (g2 := F0 m 19 ls [.ref q1, .ref s_0]) rfl ?_
  refine pfF (ty := .object "GridmenderModel$Grid") (k0 := 2) hX hnm hB rfl rfl in9 tyX9_ok nmX9 0 (by decide) wm_6_221 rfl rfl rfl rfl rfl rfl (Nat.le_of_ble_eq_true rfl) (w1 := lA κ q2 (R * 5) F3 :: gO q1 R C q2 :: (s_0, .inr (10, [.ref q1, .null, .null, .int 1, .int 1, .int 0, .int 0])) :: w) rfl dX9_init_19 (fun H locs hB => ?_)
  refine lv_aload_n hx hb dX9_init_22 rfl (lv_at hl 0 rfl) ?_
  refine lv_aload_n hx hb dX9_init_23 rfl (lv_at hl 1 rfl) ?_
  refine gf (k0 := k1 + 3) hX hB h1 rfl in7 0 (by decide) wm_5_147 rfl rfl dX9_init_24 ?_
  obtain ⟨F8, hd9⟩ := ex1 (D_X7_unit R)
  replace hR := bnd1_use hd9 hR
  refine call_S (n := 1) (As := [.int (nI R)]) (rest := [.ref s_0]) hX hB (k_X7_unit κ l (lA κ q2 (R * 5) F3 :: gO q1 R C q2 :: (s_0, .inr (10, [.ref q1, .null, .null, .int 1, .int 1, .int 0, .int 0])) :: w) (nI R) R rfl (by omega) (by omega) F8 hd9) ⟨by decide, by decide, by decide +kernel⟩ wm_6_183 wm_5_217 wm_1_7 wm_5_218 ⟨Nat.le_of_ble_eq_true rfl, Nat.le_of_ble_eq_true rfl⟩ ⟨Nat.le_of_ble_eq_true rfl, Nat.le_of_ble_eq_true rfl⟩ rfl hl.1 rfl (Nat.le_of_ble_eq_true rfl) dX9_init_27 (fun o w' H locs hp hB => ?_)
  obtain ⟨q6, q7, rfl, hf10, hw9⟩ := hp
  replace hB : Bd κ A s (lA κ q7 (R * 5) F8 :: gO q6 R R q7 :: lA κ q2 (R * 5) F3 :: gO q1 R C q2 :: (s_0, .inr (10, [.ref q1, .null, .null, .int 1, .int 1, .int 0, .int 0])) :: w) H locs := by rw [hw9] at hB; exact hB
  refine W.eq (g2 := F0 m 30 ls [.ref q6, .ref s_0]) rfl ?_
  refine pfF (ty := .object "GridmenderModel$Grid") (k0 := 4) hX hnm hB rfl rfl in9 tyX9_ok nmX9 1 (by decide) wm_6_223 rfl rfl rfl rfl rfl rfl (Nat.le_of_ble_eq_true rfl) (w1 := lA κ q7 (R * 5) F8 :: gO q6 R R q7 :: lA κ q2 (R * 5) F3 :: gO q1 R C q2 :: (s_0, .inr (10, [.ref q1, .ref q6, .null, .int 1, .int 1, .int 0, .int 0])) :: w) rfl dX9_init_30 (fun H locs hB => ?_)
  refine lv_aload_n hx hb dX9_init_33 rfl (lv_at hl 0 rfl) ?_
  refine lv_aload_n hx hb dX9_init_34 rfl (lv_at hl 1 rfl) ?_
  refine gf (k0 := k1 + 5) hX hB h1 rfl in7 1 (by decide) wm_5_150 rfl rfl dX9_init_35 ?_
  obtain ⟨F13, hd14⟩ := ex1 (D_X7_unit C)
  replace hR := bnd1_use hd14 hR
  refine call_S (n := 1) (As := [.int (nI C)]) (rest := [.ref s_0]) hX hB (k_X7_unit κ l (lA κ q7 (R * 5) F8 :: gO q6 R R q7 :: lA κ q2 (R * 5) F3 :: gO q1 R C q2 :: (s_0, .inr (10, [.ref q1, .ref q6, .null, .int 1, .int 1, .int 0, .int 0])) :: w) (nI C) C rfl (by omega) (by omega) F13 hd14) ⟨by decide, by decide, by decide +kernel⟩ wm_6_183 wm_5_217 wm_1_7 wm_5_218 ⟨Nat.le_of_ble_eq_true rfl, Nat.le_of_ble_eq_true rfl⟩ ⟨Nat.le_of_ble_eq_true rfl, Nat.le_of_ble_eq_true rfl⟩ rfl hl.1 rfl (Nat.le_of_ble_eq_true rfl) dX9_init_38 (fun o w' H locs hp hB => ?_)
  obtain ⟨q11, q12, rfl, hf15, hw9⟩ := hp
  replace hB : Bd κ A s (lA κ q12 (C * 5) F13 :: gO q11 C C q12 :: lA κ q7 (R * 5) F8 :: gO q6 R R q7 :: lA κ q2 (R * 5) F3 :: gO q1 R C q2 :: (s_0, .inr (10, [.ref q1, .ref q6, .null, .int 1, .int 1, .int 0, .int 0])) :: w) H locs := by rw [hw9] at hB; exact hB
  refine W.eq (g2 := F0 m 41 ls [.ref q11, .ref s_0]) rfl ?_
  refine pfF (ty := .object "GridmenderModel$Grid") (k0 := 6) hX hnm hB rfl rfl in9 tyX9_ok nmX9 2 (by decide) wm_6_225 rfl rfl rfl rfl rfl rfl (Nat.le_of_ble_eq_true rfl) (w1 := lA κ q12 (C * 5) F13 :: gO q11 C C q12 :: lA κ q7 (R * 5) F8 :: gO q6 R R q7 :: lA κ q2 (R * 5) F3 :: gO q1 R C q2 :: (s_0, .inr (10, [.ref q1, .ref q6, .ref q11, .int 1, .int 1, .int 0, .int 0])) :: w) rfl dX9_init_41 (fun H locs hB => ?_)
  refine lv_iconst (v := 1) hx hb dX9_init_44 (by decide) ?_
  refine lv_istore_n (lv' := [(2, .int 1), (0, .ref s_0), (1, .ref g)]) hx hb dX9_init_45 rfl hl (by decide) rfl (fun ls hl => ?_)
  refine lv_iconst (v := 0) hx hb dX9_init_46 (by decide) ?_
  refine lv_istore_n (lv' := [(3, .int 0), (2, .int 1), (0, .ref s_0), (1, .ref g)]) hx hb dX9_init_47 rfl hl (by decide) rfl (fun ls hl => ?_)
  have lp48 : ∀ (nn48 : Nat) (y3_48 : Nat) (y2_48 : Int32) (fq12_48 : Nat → Int64) (fq2_48 : Nat → Int64) (fq7_48 : Nat → Int64) (i1_48 : Int32) (i2_48 : Int32) (i3_48 : Int32) (i4_48 : Int32) (H : Heap) (locs : List Loc), (y3_48 ≤ R) → (RIf R C y3_48 y2_48 i3_48 fq2_48 i4_48) → R + 1 - y3_48 < nn48 → D_X9_init_48 R C nn48 y3_48 y2_48 fq12_48 fq2_48 fq7_48 i1_48 i2_48 i3_48 i4_48 = (o_F1, o_F2, o_F3, o_S1, o_S2, o_K, o_G1) → Bd κ A s (lA κ q12 (C * 5) fq12_48 :: gO q11 C C q12 :: lA κ q7 (R * 5) fq7_48 :: gO q6 R R q7 :: lA κ q2 (R * 5) fq2_48 :: gO q1 R C q2 :: (s_0, .inr (10, [.ref q1, .ref q6, .ref q11, .int i1_48, .int i2_48, .int i3_48, .int i4_48])) :: w) H locs → ∀ ls : Array Slot, lv_has ls 4 [(3, .int (nI y3_48)), (2, .int y2_48), (0, .ref s_0), (1, .ref g)] → W p l e (Rm 4 98 6 69) s m args below meth c H locs (6) (69) Q (F0 m 48 ls []) := by
    intro nn48
    induction nn48 with
    | zero => intro y3_48 y2_48 fq12_48 fq2_48 fq7_48 i1_48 i2_48 i3_48 i4_48 H locs hn3 hRI hμ; exact absurd hμ (Nat.not_lt_zero _)
    | succ nn48 ih48 =>
      intro y3_48 y2_48 fq12_48 fq2_48 fq7_48 i1_48 i2_48 i3_48 i4_48 H locs hn3 hRI hμ48 hR hB ls hl
      replace hR := (D_X9_init_48_s).symm.trans hR
      refine lv_iload_n hx hb dX9_init_48 rfl (lv_at hl 1 rfl) ?_
      refine lv_if_eq (tgt := 104) hx hb dX9_init_49 (by decide) (fun c46 => ?_) (fun c46 => ?_)
      · replace hR := ifp c46 hR
        obtain ⟨kk, hk1, hk2, hk3, hk4⟩ := hRI.2
        subst hk1
        replace hR := nm_use (nI_clamp (by omega)).symm hR
        rw [← hQ]
        exact end_v hX hB hA3 rfl (by obtain ⟨rfl, rfl, rfl, rfl, rfl, rfl, rfl⟩ := pr7 hR; exact ⟨q11, q12, q6, q7, q1, q2, rfl, ⟨hk2, hk3, hk4⟩, rfl⟩) (Nat.le_of_ble_eq_true rfl) (Nat.le_of_ble_eq_true rfl) dX9_init_104
      · replace hR := ifn c46 hR
        have hM := c46
        refine lv_iload_n hx hb dX9_init_52 rfl (lv_at hl 0 rfl) ?_
        refine lv_aload_n hx hb dX9_init_53 rfl (lv_at hl 2 rfl) ?_
        refine gf (k0 := 6) hX hB rfl rfl in9 0 (by decide) wm_6_221 rfl rfl dX9_init_54 ?_
        refine gf (k0 := 5) hX hB rfl rfl in7 0 (by decide) wm_5_147 rfl rfl dX9_init_57 ?_
        refine lv_icmp_ge (tgt := 104) hx hb dX9_init_60 (by decide) (fun c47 => ?_) (fun c47 => ?_)
        · rw [nleP (a := R) (b := y3_48) (by omega) (by omega)] at c47
          replace hR := ifp c47 hR
          obtain ⟨kk, hk1, hk2, hk3, hk4⟩ := hRI.2
          subst hk1
          replace hR := nm_use (nI_clamp (by omega)).symm hR
          rw [← hQ]
          exact end_v hX hB hA3 rfl (by obtain ⟨rfl, rfl, rfl, rfl, rfl, rfl, rfl⟩ := pr7 hR; exact ⟨q11, q12, q6, q7, q1, q2, rfl, ⟨hk2, hk3, hk4⟩, rfl⟩) (Nat.le_of_ble_eq_true rfl) (Nat.le_of_ble_eq_true rfl) dX9_init_104
        · rw [nleP (a := R) (b := y3_48) (by omega) (by omega)] at c47
          replace hR := ifn c47 hR
          refine lv_iload_n hx hb dX9_init_63 rfl (lv_at hl 0 rfl) ?_
          refine lv_aload_n hx hb dX9_init_64 rfl (lv_at hl 2 rfl) ?_
          refine gf (k0 := 6) hX hB rfl rfl in9 0 (by decide) wm_6_221 rfl rfl dX9_init_65 ?_
          refine gf (k0 := 5) hX hB rfl rfl in7 1 (by decide) wm_5_150 rfl rfl dX9_init_68 ?_
          refine lv_icmp_ge (tgt := 104) hx hb dX9_init_71 (by decide) (fun c48 => ?_) (fun c48 => ?_)
          · rw [nleP (a := C) (b := y3_48) (by omega) (by omega)] at c48
            replace hR := ifp c48 hR
            obtain ⟨kk, hk1, hk2, hk3, hk4⟩ := hRI.2
            subst hk1
            replace hR := nm_use (nI_clamp (by omega)).symm hR
            rw [← hQ]
            exact end_v hX hB hA3 rfl (by obtain ⟨rfl, rfl, rfl, rfl, rfl, rfl, rfl⟩ := pr7 hR; exact ⟨q11, q12, q6, q7, q1, q2, rfl, ⟨hk2, hk3, hk4⟩, rfl⟩) (Nat.le_of_ble_eq_true rfl) (Nat.le_of_ble_eq_true rfl) dX9_init_104
          · rw [nleP (a := C) (b := y3_48) (by omega) (by omega)] at c48
            replace hR := ifn c48 hR
            refine lv_aload_n hx hb dX9_init_74 rfl (lv_at hl 2 rfl) ?_
            refine lv_iload_n hx hb dX9_init_75 rfl (lv_at hl 0 rfl) ?_
            obtain ⟨x49, F50, F51, F52, S53, S54, G55, hd56⟩ := ex7 (D_X9_isCleared R C fq12_48 fq7_48 fq2_48 i1_48 i2_48 i3_48 i4_48 y3_48)
            replace hR := bnd7_use hd56 hR
            refine call_V (n := 1) (k0 := 6) (As := [.int (nI y3_48)]) (rest := []) hX hB (k_X9_isCleared κ l (w) s_0 q11 q12 q6 q7 q1 q2 R C fq12_48 fq7_48 fq2_48 i1_48 i2_48 i3_48 i4_48 (nI y3_48) y3_48 ⟨by omega, by omega, by omega, by omega⟩ (by omega) rfl (by omega) ((hRI.1 hM).2.2) ((hRI.1 hM).2.1) x49 F50 F51 F52 S53 S54 G55 hd56) ⟨rfl, by decide, by decide, by decide +kernel⟩ wm_6_184 wm_6_186 wp_41 wm_1_16 wm_6_187 ⟨Nat.le_of_ble_eq_true rfl, Nat.le_of_ble_eq_true rfl⟩ ⟨Nat.le_of_ble_eq_true rfl, Nat.le_of_ble_eq_true rfl⟩ rfl rfl rfl rfl hl.1 rfl (Nat.le_of_ble_eq_true rfl) dX9_init_76 (fun o w' H locs hp hB => ?_)
            obtain ⟨rfl, hf57, hf58, hw9⟩ := hp
            replace hB : Bd κ A s (lA κ q12 (C * 5) F50 :: gO q11 C C q12 :: lA κ q7 (R * 5) F51 :: gO q6 R R q7 :: lA κ q2 (R * 5) F52 :: gO q1 R C q2 :: (s_0, .inr (10, [.ref q1, .ref q6, .ref q11, .int S53, .int S54, .int i3_48, .int G55])) :: w) H locs := by rw [hw9] at hB; exact hB
            rcases hf57 with rfl | rfl
            · replace hR := ifp rfl hR
              refine W.eq (g2 := F0 m 79 ls [.int 0]) rfl ?_
              refine lv_istore_n (lv' := [(2, .int 0), (3, .int (nI y3_48)), (0, .ref s_0), (1, .ref g)]) hx hb dX9_init_79 rfl hl (by decide) rfl (fun ls hl => ?_)
              refine lv_aload_n hx hb dX9_init_80 rfl (lv_at hl 2 rfl) ?_
              refine lv_dup hx hb dX9_init_81 rfl ?_
              refine gf (k0 := 6) hX hB rfl rfl in9 5 (by decide) wm_6_231 rfl rfl dX9_init_82 ?_
              refine lv_iload_n hx hb dX9_init_85 rfl (lv_at hl 0 rfl) ?_
              refine lv_if_eq (tgt := 93) hx hb dX9_init_86 (by decide) (fun _ => ?_) (fun c59 => False.elim (by revert c59; decide))
              refine lv_iconst (v := 0) hx hb dX9_init_93 (by decide) ?_
              refine lv_iadd hx hb dX9_init_94 ?_
              refine pf (ty := .int) (k0 := 6) hX hB rfl rfl in9 tyX9_ok nmX9 5 (by decide) wm_6_231 rfl rfl rfl rfl rfl (Nat.le_of_ble_eq_true rfl) (w1 := lA κ q12 (C * 5) F50 :: gO q11 C C q12 :: lA κ q7 (R * 5) F51 :: gO q6 R R q7 :: lA κ q2 (R * 5) F52 :: gO q1 R C q2 :: (s_0, .inr (10, [.ref q1, .ref q6, .ref q11, .int S53, .int S54, .int (i3_48 + 0), .int G55])) :: w) rfl dX9_init_95 (fun H locs hB => ?_)
              refine lv_iinc (v := nI (y3_48 + 1)) (lv' := [(3, .int (nI (y3_48 + 1))), (2, .int 0), (0, .ref s_0), (1, .ref g)]) hx hb dX9_init_98 hl (k := 1) rfl (nI_add y3_48 1) (by decide) rfl (fun ls hl => ?_)
              refine lv_goto (tgt := 48) hx hb dX9_init_101 (by decide) ?_
              exact ih48 (y3_48 + 1) 0 F50 F52 F51 S53 S54 (i3_48 + 0) G55 _ _ (by omega) (RI_2 hRI hs2 hM (by omega) (by omega) hf58) (by omega) hR hB _ hl
            · replace hR := ifn (by decide) hR
              refine W.eq (g2 := F0 m 79 ls [.int 1]) rfl ?_
              refine lv_istore_n (lv' := [(2, .int 1), (3, .int (nI y3_48)), (0, .ref s_0), (1, .ref g)]) hx hb dX9_init_79 rfl hl (by decide) rfl (fun ls hl => ?_)
              refine lv_aload_n hx hb dX9_init_80 rfl (lv_at hl 2 rfl) ?_
              refine lv_dup hx hb dX9_init_81 rfl ?_
              refine gf (k0 := 6) hX hB rfl rfl in9 5 (by decide) wm_6_231 rfl rfl dX9_init_82 ?_
              refine lv_iload_n hx hb dX9_init_85 rfl (lv_at hl 0 rfl) ?_
              refine lv_if_eq (tgt := 93) hx hb dX9_init_86 (by decide) (fun c60 => False.elim (by revert c60; decide)) (fun _ => ?_)
              refine lv_iconst (v := 1) hx hb dX9_init_89 (by decide) ?_
              refine lv_goto (tgt := 94) hx hb dX9_init_90 (by decide) ?_
              refine lv_iadd hx hb dX9_init_94 ?_
              refine pf (ty := .int) (k0 := 6) hX hB rfl rfl in9 tyX9_ok nmX9 5 (by decide) wm_6_231 rfl rfl rfl rfl rfl (Nat.le_of_ble_eq_true rfl) (w1 := lA κ q12 (C * 5) F50 :: gO q11 C C q12 :: lA κ q7 (R * 5) F51 :: gO q6 R R q7 :: lA κ q2 (R * 5) F52 :: gO q1 R C q2 :: (s_0, .inr (10, [.ref q1, .ref q6, .ref q11, .int S53, .int S54, .int (i3_48 + 1), .int G55])) :: w) rfl dX9_init_95 (fun H locs hB => ?_)
              refine lv_iinc (v := nI (y3_48 + 1)) (lv' := [(3, .int (nI (y3_48 + 1))), (2, .int 1), (0, .ref s_0), (1, .ref g)]) hx hb dX9_init_98 hl (k := 1) rfl (nI_add y3_48 1) (by decide) rfl (fun ls hl => ?_)
              refine lv_goto (tgt := 48) hx hb dX9_init_101 (by decide) ?_
              exact ih48 (y3_48 + 1) 1 F50 F52 F51 S53 S54 (i3_48 + 1) G55 _ _ (by omega) (RI_1 hRI hs2 hM (by omega) (by omega) hf58) (by omega) hR hB _ hl
  exact lp48 _ 0 1 F13 F3 F8 1 1 0 0 _ _ (by omega) (RI_0 (fun k hk => by rw [hf5 k hk]; exact hng k hk) rfl) (Nat.lt_succ_self _) hR hB _ hl
