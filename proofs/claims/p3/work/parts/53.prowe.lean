/-- a table of the class and one of the reference -/
def CT (r : Nat → Int32) (f : Nat → Nat → Int64) (i R C : Nat) (g : Nat → Int64) : Prop := r (2 * i) = nI R ∧ r (2 * i + 1) = nI C ∧ ∀ k, k < 20 → f i k = cp (R * 5) g (fun _ => 0) k
section PRE
variable {r q : Nat → Int32} {f : Nat → Nat → Int64} {w v g : Nat → Int64} {R C i j rr c m : Nat} {s : Int32} {t : Int64}
theorem col_eq (hS : SH r R C) (hR : R ≤ 4) (hC : C ≤ 5) (hr : rr < R) (hc : c < C) (hq : q 0 = 0) (hF : Sf R C w v) : Fn R C q f (D_X4_clearColumn r q (cs f w v) (nI rr) (nI c)) (D_X8_isCleared R C v w s 0 rr c) := by
  unfold D_X4_clearColumn D_X8_isCleared
  rw [show gap 1000000 0 = 1000000 - 0 from gapN (a := 1000000) (b := 0) (by omega) (by omega)]
  refine all_eq hS hR hC hr hc hq 30 (1000000 - 0 + 1) (1000000000 + 1) 0 w v s 1 (by decide) hF (by omega) (by omega) (by omega) ?_
  by_cases h : ∀ i, rr ≤ i → i < R → w (i * 5 + c) = 0
  · exact Or.inl h
  · have ⟨i, hi⟩ := Classical.not_forall.mp h
    have ⟨h1, h2⟩ := Classical.not_imp.mp hi
    have ⟨h3, h4⟩ := Classical.not_imp.mp h2
    have h5 := ng_int (hF.1.1 (i * 5 + c) (by omega))
    exact Or.inr ⟨i, h1, h3, h4, by unfold na; omega⟩
theorem wk_l (hS : SH r R C) (hR : R ≤ 4) (hC : C ≤ 5) : ∀ n1 n2 y x : Nat, ∀ (w v : Nat → Int64) (q : Nat → Int32) (s : Int32), x ≤ R → y ≤ C → C - y < n1 → C - y < n2 → q 0 = 0 → Sf R C w v →
    ∃ (G s1 : Int32) (w1 v1 w2 v2 : Nat → Int64), (G = 0 ∨ G = 1) ∧ D_X4_walk_28 r n1 (nI y) (nI x) q (cs f w v) = (r, va_up q 0 G, cs f w1 v1) ∧ D_X8_init_32 R C n2 y x w v s 0 = (v2, w2, s1, G) ∧ (G = 0 → w2 = w1 ∧ v2 = v1 ∧ Sf R C w1 v1) := by
  intro n1
  induction n1 with
  | zero => intro n2 y x w v q s _ _ h; omega
  | succ n1 ih =>
    intro n2 y x w v q s hx hy h1 h2 hq hF
    obtain ⟨n2, rfl⟩ : ∃ n, n2 = n + 1 := ⟨n2 - 1, by omega⟩
    rw [D_X4_walk_28_s, D_X8_init_32_s, hS.2.1, hS.1]
    by_cases e : C ≤ y
    · rw [if_pos (ile e (by omega)), if_pos e]
      exact ⟨0, s, w, v, w, v, Or.inl rfl, by rw [vq0 hq], rfl, fun _ => ⟨rfl, rfl, hF⟩⟩
    · rw [if_neg (nile e (by omega)), if_neg e]
      by_cases e2 : R ≤ x
      · rw [if_pos (ile e2 (by omega)), if_pos e2]
        exact ⟨0, s, w, v, w, v, Or.inl rfl, by rw [vq0 hq], rfl, fun _ => ⟨rfl, rfl, hF⟩⟩
      · rw [if_neg (nile e2 (by omega)), if_neg e2, if_pos hq, if_pos rfl]
        obtain ⟨G, xc, xr0, s1', w1, v1, w2, v2, hG, g1, g2, g3⟩ := col_eq (r := r) (f := f) (s := s) hS hR hC (show x < R by omega) (show y < C by omega) hq hF
        rw [g1, g2]
        simp only [bnd3, bnd5]
        obtain ⟨n1, rfl⟩ : ∃ n, n1 = n + 1 := ⟨n1 - 1, by omega⟩
        obtain ⟨n2, rfl⟩ : ∃ n, n2 = n + 1 := ⟨n2 - 1, by omega⟩
        rcases hG with rfl | rfl
        · obtain ⟨rfl, hx01, rfl, rfl, hF1⟩ := g3 rfl
          rw [vq0 hq]
          rcases hx01 with rfl | rfl
          · rw [if_pos rfl, if_pos rfl, s1]
            exact ih (n2 + 1) (y + 1) x w2 v2 q s1' (by omega) (by omega) (by omega) (by omega) hq hF1
          · rw [if_neg (by decide), if_neg (by decide), s1, s1]
            exact ih (n2 + 1) (y + 1) (x + 1) w2 v2 q s1' (by omega) (by omega) (by omega) (by omega) hq hF1
        · refine ⟨1, s1', w1, v1, w2, v2, Or.inr rfl, ?_, ?_, fun h => absurd h (by decide)⟩
          · have hcl : ∀ z1 z2 : Int32, D_X4_walk_28 r (n1 + 1) z1 z2 (va_up q 0 1) (cs f w1 v1) = (r, va_up q 0 1, cs f w1 v1) := by
              intro z1 z2
              rw [D_X4_walk_28_s]
              split
              · rfl
              · split
                · rfl
                · rw [if_neg (by rw [vu_self]; decide)]
            split
            · exact hcl _ _
            · exact hcl _ _
          · have hrf : ∀ z1 z2 : Nat, D_X8_init_32 R C (n2 + 1) z1 z2 w2 v2 s1' 1 = (v2, w2, s1', 1) := by
              intro z1 z2
              rw [D_X8_init_32_s]
              split
              · rfl
              · split
                · rfl
                · rw [if_neg (by decide)]
            split
            · exact hrf _ _
            · exact hrf _ _
theorem ng0 : ng 0 := ⟨by decide, by decide⟩
theorem ng1 : ng 1 := ⟨by decide, by decide⟩
theorem un_ng {n : Nat} : ∀ k, ng (un n (fun _ => 0) k) := by
  intro k
  unfold un
  split
  · exact ng1
  · exact ng0
theorem un_zo {n : Nat} : zo n n (un n (fun _ => 0)) := by
  intro k hk h
  unfold un
  rw [if_neg (by omega)]
theorem un_cp {n : Nat} (h : n ≤ 4) {u : Nat → Int64} : un n (zf 20 u) = cp 20 (un n (fun _ => 0)) u := by
  funext k
  unfold un zf cp
  by_cases e : k < 20
  · rw [if_pos e, if_pos e]
  · rw [if_neg e, if_neg e, if_neg (by omega)]
theorem cp_ng (hg : ∀ k, k < R * 5 → ng (g k)) : ∀ k, ng (cp (R * 5) g (fun _ => 0) k) := by
  intro k
  unfold cp
  by_cases e : k < R * 5
  · rw [if_pos e]; exact hg k e
  · rw [if_neg e]; exact ng0
theorem cp_zo (hz : zc C (R * 5) g) : zo R C (cp (R * 5) g (fun _ => 0)) := by
  intro k hk h
  unfold cp
  by_cases e : k < R * 5
  · rw [if_pos e]; exact hz k e (by omega)
  · rw [if_neg e]
/-- the row steps of a table -/
theorem walk_eq (hT : CT r f i R C g) (h6 : i ≠ 6) (h7 : i ≠ 7) (h1 : 1 ≤ R) (hR : R ≤ 4) (h2 : 1 ≤ C) (hC : C ≤ 5) (hg : ∀ k, k < R * 5 → ng (g k)) (hz : zc C (R * 5) g) :
    ∃ (G s1 : Int32) (w1 v1 w2 v2 : Nat → Int64), (G = 0 ∨ G = 1) ∧ D_X4_walk r q f i = (rs (rs r 6 R C) 7 R R, va_up q 0 G, cs f w1 v1) ∧ D_X8_init R C g = (v2, w2, s1, G) ∧ (G = 0 → w2 = w1 ∧ v2 = v1 ∧ Sf R C w1 v1) := by
  obtain ⟨a1, a2, a3⟩ := hT
  unfold D_X4_walk D_X8_init
  rw [cbl a1 a2]
  simp only [bnd3, bnd1]
  rw [rs_R' h6, a1, cun h1 hR]
  simp only [bnd3]
  have hSH : SH (rs (rs r 6 R C) 7 R R) R C := ⟨(rs_R' (by decide)).trans rs_R, (rs_C' (by decide)).trans rs_C, rs_R, rs_C⟩
  have hf : va_up (va_up f 6 (cp 20 (f i) (f 6))) 7 (un R (zf 20 (va_up f 6 (cp 20 (f i) (f 6)) 7))) = cs f (cp (R * 5) g (fun _ => 0)) (un R (fun _ => 0)) := by
    unfold cs
    rw [vu_ne (show (7 : Nat) ≠ 6 by decide), un_cp hR]
    congr 2
    funext k
    by_cases e : k < 20
    · rw [cpl e, cpl e, a3 k e]
    · unfold cp; rw [if_neg e, if_neg e]
  rw [hf, hSH.2.1, show gap (nI C) 0 = C - 0 from gapN (b := 0) (by omega) (by omega), rcp, run]
  obtain ⟨G, s1', w1, v1, w2, v2, hG, g1, g2, g3⟩ := wk_l (f := f) hSH hR hC (C - 0 + 1) (C + 1 - 0 + 1) 0 0 (cp (R * 5) g (fun _ => 0)) (un R (fun _ => 0)) (va_up q 0 0) 1 (by omega) (by omega) (by omega) (by omega) vu_self ⟨⟨fun k _ => cp_ng hg k, fun k _ => un_ng k⟩, cp_zo hz, un_zo⟩
  refine ⟨G, s1', w1, v1, w2, v2, hG, ?_, g2, g3⟩
  rw [vu2] at g1
  exact g1
end PRE
