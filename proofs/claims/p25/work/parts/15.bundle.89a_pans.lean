section
-- 89a.pans
/-! ===== What is answered: house, told, the rest columns ===== -/
/-- what was thrown by these codes, or the answer -/
def Anc (cs : List (String × Int32)) (E : String) (x t x' : Int32) : Prop := (E = "" ∧ t = 0 ∧ x = x') ∨ ∃ c ∈ cs, E = c.1 ∧ t = c.2
/-- codes that tell each throw -/
def Cd (cs : List (String × Int32)) : Prop := ∀ c ∈ cs, c.1 ≠ "" ∧ c.2 ≠ 0 ∧ ∀ d ∈ cs, c.1 = d.1 → c.2 = d.2
abbrev cs2 : List (String × Int32) := [("java/lang/IndexOutOfBoundsException", 1), ("java/lang/IllegalArgumentException", 2)]
abbrev cs3 : List (String × Int32) := [("java/lang/IndexOutOfBoundsException", 1), ("java/lang/IllegalArgumentException", 2), ("java/lang/IllegalStateException", 3)]
abbrev csr : List (String × Int32) := [("java/lang/IndexOutOfBoundsException", 1), ("java/lang/IllegalArgumentException", 3), ("java/lang/IllegalStateException", 2)]
abbrev csh : List (String × Int32) := [("java/lang/IllegalArgumentException", 1)]
theorem cd2 : Cd cs2 := by unfold Cd; decide +kernel
theorem cd3 : Cd cs3 := by unfold Cd; decide +kernel
theorem cdr : Cd csr := by unfold Cd; decide +kernel
theorem cdh : Cd csh := by unfold Cd; decide +kernel
theorem Wc_anc {cs : List (String × Int32)} {E : String} {x k t x' : Int32} {n : Int64} (hc : Cd cs) (h : Wc cs E x k n) (hA : Anc cs E x t x') : t = k ∧ (k = 0 → n = x'.toInt64) := by
  rcases h with ⟨h1, h2, h3⟩ | ⟨c, hm, h1, h2⟩
  · rcases hA with ⟨_, a2, a3⟩ | ⟨d, dm, a1, _⟩
    · exact ⟨a2.trans h2.symm, fun _ => by rw [h3, a3]⟩
    · exact absurd (a1.symm.trans h1) (hc d dm).1
  · rcases hA with ⟨a1, _, _⟩ | ⟨d, dm, a1, a2⟩
    · exact absurd (h1.symm.trans a1) (hc c hm).1
    · exact ⟨by rw [a2, h2]; exact (hc d dm).2.2 c hm (a1.symm.trans h1), fun z => absurd (h2.symm.trans z) (hc c hm).2.1⟩
/-- both sides answer alike -/
def AW (cs : List (String × Int32)) (X : CRs) (Y : Int32 × (Nat → Int32)) : Prop := Anc cs X.1 X.2.1 (Y.2 3) Y.1
section PAN
variable {r q r1 q1 : Nat → Int32} {f f1 : Nat → Nat → Int64} {r' : Nat → Nat} {f' : Nat → Nat → Int64} {q' Q : Nat → Int32} {R C i n m a b : Nat} {x x' y z p u v t : Int32} {cs : List (String × Int32)} {E : String}
theorem aw_e (c : (E, t) ∈ cs) : AW cs (E, x, r, q, f) (x', va_up Q 3 t) := Or.inr ⟨(E, t), c, rfl, (vu_self : va_up Q 3 t 3 = t)⟩
theorem aw_v (hx : x = x') : AW cs ("", x, r, q, f) (x', va_up Q 3 0) := Or.inl ⟨rfl, (vu_self : va_up Q 3 0 3 = 0), hx⟩
theorem th3_000 {a b c d : Int32} : D_X10_isThrown a b c d 0 0 0 = (0, 0) := rfl
theorem th3_001 {a b c d : Int32} : D_X10_isThrown a b c d 0 0 1 = (1, 3) := rfl
theorem th3_010 {a b c d : Int32} : D_X10_isThrown a b c d 0 1 0 = (1, 2) := rfl
theorem th3_011 {a b c d : Int32} : D_X10_isThrown a b c d 0 1 1 = (1, 2) := rfl
theorem fo5 (h0 : ¬ p < 0) (h4 : p ≤ 4) : p = 0 ∨ p = 1 ∨ p = 2 ∨ p = 3 ∨ p = 4 := by
  obtain ⟨k, hk, rfl⟩ := nI_of h0
  have hk4 : k ≤ 4 := (nleP hk (by omega : 4 < 2 ^ 31)).mp h4
  rcases (show k = 0 ∨ k = 1 ∨ k = 2 ∨ k = 3 ∨ k = 4 by omega) with rfl | rfl | rfl | rfl | rfl
  · exact Or.inl rfl
  · exact Or.inr (Or.inl rfl)
  · exact Or.inr (Or.inr (Or.inl rfl))
  · exact Or.inr (Or.inr (Or.inr (Or.inl rfl)))
  · exact Or.inr (Or.inr (Or.inr (Or.inr rfl)))
theorem tj0 {w1 : Int32} : D_X5_told_j86 r q f z u v n 0 = ("java/lang/IllegalArgumentException", 0, r, q, f) := by
  unfold D_X5_told_j86
  rw [bnd1_e, ia0, if_neg e_ne2]
/-- told, behind the look at the form's number -/
theorem told_core (h : Rl r q f r' f' q') (hn : n < 4) (h0 : ¬ z < 0) (h4 : z ≤ 4) (hR : R ≤ 4) (hC : C ≤ 4) : AW cs3 (D_X5_told_j57 r q f z u v n (nI R) (nI C)) (if u < 0 then (0, va_up Q 3 2) else if nI R ≤ u then (0, va_up Q 3 2) else if v < 0 then (0, va_up Q 3 2) else if v < nI C then bnd4 (D_X10_toldOf (r' (2 * n)) (r' (2 * n + 1)) (f' n) z) (fun z1 _ _ F => if z1 = 0 then (0, va_up (va_up Q 3 0) 3 3) else ((F (u.toNatClampNeg * 5 + v.toNatClampNeg)).toInt32, va_up (va_up Q 3 0) 3 0)) else (0, va_up Q 3 2)) := by
  have hE : ("java/lang/IllegalArgumentException", (2 : Int32)) ∈ cs3 := List.mem_cons_of_mem _ List.mem_cons_self
  unfold D_X5_told_j57
  by_cases u0 : u < 0
  · rw [if_pos u0, if_pos u0, tj0 (w1 := 0)]; exact aw_e hE
  · rw [if_neg u0, if_neg u0]
    by_cases u1 : nI R ≤ u
    · rw [if_pos u1, if_pos u1, tj0 (w1 := 0)]; exact aw_e hE
    · rw [if_neg u1, if_neg u1]
      by_cases v0 : v < 0
      · rw [if_pos v0, if_pos v0, tj0 (w1 := 0)]; exact aw_e hE
      · rw [if_neg v0, if_neg v0]
        by_cases v1 : nI C ≤ v
        · rw [if_pos v1, if_neg (Int32.not_lt.mpr v1), tj0 (w1 := 0)]; exact aw_e hE
        · rw [if_neg v1, if_pos (Int32.not_le.mp v1)]
          obtain ⟨a, ha, rfl⟩ := nI_of u0
          obtain ⟨b, hb, rfl⟩ := nI_of v0
          rw [nleP (by omega) ha] at u1
          rw [nleP (by omega) hb] at v1
          unfold D_X5_told_j86
          rw [bnd1_e, ia1, if_pos rfl, nI_clamp ha, nI_clamp hb]
          rcases form_eq h hn h0 h4 with ⟨i, r1, q1, f1, R2, C2, w, i1, i2, e1, e2, hR, hF⟩ | ⟨r1, q1, f1, e1, e2, hR⟩
          · rw [e1, e2]
            dsimp only [bnd4, bnd1]
            rw [if_neg i1, if_neg one0, cget (by omega) (by omega), hF.2.2.2.1 _ (by omega)]
            exact aw_v rfl
          · rw [e1, e2]
            dsimp only [bnd4, bnd1]
            rw [if_pos rfl, if_pos rfl]
            exact aw_e (List.mem_cons_of_mem _ (List.mem_cons_of_mem _ List.mem_cons_self))
set_option maxHeartbeats 4000000 in
set_option maxRecDepth 100000 in
theorem an_told (h : Rl r q f r' f' q') : AW cs3 (D_X5_told r q f y z u v) (D_X10_told_ r' f' q' y z u v) := by
  unfold D_X5_told D_X10_told_
  rcases ntb (r := r) (q := q) (f := f) (p := y) with ⟨n, hn, rfl, h1, h2, h3⟩ | ⟨E, x1, x2, h1, h2⟩
  · rw [h1, h2]
    dsimp only [bnd2, bnd1]
    rw [if_pos rfl, if_neg one0, h3]
    simp only [th1_0, th2_01, th2_00, th3_000, th3_001]
    have hT := h.1 n hn
    have hb := hT.2.1
    have hE : ("java/lang/IllegalArgumentException", (2 : Int32)) ∈ cs3 := List.mem_cons_of_mem _ List.mem_cons_self
    unfold D_X5_isForm
    by_cases p1 : z < 0
    · simp only [if_pos p1, ite_self]
      rw [ia0, if_neg e_ne2]
      exact aw_e hE
    · by_cases p2 : 4 < z
      · simp only [if_neg p1, if_pos p2, ite_self]
        rw [ia0, if_neg e_ne2]
        exact aw_e hE
      · have p4 : z ≤ 4 := Int32.not_lt.mp p2
        simp only [if_neg p1, if_neg p2]
        rw [ia1, if_pos rfl]
        unfold D_X5_told_j32
        rcases fo5 p1 p4 with e | e | e | e | e
        · simp only [if_neg (show ¬ z = 4 by rw [e]; decide), if_neg (show ¬ z = 1 by rw [e]; decide), if_neg (show ¬ z = 3 by rw [e]; decide)]
          rw [hT.1.1, hT.1.2.1]
          exact told_core h hn p1 p4 hb.2.1 hb.2.2.2
        · simp only [if_neg (show ¬ z = 4 by rw [e]; decide), if_pos (show z = 1 from e)]
          rw [hT.1.1]
          exact told_core h hn p1 p4 hb.2.1 hb.2.1
        · simp only [if_neg (show ¬ z = 4 by rw [e]; decide), if_neg (show ¬ z = 1 by rw [e]; decide), if_neg (show ¬ z = 3 by rw [e]; decide)]
          rw [hT.1.1, hT.1.2.1]
          exact told_core h hn p1 p4 hb.2.1 hb.2.2.2
        · simp only [if_neg (show ¬ z = 4 by rw [e]; decide), if_neg (show ¬ z = 1 by rw [e]; decide), if_pos (show z = 3 from e)]
          rw [hT.1.1]
          exact told_core h hn p1 p4 hb.2.1 hb.2.1
        · simp only [if_neg (show ¬ z = 1 by rw [e]; decide), if_neg (show ¬ z = 3 by rw [e]; decide), if_pos (show z = 4 from e)]
          rw [hT.1.2.1]
          exact told_core h hn p1 p4 hb.2.2.2 hb.2.2.2
  · rw [h1, h2]
    dsimp only [bnd2, bnd1]
    rw [if_neg x1, if_pos rfl, x2]
    exact aw_e List.mem_cons_self
theorem rcj {w1 t1 : Int32} : D_X5_restColumn_j77 z u r q f t1 0 = ("java/lang/IllegalArgumentException", 0, r, q, f) := by
  unfold D_X5_restColumn_j77
  rw [bnd1_e, ia0, if_neg e_ne2]
set_option maxHeartbeats 4000000 in
set_option maxRecDepth 100000 in
theorem an_restColumn (h : Rl r q f r' f' q') : AW csr (D_X5_restColumn r q f y z u) (D_X10_restColumn r' f' q' y z u) := by
  unfold D_X5_restColumn D_X10_restColumn
  rcases ntb (r := r) (q := q) (f := f) (p := y) with ⟨n, hn, rfl, h1, h2, h3⟩ | ⟨E, x1, x2, h1, h2⟩
  · rw [h1, h2]
    dsimp only [bnd2, bnd1]
    rw [if_pos rfl, if_neg one0, h3]
    have hT := h.1 n hn
    have hb := hT.2.1
    have hA : ("java/lang/IllegalArgumentException", (3 : Int32)) ∈ csr := List.mem_cons_of_mem _ List.mem_cons_self
    have hS : ("java/lang/IllegalStateException", (2 : Int32)) ∈ csr := List.mem_cons_of_mem _ (List.mem_cons_of_mem _ List.mem_cons_self)
    obtain ⟨G, j1, j2, K, w1, v1, u1, w2, v2, u2, hG, e1, e2, e3⟩ := dwalk_eq (q := q) hT.1 (show n ≠ 8 by omega) (show n ≠ 9 by omega) (show n ≠ 10 by omega) hb.1 hb.2.1 hb.2.2.1 hb.2.2.2 (sw_of hT) hT.2.2.2
    rw [e1, e2]
    dsimp only [bnd3, bnd7]
    have hC : (rs (rs (rs r 8 (r' (2 * n)) (r' (2 * n + 1))) 9 (r' (2 * n)) (r' (2 * n))) 10 (r' (2 * n + 1)) (r' (2 * n + 1))) (2 * n + 1) = nI (r' (2 * n + 1)) := (rs_C' (by omega)).trans ((rs_C' (by omega)).trans ((rs_C' (by omega)).trans hT.1.2.1))
    rcases hG with rfl | rfl
    · obtain ⟨rfl, rfl, rfl, hSd, hK⟩ := e3 rfl
      rw [if_pos (show va_up q 1 0 1 = 0 from vu_self)]
      unfold D_X5_restColumn_j31
      rw [bnd1_e, is1, if_pos rfl, crank (K := K) (w := w2) ((rs_R' (by decide)).trans ((rs_R' (by decide)).trans rs_R)) ((rs_C' (by decide)).trans ((rs_C' (by decide)).trans rs_C)) hb.2.1 hb.2.2.2 (fun k hk => by rw [ds8, cpl hk]) hK, bnd1_e, hC, nI_sub hK.2.1]
      by_cases z0 : z < 0
      · rw [if_pos z0, if_pos z0, rcj (w1 := 0)]; exact aw_e hA
      · rw [if_neg z0, if_neg z0]
        by_cases z1 : nI (r' (2 * n + 1) - K) ≤ z
        · rw [if_pos z1, if_pos z1, rcj (w1 := 0)]; exact aw_e hA
        · rw [if_neg z1, if_neg z1]
          by_cases u0 : u < 0
          · rw [if_pos u0, if_pos u0, rcj (w1 := 0)]; exact aw_e hA
          · rw [if_neg u0, if_neg u0]
            by_cases v1 : nI (r' (2 * n + 1)) ≤ u
            · rw [if_pos v1, if_neg (Int32.not_lt.mpr v1), rcj (w1 := 0)]; exact aw_e hA
            · rw [if_neg v1, if_pos (Int32.not_le.mp v1)]
              obtain ⟨a, ha, rfl⟩ := nI_of u0
              obtain ⟨b, hb2, rfl⟩ := nI_of z0
              rw [nleP (by omega) ha] at v1
              rw [nleP (by omega) hb2] at z1
              unfold D_X5_restColumn_j77
              rw [bnd1_e, ia1, if_pos rfl, nI_add, cget (show a < 4 by omega) (show K + b < 5 by omega), bnd1_e, ds10, cpl (show a * 5 + (K + b) < 20 by omega), nI_clamp ha, nI_clamp hb2, th3_000]
              dsimp only
              rw [if_pos rfl]
              exact aw_v rfl
    · rw [if_neg (show ¬ va_up q 1 1 1 = 0 by rw [vu_self]; decide)]
      unfold D_X5_restColumn_j31
      rw [bnd1_e, is0, if_neg e_ne3, th3_010, th3_011]
      dsimp only
      rw [if_neg one0]
      simp only [ite_self]
      exact aw_e hS
  · rw [h1, h2]
    dsimp only [bnd2, bnd1]
    rw [if_neg x1, if_pos rfl, x2]
    exact aw_e List.mem_cons_self
/-- tables alike, counted by pairs -/
noncomputable def lk (r q : Nat → Int32) (f : Nat → Nat → Int64) (i j : Nat) (X : Int32) : Int32 := if D_X3_isLike r q f i j = 0 then X else X + 1
noncomputable def sk (r' : Nat → Nat) (f' : Nat → Nat → Int64) (i j : Nat) (X : Nat) : Nat := if D_X7_isSame (r' (2 * i)) (r' (2 * i + 1)) (f' i) (r' (2 * j)) (r' (2 * j + 1)) (f' j) = 0 then X else X + 1
theorem clp_s {lb : Int32 → Int32 → Int32} {i j k : Nat} {X : Int32} (hi : i < 4) (hj : j < 4) : D_X5_countLikePairs_13 r q f lb (nI i) (k + 1) (nI j) X = D_X5_countLikePairs_13 r q f lb (nI i) k (nI (j + 1)) (lk r q f i j X) := by
  rw [D_X5_countLikePairs_13_s, if_neg (nile4 hj), bnd1_e, s1, nI_clamp (show i < 2 ^ 31 by omega), nI_clamp (show j < 2 ^ 31 by omega)]
  unfold lk
  by_cases e : D_X3_isLike r q f i j = 0
  · rw [if_pos e, if_pos e]
  · rw [if_neg e, if_neg e]
theorem clp_e {lb : Int32 → Int32 → Int32} {w : Int32} {k : Nat} {X : Int32} : D_X5_countLikePairs_13 r q f lb w (k + 1) (nI 4) X = lb (w + 1) X := by
  rw [D_X5_countLikePairs_13_s, if_pos (show (4 : Int32) ≤ nI 4 by decide)]
theorem clp_o {i k : Nat} {X : Int32} (hi : i < 4) : D_X5_countLikePairs_4 r q f (k + 1) (nI i) X = D_X5_countLikePairs_13 r q f (D_X5_countLikePairs_4 r q f k) (nI i) (4 - (i + 1) + 1) (nI (i + 1)) X := by
  rw [D_X5_countLikePairs_4_s, if_neg (nile4 hi), s1, show gap 4 (nI (i + 1)) = 4 - (i + 1) from gapN (a := 4) (by omega) (by omega)]
theorem clp : D_X5_countLikePairs r q f = lk r q f 2 3 (lk r q f 1 3 (lk r q f 1 2 (lk r q f 0 3 (lk r q f 0 2 (lk r q f 0 1 0))))) := by
  unfold D_X5_countLikePairs
  rw [show gap 4 0 + 1 = 4 + 1 from congrArg (· + 1) (gapN (a := 4) (b := 0) (by omega) (by omega))]
  show D_X5_countLikePairs_4 r q f (4 + 1) (nI 0) 0 = _
  rw [clp_o (by decide)]
  show D_X5_countLikePairs_13 r q f (D_X5_countLikePairs_4 r q f (3 + 1)) (nI 0) (3 + 1) (nI 1) 0 = _
  rw [clp_s (by decide) (by decide), clp_s (k := 2 - 0) (by decide) (by decide)]
  show D_X5_countLikePairs_13 r q f (D_X5_countLikePairs_4 r q f (3 + 1)) (nI 0) (1 + 1) (nI 3) (lk r q f 0 2 (lk r q f 0 1 0)) = _
  rw [clp_s (by decide) (by decide), clp_e, s1, clp_o (by decide)]
  show D_X5_countLikePairs_13 r q f (D_X5_countLikePairs_4 r q f (2 + 1)) (nI 1) (2 + 1) (nI 2) _ = _
  rw [clp_s (by decide) (by decide), clp_s (k := 1 - 0) (by decide) (by decide)]
  show D_X5_countLikePairs_13 r q f (D_X5_countLikePairs_4 r q f (2 + 1)) (nI 1) (0 + 1) (nI 4) _ = _
  rw [clp_e, s1, clp_o (by decide)]
  show D_X5_countLikePairs_13 r q f (D_X5_countLikePairs_4 r q f (1 + 1)) (nI 2) (1 + 1) (nI 3) _ = _
  rw [clp_s (by decide) (by decide)]
  show D_X5_countLikePairs_13 r q f (D_X5_countLikePairs_4 r q f (1 + 1)) (nI 2) (0 + 1) (nI 4) _ = _
  rw [clp_e, s1, clp_o (by decide)]
  show D_X5_countLikePairs_13 r q f (D_X5_countLikePairs_4 r q f (0 + 1)) (nI 3) (0 + 1) (nI 4) _ = _
  rw [clp_e, s1, D_X5_countLikePairs_4_s, if_pos (show (4 : Int32) ≤ nI (3 + 1) by decide)]
theorem rlp_s {lb : Nat → Nat → Int32} {i j k X : Nat} (h : j < i) : D_X10_houseNow_45 r' f' lb i (k + 1) j X = D_X10_houseNow_45 r' f' lb i k (j + 1) (sk r' f' i j X) := by
  rw [D_X10_houseNow_45_s, if_neg (by omega), bnd1_e]
  unfold sk
  by_cases e : D_X7_isSame (r' (2 * i)) (r' (2 * i + 1)) (f' i) (r' (2 * j)) (r' (2 * j + 1)) (f' j) = 0
  · rw [if_pos e, if_pos e]; rfl
  · rw [if_neg e, if_neg e]
theorem rlp_e {lb : Nat → Nat → Int32} {i k X : Nat} : D_X10_houseNow_45 r' f' lb i (k + 1) i X = lb (i + 1) X := by
  rw [D_X10_houseNow_45_s, if_pos (Nat.le_refl i)]
theorem rlp_o {i k X : Nat} (h : i < 4) : D_X10_houseNow_37 r' f' (k + 1) i X = D_X10_houseNow_45 r' f' (D_X10_houseNow_37 r' f' k) i (i + 1 + 1) 0 X := by
  rw [D_X10_houseNow_37_s, if_neg (by omega)]
  rfl
theorem rlp : D_X10_houseNow_37 r' f' (5 + 1) 0 0 = nI (sk r' f' 3 2 (sk r' f' 3 1 (sk r' f' 3 0 (sk r' f' 2 1 (sk r' f' 2 0 (sk r' f' 1 0 0)))))) := by
  rw [rlp_o (by decide), rlp_e]
  show D_X10_houseNow_37 r' f' (4 + 1) 1 0 = _
  rw [rlp_o (by decide), rlp_s (by decide), rlp_e]
  show D_X10_houseNow_37 r' f' (3 + 1) 2 _ = _
  rw [rlp_o (by decide), rlp_s (by decide)]
  show D_X10_houseNow_45 r' f' (D_X10_houseNow_37 r' f' 3) 2 (2 + 1) 1 _ = _
  rw [rlp_s (by decide), rlp_e]
  show D_X10_houseNow_37 r' f' (2 + 1) 3 _ = _
  rw [rlp_o (by decide), rlp_s (by decide)]
  show D_X10_houseNow_45 r' f' (D_X10_houseNow_37 r' f' 2) 3 (3 + 1) 1 _ = _
  rw [rlp_s (by decide)]
  show D_X10_houseNow_45 r' f' (D_X10_houseNow_37 r' f' 2) 3 (2 + 1) 2 _ = _
  rw [rlp_s (by decide), rlp_e]
  show D_X10_houseNow_37 r' f' (1 + 1) 4 _ = _
  rw [D_X10_houseNow_37_s, if_pos (by decide)]
theorem lk_sk (h : Rl r q f r' f' q') {i j : Nat} (hi : i < 4) (hj : j < 4) : ∃ b : Nat, (∀ X, lk r q f i j X = X + nI b) ∧ ∀ X, sk r' f' j i X = X + b := by
  unfold lk sk
  rcases like_eq (q := q) (h.1 i hi) (h.1 j hj) with ⟨a1, a2, a3⟩ | ⟨a1, a2, a3⟩
  · exact ⟨1, fun X => by rw [a1, if_neg one0]; rfl, fun X => by rw [a3, if_neg one0]⟩
  · exact ⟨0, fun X => by rw [a1, if_pos rfl]; exact (Int32.add_zero X).symm, fun X => by rw [a3, if_pos rfl]; rfl⟩
theorem pairs_eq (h : Rl r q f r' f' q') : D_X5_countLikePairs r q f = D_X10_houseNow_37 r' f' (5 + 1) 0 0 := by
  rw [clp, rlp]
  obtain ⟨b1, c1, d1⟩ := lk_sk h (i := 0) (j := 1) (by decide) (by decide)
  obtain ⟨b2, c2, d2⟩ := lk_sk h (i := 0) (j := 2) (by decide) (by decide)
  obtain ⟨b3, c3, d3⟩ := lk_sk h (i := 0) (j := 3) (by decide) (by decide)
  obtain ⟨b4, c4, d4⟩ := lk_sk h (i := 1) (j := 2) (by decide) (by decide)
  obtain ⟨b5, c5, d5⟩ := lk_sk h (i := 1) (j := 3) (by decide) (by decide)
  obtain ⟨b6, c6, d6⟩ := lk_sk h (i := 2) (j := 3) (by decide) (by decide)
  rw [c1, c2, c3, c4, c5, c6, d1, d2, d3, d4, d5, d6, show (0 : Int32) = nI 0 from rfl, nI_add, nI_add, nI_add, nI_add, nI_add, nI_add]
  exact congrArg nI (by omega)
theorem house_eq (h : Rl r q f r' f' q') (h0 : ¬ p < 0) (h4 : p ≤ 3) {t : Int32} : D_X5_countHouse r q f p = D_X10_houseNow r' f' (va_up q' 3 t) p := by
  unfold D_X5_countHouse D_X10_houseNow
  have hp : p = 0 ∨ p = 1 ∨ p = 2 ∨ p = 3 := by
    rcases fo5 h0 (Int32.le_trans h4 (by decide)) with e | e | e | e | rfl
    · exact Or.inl e
    · exact Or.inr (Or.inl e)
    · exact Or.inr (Or.inr (Or.inl e))
    · exact Or.inr (Or.inr (Or.inr e))
    · exact absurd h4 (by decide)
  rcases hp with rfl | rfl | rfl | rfl
  · simp only [if_pos (show (0 : Int32) = 0 from rfl), if_neg (show ¬ (3 : Int32) ≤ 0 by decide)]; exact h.2.1
  · simp only [if_neg (show ¬ (1 : Int32) = 0 by decide), if_pos (show (1 : Int32) = 1 from rfl), if_neg (show ¬ (3 : Int32) ≤ 1 by decide)]; exact h.2.2.1
  · simp only [if_neg (show ¬ (2 : Int32) = 0 by decide), if_neg (show ¬ (2 : Int32) = 1 by decide), if_pos (show (2 : Int32) = 2 from rfl), if_neg (show ¬ (3 : Int32) ≤ 2 by decide)]; exact h.2.2.2
  · simp only [if_neg (show ¬ (3 : Int32) = 0 by decide), if_neg (show ¬ (3 : Int32) = 1 by decide), if_neg (show ¬ (3 : Int32) = 2 by decide), if_pos (show (3 : Int32) ≤ 3 by decide)]; rw [bnd1_e]; exact pairs_eq h
set_option maxHeartbeats 4000000 in
set_option maxRecDepth 100000 in
theorem an_house (h : Rl r q f r' f' q') : AW csh (D_X5_house r q f y) (D_X10_house r' f' q' y) := by
  unfold D_X5_house D_X10_house
  have hj : D_X5_house_j14 r q f y 0 = ("java/lang/IllegalArgumentException", 0, r, q, f) := by
    unfold D_X5_house_j14
    rw [bnd1_e, ia0, if_neg e_ne2]
  by_cases y0 : y < 0
  · rw [if_pos y0, if_pos y0, hj, th1_1]
    exact aw_e List.mem_cons_self
  · rw [if_neg y0, if_neg y0]
    by_cases y3 : 3 < y
    · rw [if_pos y3, if_neg (Int32.not_le.mpr y3), hj, th1_1]
      exact aw_e List.mem_cons_self
    · rw [if_neg y3, if_pos (Int32.not_lt.mp y3), th1_0]
      unfold D_X5_house_j14
      rw [bnd1_e, ia1, if_pos rfl, bnd1_e, bnd2_e, bnd1_e, house_eq h y0 (Int32.not_lt.mp y3) (t := 0)]
      exact aw_v rfl
end PAN
end
section
-- 89b.pmin
/-! ===== Minors of both sides are the same ===== -/
section PMN
variable {r q : Nat → Int32} {f : Nat → Nat → Int64} {i R C x y ρ : Nat} {F G rec rec' : Nat → Int64}
theorem mf_cg {n : Nat} (h0 : ∀ j, j < n → F (ρ * 5 + j) = G (ρ * 5 + j)) (h : ∀ j, j < n → ¬ y / 2 ^ j % 2 = 0 → rec (y - 2 ^ j) = rec' (y - 2 ^ j)) : mfold F rec ρ y n = mfold G rec' ρ y n := by
  induction n with
  | zero => rfl
  | succ n ih =>
    rw [mf_s, mf_s, ih (fun j hj => h0 j (by omega)) (fun j hj => h j (by omega))]
    by_cases e : y / 2 ^ n % 2 = 0
    · rw [if_pos e, if_pos e]
    · rw [if_neg e, if_neg e, h n (by omega) e, h0 n (by omega)]
theorem mf_ext {n m : Nat} (hnm : n ≤ m) (h : ∀ j, n ≤ j → j < m → y / 2 ^ j % 2 = 0) : mfold F rec ρ y m = mfold F rec ρ y n := by
  induction m with
  | zero => rw [show n = 0 by omega]
  | succ m ih =>
    by_cases e : n = m + 1
    · rw [e]
    · rw [mf_s, if_pos (h m (by omega) (by omega))]
      exact ih (by omega) (fun j h1 h2 => h j h1 (by omega))
/-- the class's minors: so many rows are left -/
def oR (F : Nat → Int64) : Nat → Nat → Nat → Int64
  | 0, _, _ => 1
  | k + 1, x, y => if x / 2 ^ (3 - k) % 2 = 0 then oR F k x y else (mfold F (oR F k x) (3 - k) y 5).1
theorem bit1 {b : Nat} (h : ¬ b % 2 = 0) : ¬ nI (b % 2) = 0 := by
  rw [show b % 2 = 1 by omega]; decide
theorem bit0 {b : Nat} (h : b % 2 = 0) : nI (b % 2) = 0 := by
  rw [h]; rfl
theorem ofr_0 : D_X0_ofRest_0 r q f i (nI x) (nI y) (nI 4) = oR (f i) 0 x y := by
  unfold D_X0_ofRest_0
  rw [if_neg (show ¬ nI 4 < (4 : Int32) by decide)]
  rfl
theorem ofl_1 (hr : ∀ y', y' < 32 → D_X0_ofRest_0 r q f i (nI x) (nI y') (nI 3 + 1) = oR (f i) 0 x y') (hy : y < 32) : ∀ n j : Nat, j ≤ 5 → 5 - j < n → ∀ (d : Int32) (s : Int64), s = (mfold (f i) (oR (f i) 0 x) 3 y j).1 → (d = 0 ∧ (mfold (f i) (oR (f i) 0 x) 3 y j).2 = 1 ∨ d = 1 ∧ (mfold (f i) (oR (f i) 0 x) 3 y j).2 = -1) → D_X0_ofRest_1_34 r q f i (nI x) (nI y) (nI 3) n (nI j) d s = (mfold (f i) (oR (f i) 0 x) 3 y 5).1 := by
  intro n
  induction n with
  | zero => intro j _ h; omega
  | succ n ih =>
    intro j hj hn d s hs hd
    rw [D_X0_ofRest_1_34_s]
    by_cases e : 5 ≤ j
    · rw [if_pos (show (5 : Int32) ≤ nI j from ile (a := 5) e (by omega)), hs, show j = 5 by omega]
    · rw [if_neg (nile5 (by omega)), fmb y hy j (by omega)]
      by_cases c : y / 2 ^ j % 2 = 0
      · rw [if_pos (bit0 c), s1]
        exact ih (j + 1) (by omega) (by omega) d s (by rw [mf_s, if_pos c]; exact hs) (by rw [mf_s, if_pos c]; exact hd)
      · rw [if_neg (bit1 c), bnd1_e, bnd1_e, cget (show 3 < 4 by decide) (show j < 5 by omega), fmc y hy j (by omega) c, hr (y - 2 ^ j) (Nat.lt_of_le_of_lt (Nat.sub_le _ _) hy)]
        have h3 := mf_s (f := f i) (rec := oR (f i) 0 x) (r := 3) (y := y) (j := j)
        rw [if_neg c] at h3
        rcases hd with ⟨rfl, hd⟩ | ⟨rfl, hd⟩
        · rw [if_pos rfl, D_X0_ofRest_1_j90_s, if_pos rfl, s1]
          refine ih (j + 1) (by omega) (by omega) 1 _ ?_ (Or.inr ⟨rfl, ?_⟩)
          · rw [h3, hd, t64a, hs]
            grind
          · rw [h3, hd]
        · rw [if_neg one0, D_X0_ofRest_1_j90_s, if_neg one0, s1]
          refine ih (j + 1) (by omega) (by omega) 0 _ ?_ (Or.inl ⟨rfl, ?_⟩)
          · rw [h3, hd, t64b, hs]
            grind
          · rw [h3, hd]
            exact (by decide : -(-1 : Int32) = 1)
theorem ofr_1 (hx : x < 16) (hy : y < 32) : D_X0_ofRest_1 r q f i (nI x) (nI y) (nI 3) = oR (f i) 1 x y := by
  unfold D_X0_ofRest_1
  have hr : ∀ y', y' < 32 → D_X0_ofRest_0 r q f i (nI x) (nI y') (nI 3 + 1) = oR (f i) 0 x y' := fun y' h' => by
    rw [s1]; exact ofr_0
  rw [if_pos (show nI 3 < (4 : Int32) by decide), fmb x (by omega) 3 (by decide)]
  show _ = if x / 2 ^ 3 % 2 = 0 then oR (f i) 0 x y else (mfold (f i) (oR (f i) 0 x) 3 y 5).1
  by_cases c : x / 2 ^ 3 % 2 = 0
  · rw [if_pos (bit0 c), if_pos c, bnd1_e]
    exact hr y hy
  · rw [if_neg (bit1 c), if_neg c, show gap 5 0 = 5 from gapN (a := 5) (b := 0) (by omega) (by omega)]
    exact ofl_1 hr hy (5 + 1) 0 (by omega) (by omega) 0 0 rfl (Or.inl ⟨rfl, rfl⟩)
theorem ofl_2 (hr : ∀ y', y' < 32 → D_X0_ofRest_1 r q f i (nI x) (nI y') (nI 2 + 1) = oR (f i) 1 x y') (hy : y < 32) : ∀ n j : Nat, j ≤ 5 → 5 - j < n → ∀ (d : Int32) (s : Int64), s = (mfold (f i) (oR (f i) 1 x) 2 y j).1 → (d = 0 ∧ (mfold (f i) (oR (f i) 1 x) 2 y j).2 = 1 ∨ d = 1 ∧ (mfold (f i) (oR (f i) 1 x) 2 y j).2 = -1) → D_X0_ofRest_2_34 r q f i (nI x) (nI y) (nI 2) n (nI j) d s = (mfold (f i) (oR (f i) 1 x) 2 y 5).1 := by
  intro n
  induction n with
  | zero => intro j _ h; omega
  | succ n ih =>
    intro j hj hn d s hs hd
    rw [D_X0_ofRest_2_34_s]
    by_cases e : 5 ≤ j
    · rw [if_pos (show (5 : Int32) ≤ nI j from ile (a := 5) e (by omega)), hs, show j = 5 by omega]
    · rw [if_neg (nile5 (by omega)), fmb y hy j (by omega)]
      by_cases c : y / 2 ^ j % 2 = 0
      · rw [if_pos (bit0 c), s1]
        exact ih (j + 1) (by omega) (by omega) d s (by rw [mf_s, if_pos c]; exact hs) (by rw [mf_s, if_pos c]; exact hd)
      · rw [if_neg (bit1 c), bnd1_e, bnd1_e, cget (show 2 < 4 by decide) (show j < 5 by omega), fmc y hy j (by omega) c, hr (y - 2 ^ j) (Nat.lt_of_le_of_lt (Nat.sub_le _ _) hy)]
        have h3 := mf_s (f := f i) (rec := oR (f i) 1 x) (r := 2) (y := y) (j := j)
        rw [if_neg c] at h3
        rcases hd with ⟨rfl, hd⟩ | ⟨rfl, hd⟩
        · rw [if_pos rfl, D_X0_ofRest_2_j90_s, if_pos rfl, s1]
          refine ih (j + 1) (by omega) (by omega) 1 _ ?_ (Or.inr ⟨rfl, ?_⟩)
          · rw [h3, hd, t64a, hs]
            grind
          · rw [h3, hd]
        · rw [if_neg one0, D_X0_ofRest_2_j90_s, if_neg one0, s1]
          refine ih (j + 1) (by omega) (by omega) 0 _ ?_ (Or.inl ⟨rfl, ?_⟩)
          · rw [h3, hd, t64b, hs]
            grind
          · rw [h3, hd]
            exact (by decide : -(-1 : Int32) = 1)
theorem ofr_2 (hx : x < 16) (hy : y < 32) : D_X0_ofRest_2 r q f i (nI x) (nI y) (nI 2) = oR (f i) 2 x y := by
  unfold D_X0_ofRest_2
  have hr : ∀ y', y' < 32 → D_X0_ofRest_1 r q f i (nI x) (nI y') (nI 2 + 1) = oR (f i) 1 x y' := fun y' h' => by
    rw [s1]; exact ofr_1 hx h'
  rw [if_pos (show nI 2 < (4 : Int32) by decide), fmb x (by omega) 2 (by decide)]
  show _ = if x / 2 ^ 2 % 2 = 0 then oR (f i) 1 x y else (mfold (f i) (oR (f i) 1 x) 2 y 5).1
  by_cases c : x / 2 ^ 2 % 2 = 0
  · rw [if_pos (bit0 c), if_pos c, bnd1_e]
    exact hr y hy
  · rw [if_neg (bit1 c), if_neg c, show gap 5 0 = 5 from gapN (a := 5) (b := 0) (by omega) (by omega)]
    exact ofl_2 hr hy (5 + 1) 0 (by omega) (by omega) 0 0 rfl (Or.inl ⟨rfl, rfl⟩)
theorem ofl_3 (hr : ∀ y', y' < 32 → D_X0_ofRest_2 r q f i (nI x) (nI y') (nI 1 + 1) = oR (f i) 2 x y') (hy : y < 32) : ∀ n j : Nat, j ≤ 5 → 5 - j < n → ∀ (d : Int32) (s : Int64), s = (mfold (f i) (oR (f i) 2 x) 1 y j).1 → (d = 0 ∧ (mfold (f i) (oR (f i) 2 x) 1 y j).2 = 1 ∨ d = 1 ∧ (mfold (f i) (oR (f i) 2 x) 1 y j).2 = -1) → D_X0_ofRest_3_34 r q f i (nI x) (nI y) (nI 1) n (nI j) d s = (mfold (f i) (oR (f i) 2 x) 1 y 5).1 := by
  intro n
  induction n with
  | zero => intro j _ h; omega
  | succ n ih =>
    intro j hj hn d s hs hd
    rw [D_X0_ofRest_3_34_s]
    by_cases e : 5 ≤ j
    · rw [if_pos (show (5 : Int32) ≤ nI j from ile (a := 5) e (by omega)), hs, show j = 5 by omega]
    · rw [if_neg (nile5 (by omega)), fmb y hy j (by omega)]
      by_cases c : y / 2 ^ j % 2 = 0
      · rw [if_pos (bit0 c), s1]
        exact ih (j + 1) (by omega) (by omega) d s (by rw [mf_s, if_pos c]; exact hs) (by rw [mf_s, if_pos c]; exact hd)
      · rw [if_neg (bit1 c), bnd1_e, bnd1_e, cget (show 1 < 4 by decide) (show j < 5 by omega), fmc y hy j (by omega) c, hr (y - 2 ^ j) (Nat.lt_of_le_of_lt (Nat.sub_le _ _) hy)]
        have h3 := mf_s (f := f i) (rec := oR (f i) 2 x) (r := 1) (y := y) (j := j)
        rw [if_neg c] at h3
        rcases hd with ⟨rfl, hd⟩ | ⟨rfl, hd⟩
        · rw [if_pos rfl, D_X0_ofRest_3_j90_s, if_pos rfl, s1]
          refine ih (j + 1) (by omega) (by omega) 1 _ ?_ (Or.inr ⟨rfl, ?_⟩)
          · rw [h3, hd, t64a, hs]
            grind
          · rw [h3, hd]
        · rw [if_neg one0, D_X0_ofRest_3_j90_s, if_neg one0, s1]
          refine ih (j + 1) (by omega) (by omega) 0 _ ?_ (Or.inl ⟨rfl, ?_⟩)
          · rw [h3, hd, t64b, hs]
            grind
          · rw [h3, hd]
            exact (by decide : -(-1 : Int32) = 1)
theorem ofr_3 (hx : x < 16) (hy : y < 32) : D_X0_ofRest_3 r q f i (nI x) (nI y) (nI 1) = oR (f i) 3 x y := by
  unfold D_X0_ofRest_3
  have hr : ∀ y', y' < 32 → D_X0_ofRest_2 r q f i (nI x) (nI y') (nI 1 + 1) = oR (f i) 2 x y' := fun y' h' => by
    rw [s1]; exact ofr_2 hx h'
  rw [if_pos (show nI 1 < (4 : Int32) by decide), fmb x (by omega) 1 (by decide)]
  show _ = if x / 2 ^ 1 % 2 = 0 then oR (f i) 2 x y else (mfold (f i) (oR (f i) 2 x) 1 y 5).1
  by_cases c : x / 2 ^ 1 % 2 = 0
  · rw [if_pos (bit0 c), if_pos c, bnd1_e]
    exact hr y hy
  · rw [if_neg (bit1 c), if_neg c, show gap 5 0 = 5 from gapN (a := 5) (b := 0) (by omega) (by omega)]
    exact ofl_3 hr hy (5 + 1) 0 (by omega) (by omega) 0 0 rfl (Or.inl ⟨rfl, rfl⟩)
theorem ofl_4 (hr : ∀ y', y' < 32 → D_X0_ofRest_3 r q f i (nI x) (nI y') (nI 0 + 1) = oR (f i) 3 x y') (hy : y < 32) : ∀ n j : Nat, j ≤ 5 → 5 - j < n → ∀ (d : Int32) (s : Int64), s = (mfold (f i) (oR (f i) 3 x) 0 y j).1 → (d = 0 ∧ (mfold (f i) (oR (f i) 3 x) 0 y j).2 = 1 ∨ d = 1 ∧ (mfold (f i) (oR (f i) 3 x) 0 y j).2 = -1) → D_X0_ofRest_4_34 r q f i (nI x) (nI y) (nI 0) n (nI j) d s = (mfold (f i) (oR (f i) 3 x) 0 y 5).1 := by
  intro n
  induction n with
  | zero => intro j _ h; omega
  | succ n ih =>
    intro j hj hn d s hs hd
    rw [D_X0_ofRest_4_34_s]
    by_cases e : 5 ≤ j
    · rw [if_pos (show (5 : Int32) ≤ nI j from ile (a := 5) e (by omega)), hs, show j = 5 by omega]
    · rw [if_neg (nile5 (by omega)), fmb y hy j (by omega)]
      by_cases c : y / 2 ^ j % 2 = 0
      · rw [if_pos (bit0 c), s1]
        exact ih (j + 1) (by omega) (by omega) d s (by rw [mf_s, if_pos c]; exact hs) (by rw [mf_s, if_pos c]; exact hd)
      · rw [if_neg (bit1 c), bnd1_e, bnd1_e, cget (show 0 < 4 by decide) (show j < 5 by omega), fmc y hy j (by omega) c, hr (y - 2 ^ j) (Nat.lt_of_le_of_lt (Nat.sub_le _ _) hy)]
        have h3 := mf_s (f := f i) (rec := oR (f i) 3 x) (r := 0) (y := y) (j := j)
        rw [if_neg c] at h3
        rcases hd with ⟨rfl, hd⟩ | ⟨rfl, hd⟩
        · rw [if_pos rfl, D_X0_ofRest_4_j90_s, if_pos rfl, s1]
          refine ih (j + 1) (by omega) (by omega) 1 _ ?_ (Or.inr ⟨rfl, ?_⟩)
          · rw [h3, hd, t64a, hs]
            grind
          · rw [h3, hd]
        · rw [if_neg one0, D_X0_ofRest_4_j90_s, if_neg one0, s1]
          refine ih (j + 1) (by omega) (by omega) 0 _ ?_ (Or.inl ⟨rfl, ?_⟩)
          · rw [h3, hd, t64b, hs]
            grind
          · rw [h3, hd]
            exact (by decide : -(-1 : Int32) = 1)
theorem ofr_4 (hx : x < 16) (hy : y < 32) : D_X0_ofRest_4 r q f i (nI x) (nI y) (nI 0) = oR (f i) 4 x y := by
  unfold D_X0_ofRest_4
  have hr : ∀ y', y' < 32 → D_X0_ofRest_3 r q f i (nI x) (nI y') (nI 0 + 1) = oR (f i) 3 x y' := fun y' h' => by
    rw [s1]; exact ofr_3 hx h'
  rw [if_pos (show nI 0 < (4 : Int32) by decide), fmb x (by omega) 0 (by decide)]
  show _ = if x / 2 ^ 0 % 2 = 0 then oR (f i) 3 x y else (mfold (f i) (oR (f i) 3 x) 0 y 5).1
  by_cases c : x / 2 ^ 0 % 2 = 0
  · rw [if_pos (bit0 c), if_pos c, bnd1_e]
    exact hr y hy
  · rw [if_neg (bit1 c), if_neg c, show gap 5 0 = 5 from gapN (a := 5) (b := 0) (by omega) (by omega)]
    exact ofl_4 hr hy (5 + 1) 0 (by omega) (by omega) 0 0 rfl (Or.inl ⟨rfl, rfl⟩)
/-- the rows that are left, of a set -/
def xk (k x : Nat) : Nat := x / 2 ^ (4 - k) * 2 ^ (4 - k)
theorem xk_n : ∀ k, k < 4 → ∀ x, x < 16 → x / 2 ^ (3 - k) % 2 = 0 → xk (k + 1) x = xk k x := by decide +kernel
theorem xk_y : ∀ k, k < 4 → ∀ x, x < 16 → ¬ x / 2 ^ (3 - k) % 2 = 0 → tz (xk (k + 1) x) = 3 - k ∧ lb (xk (k + 1) x) = xk k x ∧ pc5 (xk (k + 1) x) = pc5 (xk k x) + 1 ∧ ¬ xk (k + 1) x = 0 := by decide +kernel
theorem xk_4 : ∀ x, x < 16 → xk 4 x = x := by decide +kernel
theorem xk_0 : ∀ x, x < 16 → xk 0 x = 0 := by decide +kernel
theorem pc1 : ∀ y, y < 32 → pc5 y = 1 → y = 1 ∨ y = 2 ∨ y = 4 ∨ y = 8 ∨ y = 16 := by decide +kernel
theorem or_0 : ∀ k, k ≤ 4 → ∀ x y, x < 16 → xk k x = 0 → oR F k x y = 1 := by
  intro k
  induction k with
  | zero => intro _ x y _ _; rfl
  | succ k ih =>
    intro hk x y hx h
    show (if x / 2 ^ (3 - k) % 2 = 0 then oR F k x y else (mfold F (oR F k x) (3 - k) y 5).1) = 1
    by_cases c : x / 2 ^ (3 - k) % 2 = 0
    · rw [if_pos c]
      exact ih (by omega) x y hx ((xk_n k (by omega) x hx c).symm.trans h)
    · exact absurd h (xk_y k (by omega) x hx c).2.2.2
theorem mf_one (hy : y < 32) (h : pc5 y = 1) : (mfold F (fun _ => 1) ρ y 5).1 = F (ρ * 5 + tz y) := by
  rcases pc1 y hy h with rfl | rfl | rfl | rfl | rfl <;> simp [mf_s, mf_0, tz, t64a]
theorem bits0 (hC : C ≤ 5) (hy : y < 2 ^ C) : ∀ j, C ≤ j → j < 5 → y / 2 ^ j % 2 = 0 := by
  intro j h1 _
  rw [Nat.div_eq_of_lt (Nat.lt_of_lt_of_le hy (Nat.pow_le_pow_right (by decide) h1))]
theorem or_mn (hC : C ≤ 5) : ∀ k, k ≤ 4 → ∀ x y, x < 16 → y < 2 ^ C → ¬ xk k x = 0 → pc5 (xk k x) = pc5 y → oR F k x y = mnv F C (pc5 (xk k x)) (xk k x) y := by
  intro k
  induction k with
  | zero => intro _ x y hx _ h; exact absurd (xk_0 x hx) h
  | succ k ih =>
    intro hk x y hx hy h hp
    show (if x / 2 ^ (3 - k) % 2 = 0 then oR F k x y else (mfold F (oR F k x) (3 - k) y 5).1) = _
    have y32 := p32 hC hy
    by_cases c : x / 2 ^ (3 - k) % 2 = 0
    · have e := xk_n k (by omega) x hx c
      rw [e] at h hp ⊢
      rw [if_pos c]
      exact ih (by omega) x y hx hy h hp
    · obtain ⟨t1, t2, t3, t4⟩ := xk_y k (by omega) x hx c
      rw [if_neg c, t3]
      show _ = if lb (xk (k + 1) x) = 0 then F (tz (xk (k + 1) x) * 5 + tz y) else (mfold F (mnv F C (pc5 (xk k x)) (lb (xk (k + 1) x))) (tz (xk (k + 1) x)) y C).1
      rw [t1, t2]
      by_cases z : xk k x = 0
      · rw [if_pos z, mf_cg (G := F) (rec' := fun _ => 1) (fun _ _ => rfl) (fun j _ _ => or_0 k (by omega) x _ hx z)]
        refine mf_one y32 ?_
        rw [← hp, t3, z]
        rfl
      · rw [if_neg z, mf_ext hC (bits0 hC hy)]
        refine congrArg Prod.fst (mf_cg (fun _ _ => rfl) (fun j hj hb => ?_))
        have e := fpy y y32 j (by omega) hb
        exact ih (by omega) x (y - 2 ^ j) hx (Nat.lt_of_le_of_lt (Nat.sub_le _ _) hy) z (by omega)
theorem tz_le {y : Nat} : tz y ≤ 4 := by
  unfold tz
  (repeat' split) <;> omega
theorem mnv_cg (hR : R ≤ 4) (hC : C ≤ 5) (h : ∀ k, k < R * 5 → F k = G k) : ∀ n x y, 0 < x → x < 2 ^ R → mnv F C n x y = mnv G C n x y := by
  intro n
  induction n with
  | zero => intro x y _ _; rfl
  | succ n ih =>
    intro x y h0 hx
    show (if lb x = 0 then F (tz x * 5 + tz y) else (mfold F (mnv F C n (lb x)) (tz x) y C).1) = if lb x = 0 then G (tz x * 5 + tz y) else (mfold G (mnv G C n (lb x)) (tz x) y C).1
    have t1 := fzt R (by omega) x (p32 (by omega) hx) hx h0
    by_cases e : lb x = 0
    · rw [if_pos e, if_pos e]
      have := tz_le (y := y)
      exact h _ (by omega)
    · rw [if_neg e, if_neg e]
      refine congrArg Prod.fst (mf_cg (fun j hj => h _ (by omega)) (fun j hj hb => ?_))
      exact ih _ _ (Nat.pos_of_ne_zero e) (Nat.lt_of_le_of_lt (Nat.sub_le _ _) hx)
/-- a minor of the class is one of the reference -/
theorem min_eq (hR : R ≤ 4) (hC : C ≤ 5) (h : ∀ k, k < R * 5 → f i k = G k) (h0 : 0 < x) (hx : x < 2 ^ R) (hy : y < 2 ^ C) (hp : pc5 x = pc5 y) : D_X0_ofRest_4 r q f i (nI x) (nI y) 0 = mnv G C (pc5 x) x y := by
  have x16 : x < 16 := Nat.lt_of_lt_of_le hx (Nat.pow_le_pow_right (by decide) hR : 2 ^ R ≤ 2 ^ 4)
  have e := xk_4 x x16
  have h1 := or_mn (F := f i) hC 4 (Nat.le_refl _) x y x16 hy (by rw [e]; omega) (by rw [e]; exact hp)
  rw [e] at h1
  rw [show (0 : Int32) = nI 0 from rfl, ofr_4 x16 (p32 hC hy), h1]
  exact mnv_cg hR hC h _ x y h0 hx
/-- nothing but the empty minor -/
theorem min_0 (hy : y < 32) : D_X0_ofRest_4 r q f i (nI 0) (nI y) 0 = 1 := by
  rw [show (0 : Int32) = nI 0 from rfl, ofr_4 (by decide) hy]
  exact or_0 4 (Nat.le_refl _) 0 y (by decide) (by decide)
theorem shz0 : ∀ R, R < 6 → ∀ x, x < 32 → x < 2 ^ R → (nI x) >>> ((nI R) &&& 31) = 0 := by decide +kernel
theorem shq {z : Int32} (hR : R < 6) (h1 : ¬ z < 1) : (z >>> ((nI R) &&& 31) = 0 ∧ ¬ nI (2 ^ R) ≤ z ∧ ∃ x, 0 < x ∧ x < 2 ^ R ∧ z = nI x) ∨ (¬ z >>> ((nI R) &&& 31) = 0 ∧ nI (2 ^ R) ≤ z) := by
  have p1 : 2 ^ R ≤ 2 ^ 5 := Nat.pow_le_pow_right (by decide) (by omega)
  have p2 : (2 : Nat) ^ 5 = 32 := rfl
  have h0 : ¬ z < 0 := fun h => h1 (by rw [i32_lt] at h ⊢; have : (0 : Int32).toInt = 0 := rfl; have : (1 : Int32).toInt = 1 := rfl; omega)
  obtain ⟨x, hx, rfl⟩ := nI_of h0
  by_cases e : x < 2 ^ R
  · have e2 : ¬ x = 0 := fun e => h1 (by rw [e]; decide)
    exact Or.inl ⟨shz0 R hR x (by omega) e, nile (by omega) (by omega), x, by omega, e, rfl⟩
  · refine Or.inr ⟨fun h => ?_, ile (by omega) hx⟩
    obtain ⟨k, k1, k2, k3⟩ := shr0 hR h1 h
    have := nI_inj hx (by omega) k3
    omega
end PMN
end
section
-- 89c.pdiv
/-! ===== The greatest common divisor, DIVISORS and RANK of both sides are the same ===== -/
section PGC
variable {r q : Nat → Int32} {f : Nat → Nat → Int64} {i R C x y ρ : Nat} {F G rec : Nat → Int64}
theorem lo_ab {x : Int64} (h : -9223372036854775808 < x.toInt) : (if 0 < x then x else -x).toInt = (x.toInt.natAbs : Int) := by
  have h1 := Int64.toInt_lt x
  by_cases c : 0 < x
  · rw [if_pos c]
    have c := Int64.lt_iff_toInt_lt.mp c
    rw [show (0 : Int64).toInt = 0 from rfl] at c
    omega
  · rw [if_neg c, Int64.toInt_neg, Int.bmod_eq_of_le (by omega) (by omega)]
    have c : ¬ (0 : Int64).toInt < x.toInt := fun z => c (Int64.lt_iff_toInt_lt.mpr z)
    rw [show (0 : Int64).toInt = 0 from rfl] at c
    omega
theorem gcd_st {a b : Nat} : Nat.gcd a b = Nat.gcd b (a % b) := (Nat.gcd_comm a b).trans ((Nat.gcd_rec b a).trans (Nat.gcd_comm _ _))
theorem nz_abs {y : Int64} (h : ¬ y = 0) : 0 < y.toInt.natAbs := by
  have h0 : y.toInt ≠ 0 := fun e => h (Int64.toInt_inj.mp e)
  omega
theorem rem_lo {x y : Int64} (hy : ¬ y = 0) : -9223372036854775808 < (x - x / y * y).toInt ∧ (x - x / y * y).toInt.natAbs < y.toInt.natAbs := by
  have h1 := rem_abs (x := x) hy
  have h2 := Nat.mod_lt x.toInt.natAbs (nz_abs hy)
  have h3 := Int64.le_toInt y
  have h4 := Int64.toInt_lt y
  omega
/-- the reference's greatest common divisor -/
theorem gcF_int : ∀ (k : Nat) (x y : Int64), -9223372036854775808 < x.toInt → -9223372036854775808 < y.toInt → y.toInt.natAbs < 2 ^ k → (gcF (2 * k + 1) x y).toInt = (Nat.gcd x.toInt.natAbs y.toInt.natAbs : Nat) := by
  have h0 : ∀ (d : Nat) (x y : Int64), -9223372036854775808 < x.toInt → y = 0 → (gcF (d + 1) x y).toInt = (Nat.gcd x.toInt.natAbs y.toInt.natAbs : Nat) := by
    intro d x y hx e
    show (D_gcd_step x y (gcF d)).toInt = _
    rw [D_gcd_step_s, if_pos (lgE.mpr e), e]
    show (if 0 < x then x else -x).toInt = _
    rw [lo_ab hx]
    exact congrArg Int.ofNat (Nat.gcd_zero_right _).symm
  intro k
  induction k with
  | zero =>
    intro x y hx hy h
    exact h0 0 x y hx (Int64.toInt_inj.mp (show y.toInt = 0 by omega))
  | succ k ih =>
    intro x y hx hy h
    by_cases e : y = 0
    · exact h0 (2 * k + 2) x y hx e
    · show (D_gcd_step x y (gcF (2 * k + 2))).toInt = _
      rw [D_gcd_step_s, if_neg (fun z => e (lgE.mp z))]
      have hr := rem_lo (x := x) e
      have ha := rem_abs (x := x) e
      rw [gcd_st, ← ha]
      by_cases e2 : x - x / y * y = 0
      · exact h0 (2 * k + 1) y _ hy e2
      · show (D_gcd_step y (x - x / y * y) (gcF (2 * k + 1))).toInt = _
        rw [D_gcd_step_s, if_neg (fun z => e2 (lgE.mp z))]
        have hr2 := rem_lo (x := y) e2
        have ha2 := rem_abs (x := y) e2
        have p1 := nz_abs e2
        have h3 := half_mod (a := (x - x / y * y).toInt.natAbs) (b := y.toInt.natAbs) p1 (by omega)
        rw [gcd_st, ← ha2]
        refine ih _ _ hr.1 hr2.1 ?_
        rw [Nat.pow_succ] at h
        omega
theorem gcv_int {x y : Int64} (hx : -9223372036854775808 < x.toInt) (hy : -9223372036854775808 < y.toInt) : (gcv x y).toInt = (Nat.gcd x.toInt.natAbs y.toInt.natAbs : Nat) := by
  have h3 := Int64.toInt_lt y
  exact gcF_int 64 x y hx hy (by omega)
/-- the class's greatest common divisor -/
theorem gc15 : ∀ (k n p : Nat) (a b : Int64), 0 ≤ a.toInt → 0 ≤ b.toInt → b.toInt.natAbs < 2 ^ k → 2 * k + 1 ≤ n → p + 2 * k + 1 < 1000000 → (D_X5_greatestCommonDivisor_15 n (nI p) b a).toInt = (Nat.gcd a.toInt.natAbs b.toInt.natAbs : Nat) := by
  have h0 : ∀ (n p : Nat) (a b : Int64), 0 ≤ a.toInt → b = 0 → p < 1000000 → (D_X5_greatestCommonDivisor_15 (n + 1) (nI p) b a).toInt = (Nat.gcd a.toInt.natAbs b.toInt.natAbs : Nat) := by
    intro n p a b ha e hp
    rw [D_X5_greatestCommonDivisor_15_s, if_neg (show ¬ (1000000 : Int32) ≤ nI p from nile (a := 1000000) (by omega) (by omega)), if_pos (lgE.mpr e), e]
    show a.toInt = ((Nat.gcd a.toInt.natAbs 0 : Nat) : Int)
    rw [Nat.gcd_zero_right]
    omega
  have hm : ∀ {a b : Int64}, 0 ≤ a.toInt → ¬ b = 0 → 0 ≤ (a - a / b * b).toInt := fun ha hb => by
    rw [rem_int hb]; exact Int.tmod_nonneg _ ha
  intro k
  induction k with
  | zero =>
    intro n p a b ha hb h hn hp
    obtain ⟨n, rfl⟩ : ∃ m, n = m + 1 := ⟨n - 1, by omega⟩
    exact h0 n p a b ha (Int64.toInt_inj.mp (show b.toInt = 0 by omega)) (by omega)
  | succ k ih =>
    intro n p a b ha hb h hn hp
    obtain ⟨n, rfl⟩ : ∃ m, n = m + 2 := ⟨n - 2, by omega⟩
    by_cases e : b = 0
    · exact h0 (n + 1) p a b ha e (by omega)
    · rw [show n + 2 = (n + 1) + 1 from rfl, D_X5_greatestCommonDivisor_15_s, if_neg (show ¬ (1000000 : Int32) ≤ nI p from nile (a := 1000000) (by omega) (by omega)), if_neg (fun z => e (lgE.mp z)), s1]
      have hr := rem_lo (x := a) e
      have hn0 := hm ha e
      have haa := rem_abs (x := a) e
      rw [gcd_st, ← haa]
      by_cases e2 : a - a / b * b = 0
      · exact h0 n (p + 1) b _ hb e2 (by omega)
      · rw [D_X5_greatestCommonDivisor_15_s, if_neg (show ¬ (1000000 : Int32) ≤ nI (p + 1) from nile (a := 1000000) (by omega) (by omega)), if_neg (fun z => e2 (lgE.mp z)), s1]
        have hn1 := hm hb e2
        have ha2 := rem_abs (x := b) e2
        have p1 := nz_abs e2
        have h3 := half_mod (a := (a - a / b * b).toInt.natAbs) (b := b.toInt.natAbs) p1 (by omega)
        rw [gcd_st, ← ha2]
        refine ih n (p + 1 + 1) _ _ hn0 hn1 ?_ (by omega) (by omega)
        rw [Nat.pow_succ] at h
        omega
theorem cgc_int {x y : Int64} (hx : -9223372036854775808 < x.toInt) (hy : -9223372036854775808 < y.toInt) : (D_X5_greatestCommonDivisor x y).toInt = (Nat.gcd x.toInt.natAbs y.toInt.natAbs : Nat) := by
  have h1 := lo_ab hx
  have h2 := lo_ab hy
  have h3 := Int64.toInt_lt y
  show (D_X5_greatestCommonDivisor_15 (gap 1000000 0 + 1) 0 (if 0 < y then y else -y) (if 0 < x then x else -x)).toInt = _
  generalize (if 0 < x then x else -x) = a at h1 ⊢
  generalize (if 0 < y then y else -y) = b at h2 ⊢
  rw [show gap 1000000 0 = 1000000 from gapN (a := 1000000) (b := 0) (by omega) (by omega)]
  have h := gc15 64 (1000000 + 1) 0 a b (by omega) (by omega) (by omega) (by omega) (by omega)
  have e1 : a.toInt.natAbs = x.toInt.natAbs := by omega
  have e2 : b.toInt.natAbs = y.toInt.natAbs := by omega
  rw [e1, e2] at h
  exact h
theorem cgc_eq {x y : Int64} (hx : -9223372036854775808 < x.toInt) (hy : -9223372036854775808 < y.toInt) : D_X5_greatestCommonDivisor x y = gcv x y := Int64.toInt_inj.mp ((cgc_int hx hy).trans (gcv_int hx hy).symm)
/-- within a bound -/
def Bq (B : Nat) (x : Int64) : Prop := x.toInt.natAbs ≤ B
theorem gcv_b {x y : Int64} {B : Nat} (hB : B < 2 ^ 62) (hx : Bq B x) (hy : Bq B y) : Bq B (gcv x y) := by
  unfold Bq at *
  have p : (2 : Nat) ^ 62 = 4611686018427387904 := rfl
  rw [gcv_int (by omega) (by omega), Int.natAbs_natCast]
  by_cases e : y.toInt.natAbs = 0
  · rw [e, Nat.gcd_zero_right]; exact hx
  · exact Nat.le_trans (Nat.gcd_le_right _ (Nat.pos_of_ne_zero e)) hy
theorem mul_b {a b : Int64} {A B : Nat} (ha : Bq A a) (hb : Bq B b) (h : A * B < 2 ^ 62) : (a * b).toInt = a.toInt * b.toInt ∧ Bq (A * B) (a * b) := by
  unfold Bq at *
  have p : (2 : Nat) ^ 62 = 4611686018427387904 := rfl
  have h1 : (a.toInt * b.toInt).natAbs ≤ A * B := by rw [Int.natAbs_mul]; exact Nat.mul_le_mul ha hb
  have h2 : (a * b).toInt = a.toInt * b.toInt := by
    rw [Int64.toInt_mul]
    exact Int.bmod_eq_of_le (by omega) (by omega)
  exact ⟨h2, by rw [h2]; exact h1⟩
theorem add_b {a b : Int64} {A B : Nat} (ha : Bq A a) (hb : Bq B b) (h : A + B < 2 ^ 62) : (a + b).toInt = a.toInt + b.toInt ∧ Bq (A + B) (a + b) := by
  unfold Bq at *
  have p : (2 : Nat) ^ 62 = 4611686018427387904 := rfl
  have h2 : (a + b).toInt = a.toInt + b.toInt := by
    rw [Int64.toInt_add]
    exact Int.bmod_eq_of_le (by omega) (by omega)
  exact ⟨h2, by rw [h2]; omega⟩
theorem one_b : Bq 1 1 := by unfold Bq; decide +kernel
theorem mone_b : Bq 1 (-1) := by unfold Bq; decide +kernel
theorem sm_b {x : Int64} (h : sm x) : Bq 20 x := by
  have := sm_int h
  unfold Bq
  omega
/-- a row's terms are bounded -/
theorem mf_b2 {B : Nat} (hB : 20 * B * 5 < 2 ^ 61) (hF : ∀ j, j < 5 → Bq 20 (F (ρ * 5 + j))) (hr : ∀ y', Bq B (rec y')) : ∀ j, j ≤ 5 → Bq (20 * B * j) (mfold F rec ρ y j).1 ∧ ((mfold F rec ρ y j).2 = 1 ∨ (mfold F rec ρ y j).2 = -1) := by
  have p : (2 : Nat) ^ 62 = 2 * 2 ^ 61 := rfl
  intro j
  induction j with
  | zero => intro _; exact ⟨by rw [mf_0]; unfold Bq; show (0 : Int64).toInt.natAbs ≤ _; rw [show (0 : Int64).toInt = 0 from rfl]; exact Nat.zero_le _, Or.inl rfl⟩
  | succ j ih =>
    intro hj
    obtain ⟨h1, h2⟩ := ih (by omega)
    have hle : 20 * B * j + 20 * B = 20 * B * (j + 1) := (Nat.mul_succ _ _).symm
    have hj5 : 20 * B * (j + 1) ≤ 20 * B * 5 := Nat.mul_le_mul_left _ hj
    rw [mf_s]
    by_cases e : y / 2 ^ j % 2 = 0
    · rw [if_pos e]
      exact ⟨Nat.le_trans h1 (by omega), h2⟩
    · rw [if_neg e]
      have hs : Bq 1 (mfold F rec ρ y j).2.toInt64 := by
        rcases h2 with h | h
        · rw [h, t64a]; exact one_b
        · rw [h, t64b]; exact mone_b
      have m1 := (mul_b hs (hF j (by omega)) (by omega)).2
      have m2 := (mul_b m1 (hr (y - 2 ^ j)) (by omega)).2
      rw [Nat.one_mul] at m2
      refine ⟨?_, ?_⟩
      · have := (add_b h1 m2 (by omega)).2
        rw [hle] at this
        exact this
      · rcases h2 with h | h
        · rw [h]; exact Or.inr rfl
        · rw [h]; exact Or.inl (by decide : -(-1 : Int32) = 1)
theorem mnv_b (hR : R ≤ 4) (hC : C ≤ 5) (hF : ∀ k, k < R * 5 → Bq 20 (F k)) : ∀ n, n ≤ 4 → ∀ x y, 0 < x → x < 2 ^ R → Bq (100 ^ n) (mnv F C n x y) := by
  intro n
  induction n with
  | zero => intro _ x y _ _; show Bq 1 0; unfold Bq; decide +kernel
  | succ n ih =>
    intro hn x y h0 hx
    show Bq (100 ^ (n + 1)) (if lb x = 0 then F (tz x * 5 + tz y) else (mfold F (mnv F C n (lb x)) (tz x) y C).1)
    have t1 := fzt R (by omega) x (p32 (by omega) hx) hx h0
    have t2 := tz_le (y := y)
    have p1 : 1 ≤ 100 ^ n := Nat.one_le_pow _ _ (by decide)
    have p2 : 100 ^ (n + 1) = 100 ^ n * 100 := Nat.pow_succ _ _
    have p3 : 100 ^ n ≤ 100 ^ 3 := Nat.pow_le_pow_right (by decide) (by omega)
    have p4 : (2 : Nat) ^ 61 = 2305843009213693952 := rfl
    have p5 : (100 : Nat) ^ 3 = 1000000 := rfl
    by_cases e : lb x = 0
    · rw [if_pos e]
      exact Nat.le_trans (hF _ (by omega)) (by omega)
    · rw [if_neg e]
      have h := (mf_b2 (F := F) (ρ := tz x) (rec := mnv F C n (lb x)) (y := y) (B := 100 ^ n) (by omega) (fun j hj => hF _ (by omega)) (fun y' => ih (by omega) _ y' (Nat.pos_of_ne_zero e) (Nat.lt_of_le_of_lt (Nat.sub_le _ _) hx)) C hC).1
      refine Nat.le_trans h ?_
      have h5 : 20 * 100 ^ n * C ≤ 20 * 100 ^ n * 5 := Nat.mul_le_mul_left _ hC
      omega
end PGC
section PDV
variable {r q : Nat → Int32} {f : Nat → Nat → Int64} {i R C x y k : Nat} {F G : Nat → Int64}
theorem pcl5 : ∀ x, x < 32 → pc5 x ≤ 5 := by decide +kernel
theorem pc5_4 : ∀ x, x < 16 → pc5 x ≤ 4 := by decide +kernel
/-- the columns of a set of rows -/
theorem dv_in (hR : R ≤ 4) (hC : C ≤ 5) (h2 : r (2 * i + 1) = nI C) (hF : ∀ j, j < R * 5 → f i j = G j) (hG : ∀ j, j < R * 5 → Bq 20 (G j)) (hk : k ≤ 5) (h0 : 0 < x) (hx : x < 2 ^ R) (hpx : pc5 x = k) {lbc : Int32 → Int64 → Int64} {lbr : Nat → Int64 → Int64} : ∀ n1 n2 y : Nat, ∀ s : Int64, y ≤ 2 ^ C → 2 ^ C - y < n1 → 2 ^ C - y < n2 → Bq 100000000 s → ∃ S : Int64, Bq 100000000 S ∧ D_X0_findDivisor_35_1 r q f i (nI k) lbc (nI x) n1 (nI y) s = lbc (nI (x + 1)) S ∧ D_X7_divisor_37 C G (nI k) lbr x n2 y s = lbr (x + 1) S := by
  have pC : 2 ^ C ≤ 2 ^ 5 := Nat.pow_le_pow_right (by decide) hC
  have p5 : (2 : Nat) ^ 5 = 32 := rfl
  have x16 : x < 16 := Nat.lt_of_lt_of_le hx (Nat.pow_le_pow_right (by decide) hR : 2 ^ R ≤ 2 ^ 4)
  intro n1
  induction n1 with
  | zero => intro n2 y s _ h; omega
  | succ n1 ih =>
    intro n2 y s hy h1 h3 hs
    obtain ⟨n2, rfl⟩ : ∃ n, n2 = n + 1 := ⟨n2 - 1, by omega⟩
    rw [D_X0_findDivisor_35_1_s, D_X7_divisor_37_s, if_neg one0, h2, fpw C (by omega)]
    by_cases e : 2 ^ C ≤ y
    · rw [if_pos (ile e (by omega)), if_pos e, s1]
      exact ⟨s, hs, rfl, rfl⟩
    · rw [if_neg (nile e (by omega)), if_neg e]
      have y32 : y < 32 := by omega
      have hp1 := pcl5 y y32
      rw [fbc y y32]
      show ∃ S : Int64, Bq 100000000 S ∧ (if nI (pc5 y) = nI k then bnd1 (D_X0_ofRest_4 r q f i (nI x) (nI y) 0) (fun x127 => bnd1 (D_X5_greatestCommonDivisor s x127) (fun x128 => D_X0_findDivisor_35_1 r q f i (nI k) lbc (nI x) n1 (nI y + 1) x128)) else D_X0_findDivisor_35_1 r q f i (nI k) lbc (nI x) n1 (nI y + 1) s) = lbc (nI (x + 1)) S ∧ (if nI (pc5 y) = nI k then D_X7_divisor_37 C G (nI k) lbr x n2 (y + 1) (gcv s (mnv G C (pc5 x) x y)) else D_X7_divisor_37 C G (nI k) lbr x n2 (y + 1) s) = lbr (x + 1) S
      rw [s1]
      by_cases c : pc5 y = k
      · rw [if_pos (congrArg nI c), if_pos (congrArg nI c), bnd1_e, bnd1_e, min_eq hR hC hF h0 hx (by omega) (by omega)]
        have hb := mnv_b hR hC hG (pc5 x) (pc5_4 x x16) x y h0 hx
        have hb2 : Bq 100000000 (mnv G C (pc5 x) x y) := Nat.le_trans hb (Nat.pow_le_pow_right (by decide) (pc5_4 x x16) : 100 ^ pc5 x ≤ 100 ^ 4)
        have l1 : ∀ {z : Int64}, Bq 100000000 z → -9223372036854775808 < z.toInt := fun h => by unfold Bq at h; omega
        rw [cgc_eq (l1 hs) (l1 hb2)]
        exact ih n2 (y + 1) _ (by omega) (by omega) (by omega) (gcv_b (by decide) hs hb2)
      · have c2 : ¬ nI (pc5 y) = nI k := fun h => c (nI_inj (by omega) (by omega) h)
        rw [if_neg c2, if_neg c2]
        exact ih n2 (y + 1) s (by omega) (by omega) (by omega) hs
/-- where the rows are of another number, nothing is done -/
theorem dv_no {p0 : Int32} {lbc : Int32 → Int64 → Int64} {n : Nat} {y4 y6 : Int32} {s : Int64} : D_X0_findDivisor_35 r q f i p0 lbc y4 (n + 1) y6 s = lbc (y4 + 1) s := by
  rw [D_X0_findDivisor_35_s, if_pos rfl]
/-- the sets of rows -/
theorem dv_out (hR : R ≤ 4) (hC : C ≤ 5) (h1 : r (2 * i) = nI R) (h2 : r (2 * i + 1) = nI C) (hF : ∀ j, j < R * 5 → f i j = G j) (hG : ∀ j, j < R * 5 → Bq 20 (G j)) (hk : k ≤ 5) (hk1 : 1 ≤ k) : ∀ n1 n2 x : Nat, ∀ s : Int64, 1 ≤ x → x ≤ 2 ^ R → 2 ^ R - x < n1 → 2 ^ R - x < n2 → Bq 100000000 s → D_X0_findDivisor_5 r q f i (nI k) n1 (nI x) s = D_X7_divisor_11 R C G (nI k) n2 x s ∧ Bq 100000000 (D_X7_divisor_11 R C G (nI k) n2 x s) := by
  have pR : 2 ^ R ≤ 2 ^ 4 := Nat.pow_le_pow_right (by decide) hR
  have p4 : (2 : Nat) ^ 4 = 16 := rfl
  have pC : 2 ^ C ≤ 2 ^ 5 := Nat.pow_le_pow_right (by decide) hC
  have p5 : (2 : Nat) ^ 5 = 32 := rfl
  have pC1 : 1 ≤ 2 ^ C := Nat.one_le_two_pow
  intro n1
  induction n1 with
  | zero => intro n2 x s _ _ h; omega
  | succ n1 ih =>
    intro n2 x s hx1 hx h3 h4 hs
    obtain ⟨n2, rfl⟩ : ∃ n, n2 = n + 1 := ⟨n2 - 1, by omega⟩
    rw [D_X0_findDivisor_5_s, D_X7_divisor_11_s, h1, h2, fpw R (by omega), fpw C (by omega)]
    by_cases e : 2 ^ R ≤ x
    · rw [if_pos (ile e (by omega)), if_pos e]
      exact ⟨rfl, hs⟩
    · rw [if_neg (nile e (by omega)), if_neg e]
      have x32 : x < 32 := by omega
      have hp1 := pcl5 x x32
      rw [fbc x x32, show gap (nI (2 ^ C)) 0 = 2 ^ C from gapN (b := 0) (by omega) (by omega)]
      show (if nI (pc5 x) = nI k then D_X0_findDivisor_35_1 r q f i (nI k) (D_X0_findDivisor_5 r q f i (nI k) n1) (nI x) (2 ^ C + 1) 0 s else D_X0_findDivisor_35 r q f i (nI k) (D_X0_findDivisor_5 r q f i (nI k) n1) (nI x) (2 ^ C + 1) 0 s) = (if nI (pc5 x) = nI k then D_X7_divisor_37 C G (nI k) (D_X7_divisor_11 R C G (nI k) n2) x (2 ^ C + 1 - 1 + 1) 1 s else D_X7_divisor_11 R C G (nI k) n2 (x + 1) s) ∧ Bq 100000000 (if nI (pc5 x) = nI k then D_X7_divisor_37 C G (nI k) (D_X7_divisor_11 R C G (nI k) n2) x (2 ^ C + 1 - 1 + 1) 1 s else D_X7_divisor_11 R C G (nI k) n2 (x + 1) s)
      by_cases c : pc5 x = k
      · have c2 := congrArg nI c
        rw [if_pos c2, if_pos c2]
        -- the empty set of columns is passed over
        have hst : D_X0_findDivisor_35_1 r q f i (nI k) (D_X0_findDivisor_5 r q f i (nI k) n1) (nI x) (2 ^ C + 1) 0 s = D_X0_findDivisor_35_1 r q f i (nI k) (D_X0_findDivisor_5 r q f i (nI k) n1) (nI x) (2 ^ C) (nI 1) s := by
          rw [D_X0_findDivisor_35_1_s, if_neg one0, h2, fpw C (by omega), if_neg (show ¬ nI (2 ^ C) ≤ (0 : Int32) from nile (a := 2 ^ C) (b := 0) (by omega) (by omega))]
          show (if bcE (nI 0) = nI k then _ else D_X0_findDivisor_35_1 r q f i (nI k) (D_X0_findDivisor_5 r q f i (nI k) n1) (nI x) (2 ^ C) (nI 0 + 1) s) = _
          rw [fbc 0 (by decide), if_neg (fun h => by
            have := nI_inj (show pc5 0 < 2 ^ 31 by decide) (by omega) h
            have : pc5 0 = 0 := rfl
            omega), s1]
        rw [hst]
        obtain ⟨S, g1, g2, g3⟩ := dv_in (lbc := D_X0_findDivisor_5 r q f i (nI k) n1) (lbr := D_X7_divisor_11 R C G (nI k) n2) hR hC h2 hF hG hk (show 0 < x by omega) (show x < 2 ^ R by omega) c (2 ^ C) (2 ^ C + 1 - 1 + 1) 1 s pC1 (by omega) (by omega) hs
        rw [g2, g3]
        exact ih n2 (x + 1) S (by omega) (by omega) (by omega) (by omega) g1
      · have c2 : ¬ nI (pc5 x) = nI k := fun h => c (nI_inj (by omega) (by omega) h)
        rw [if_neg c2, if_neg c2, dv_no, s1]
        exact ih n2 (x + 1) s (by omega) (by omega) (by omega) (by omega) hs
theorem bq0 : Bq 100000000 0 := by unfold Bq; decide +kernel
theorem bq1 : Bq 100000000 1 := by unfold Bq; decide +kernel
/-- DIVISOR 0 of the class -/
theorem dv_0 (hC : C ≤ 5) (h2 : r (2 * i + 1) = nI C) : ∀ n y : Nat, ∀ s : Int64, ∀ {lbc : Int32 → Int64 → Int64}, 1 ≤ y → y ≤ 2 ^ C → 2 ^ C - y < n → D_X0_findDivisor_35_1 r q f i 0 lbc 0 n (nI y) s = lbc 1 s := by
  have pC : 2 ^ C ≤ 2 ^ 5 := Nat.pow_le_pow_right (by decide) hC
  have p5 : (2 : Nat) ^ 5 = 32 := rfl
  intro n
  induction n with
  | zero => intro y s _ _ _ h; omega
  | succ n ih =>
    intro y s lbc hy1 hy hn
    rw [D_X0_findDivisor_35_1_s, if_neg one0, h2, fpw C (by omega)]
    by_cases e : 2 ^ C ≤ y
    · rw [if_pos (ile e (by omega))]
      rfl
    · rw [if_neg (nile e (by omega)), fbc y (by omega)]
      have hp := (fp0 y (by omega)).mp (by omega)
      have hp1 := pcl5 y (by omega)
      show (if nI (pc5 y) = 0 then _ else D_X0_findDivisor_35_1 r q f i 0 lbc 0 n (nI y + 1) s) = _
      rw [if_neg (fun h => by
        have := nI_inj (b := 0) (show pc5 y < 2 ^ 31 by omega) (by omega) h
        omega), s1]
      exact ih (y + 1) s (by omega) (by omega) (by omega)
theorem dv_00 (hR : R ≤ 4) (h1 : r (2 * i) = nI R) : ∀ n x : Nat, ∀ s : Int64, 1 ≤ x → x ≤ 2 ^ R → 2 ^ R - x < n → D_X0_findDivisor_5 r q f i 0 n (nI x) s = s := by
  have pR : 2 ^ R ≤ 2 ^ 4 := Nat.pow_le_pow_right (by decide) hR
  have p4 : (2 : Nat) ^ 4 = 16 := rfl
  intro n
  induction n with
  | zero => intro x s _ _ h; omega
  | succ n ih =>
    intro x s hx1 hx hn
    rw [D_X0_findDivisor_5_s, h1, fpw R (by omega)]
    by_cases e : 2 ^ R ≤ x
    · rw [if_pos (ile e (by omega))]
    · rw [if_neg (nile e (by omega)), fbc x (by omega)]
      have hp := (fp0 x (by omega)).mp (by omega)
      have hp1 := pcl5 x (by omega)
      show (if nI (pc5 x) = 0 then _ else D_X0_findDivisor_35 r q f i 0 (D_X0_findDivisor_5 r q f i 0 n) (nI x) _ 0 s) = _
      rw [if_neg (fun h => by
        have := nI_inj (b := 0) (show pc5 x < 2 ^ 31 by omega) (by omega) h
        omega), dv_no, s1]
      exact ih (x + 1) s (by omega) (by omega) (by omega)
theorem gc01 : D_X5_greatestCommonDivisor 0 1 = 1 := by
  refine Int64.toInt_inj.mp ((cgc_int (by decide +kernel) (by decide +kernel)).trans ?_)
  decide +kernel
/-- DIVISORS of both sides -/
theorem divs_eq (hR1 : 1 ≤ R) (hR : R ≤ 4) (hC : C ≤ 5) (h1 : r (2 * i) = nI R) (h2 : r (2 * i + 1) = nI C) (hF : ∀ j, j < R * 5 → f i j = G j) (hG : ∀ j, j < R * 5 → Bq 20 (G j)) (hk : k ≤ 5) : D_X0_findDivisor r q f i (nI k) = D_X7_divisor R C G (nI k) ∧ Bq 100000000 (D_X7_divisor R C G (nI k)) := by
  have pR : 2 ^ R ≤ 2 ^ 4 := Nat.pow_le_pow_right (by decide) hR
  have p4 : (2 : Nat) ^ 4 = 16 := rfl
  have pR1 : 2 ^ 1 ≤ 2 ^ R := Nat.pow_le_pow_right (by decide) hR1
  have p1 : (2 : Nat) ^ 1 = 2 := rfl
  have pC : 2 ^ C ≤ 2 ^ 5 := Nat.pow_le_pow_right (by decide) hC
  have p5 : (2 : Nat) ^ 5 = 32 := rfl
  have pC1 : 1 ≤ 2 ^ C := Nat.one_le_two_pow
  unfold D_X0_findDivisor D_X7_divisor
  rw [h1, fpw R (by omega), show gap (nI (2 ^ R)) 0 = 2 ^ R from gapN (b := 0) (by omega) (by omega)]
  have hst : D_X0_findDivisor_5 r q f i (nI k) (2 ^ R + 1) 0 0 = if k = 0 then D_X0_findDivisor_35_1 r q f i (nI k) (D_X0_findDivisor_5 r q f i (nI k) (2 ^ R)) 0 (2 ^ C + 1) 0 0 else D_X0_findDivisor_5 r q f i (nI k) (2 ^ R) (nI 1) 0 := by
    rw [D_X0_findDivisor_5_s, h1, h2, fpw R (by omega), fpw C (by omega), if_neg (show ¬ nI (2 ^ R) ≤ (0 : Int32) from nile (a := 2 ^ R) (b := 0) (by omega) (by omega)), show gap (nI (2 ^ C)) 0 = 2 ^ C from gapN (b := 0) (by omega) (by omega)]
    show (if bcE (nI 0) = nI k then _ else D_X0_findDivisor_35 r q f i (nI k) (D_X0_findDivisor_5 r q f i (nI k) (2 ^ R)) (nI 0) (2 ^ C + 1) 0 0) = _
    rw [fbc 0 (by decide)]
    by_cases c : k = 0
    · rw [if_pos c, c]
      exact if_pos rfl
    · rw [if_neg c, if_neg (fun h => by
        have := nI_inj (show pc5 0 < 2 ^ 31 by decide) (by omega) h
        have : pc5 0 = 0 := rfl
        omega), dv_no, s1]
  rw [hst]
  by_cases c : k = 0
  · subst c
    rw [if_pos rfl, if_pos (show nI 0 = 0 from rfl)]
    refine ⟨?_, bq1⟩
    show D_X0_findDivisor_35_1 r q f i 0 (D_X0_findDivisor_5 r q f i 0 (2 ^ R)) 0 (2 ^ C + 1) 0 0 = 1
    rw [D_X0_findDivisor_35_1_s, if_neg one0, h2, fpw C (by omega), if_neg (show ¬ nI (2 ^ C) ≤ (0 : Int32) from nile (a := 2 ^ C) (b := 0) (by omega) (by omega))]
    show (if bcE (nI 0) = 0 then bnd1 (D_X0_ofRest_4 r q f i (nI 0) (nI 0) 0) (fun x127 => bnd1 (D_X5_greatestCommonDivisor 0 x127) (fun x128 => D_X0_findDivisor_35_1 r q f i 0 (D_X0_findDivisor_5 r q f i 0 (2 ^ R)) 0 (2 ^ C) (nI 0 + 1) x128)) else D_X0_findDivisor_35_1 r q f i 0 (D_X0_findDivisor_5 r q f i 0 (2 ^ R)) 0 (2 ^ C) (nI 0 + 1) 0) = 1
    rw [fbc 0 (by decide), if_pos (show nI (pc5 0) = 0 from rfl), bnd1_e, bnd1_e, min_0 (by decide), gc01, s1, dv_0 hC h2 _ _ _ (by omega) (by omega) (by omega)]
    exact dv_00 hR h1 _ 1 1 (by omega) (by omega) (by omega)
  · rw [if_neg c, if_neg (show ¬ nI k = 0 from fun h => by
      have := nI_inj (b := 0) (show k < 2 ^ 31 by omega) (by omega) h
      omega)]
    exact dv_out hR hC h1 h2 hF hG hk (by omega) (2 ^ R) (2 ^ R + 1 - 1 + 1) 1 0 (by omega) (by omega) (by omega) (by omega) bq0
theorem rk_l (hR1 : 1 ≤ R) (hR : R ≤ 4) (hC : C ≤ 5) (h1 : r (2 * i) = nI R) (h2 : r (2 * i + 1) = nI C) (hF : ∀ j, j < R * 5 → f i j = G j) (hG : ∀ j, j < R * 5 → Bq 20 (G j)) : ∀ n1 n2 k s : Nat, k ≤ min R C + 1 → min R C + 1 - k < n1 → min R C + 1 - k < n2 → D_X0_findRank_4 r q f i n1 (nI k) (nI s) = D_X7_rank_4 R C G n2 k s := by
  intro n1
  induction n1 with
  | zero => intro n2 k s _ h; omega
  | succ n1 ih =>
    intro n2 k s hk h3 h4
    obtain ⟨n2, rfl⟩ : ∃ n, n2 = n + 1 := ⟨n2 - 1, by omega⟩
    rw [D_X0_findRank_4_s, D_X7_rank_4_s, h1, h2]
    show _ = (if min R C < k then nI s else bnd1 (D_X7_divisor R C G (nI k)) (fun x14 => if lg_cmp x14 0 = 0 then D_X7_rank_4 R C G n2 (k + 1) s else D_X7_rank_4 R C G n2 (k + 1) k))
    by_cases e : min R C < k
    · rw [if_pos e]
      by_cases e1 : R < k
      · rw [if_pos (nI_lt e1 (by omega))]
      · rw [if_neg (nI_nlt (a := R) (b := k) (by omega) (by omega)), if_pos (nI_lt (a := C) (by omega) (by omega))]
    · rw [if_neg e, if_neg (nI_nlt (a := R) (b := k) (by omega) (by omega)), if_neg (nI_nlt (a := C) (b := k) (by omega) (by omega)), bnd1_e, bnd1_e, (divs_eq hR1 hR hC h1 h2 hF hG (show k ≤ 5 by omega)).1, s1]
      by_cases z : lg_cmp (D_X7_divisor R C G (nI k)) 0 = 0
      · rw [if_pos z, if_pos z]
        exact ih n2 (k + 1) s (by omega) (by omega) (by omega)
      · rw [if_neg z, if_neg z]
        exact ih n2 (k + 1) k (by omega) (by omega) (by omega)
/-- RANK of both sides -/
theorem rank_eq (hR1 : 1 ≤ R) (hR : R ≤ 4) (hC1 : 1 ≤ C) (hC : C ≤ 5) (h1 : r (2 * i) = nI R) (h2 : r (2 * i + 1) = nI C) (hF : ∀ j, j < R * 5 → f i j = G j) (hG : ∀ j, j < R * 5 → Bq 20 (G j)) : D_X0_findRank r q f i = D_X7_rank R C G := by
  unfold D_X0_findRank D_X7_rank
  rw [h1]
  have hg : gap1 (nI R) 1 = R := by
    show ((nI R).toInt + 1 - (1 : Int32).toInt).toNat = R
    rw [nI_toInt (by omega), show (1 : Int32).toInt = 1 from rfl]
    omega
  rw [hg]
  exact rk_l hR1 hR hC h1 h2 hF hG (R + 1) (min R C + 1 - 1 + 1) 1 0 (by omega) (by omega) (by omega)
end PDV
end
section
-- 89d.pan2
/-! ===== What is answered: minor, divisor, rank ===== -/
section PAO
variable {r q r1 q1 : Nat → Int32} {f f1 : Nat → Nat → Int64} {r' : Nat → Nat} {f' : Nat → Nat → Int64} {q' Q : Nat → Int32} {R C i n m a b : Nat} {x x' y z p u v t : Int32}
theorem tb_b {g : Nat → Int64} (h : TB r f i R C g) : ∀ j, j < R * 5 → Bq 20 (g j) := fun j hj => sm_b (h.2.2.1 j hj)
set_option maxHeartbeats 4000000 in
set_option maxRecDepth 100000 in
theorem an_minor (h : Rl r q f r' f' q') : AW cs2 (D_X5_minor r q f y z u) (D_X10_minor r' f' q' y z u) := by
  unfold D_X5_minor D_X10_minor
  rcases ntb (r := r) (q := q) (f := f) (p := y) with ⟨n, hn, rfl, h1, h2, h3⟩ | ⟨E, x1, x2, h1, h2⟩
  · rw [h1, h2]
    dsimp only [bnd2, bnd1, nm]
    rw [if_pos rfl, if_neg one0, h3]
    have hT := h.1 n hn
    have hb := hT.2.1
    have hE : ("java/lang/IllegalArgumentException", (2 : Int32)) ∈ cs2 := List.mem_cons_of_mem _ List.mem_cons_self
    have hj0 : ∀ {z u : Int32}, D_X5_minor_j44 r q f z u n 0 = ("java/lang/IllegalArgumentException", 0, r, q, f) := fun {z u} => by
      unfold D_X5_minor_j44
      rw [bnd1_e, ia0, if_neg e_ne2]
    rw [hT.1.1, hT.1.2.1, fpw _ (by omega), fpw _ (by omega)]
    by_cases a1 : z < 1
    · rw [if_pos a1, if_pos a1, hj0]; exact aw_e hE
    · rw [if_neg a1, if_neg a1]
      rcases shq (R := r' (2 * n)) (by omega) a1 with ⟨b1, b2, x, b3, b4, rfl⟩ | ⟨b1, b2⟩
      · rw [if_neg b2]
        by_cases a2 : u < 1
        · rw [if_pos a2, if_pos a2, hj0]; exact aw_e hE
        · rw [if_neg a2, if_neg a2, if_pos b1]
          rcases shq (R := r' (2 * n + 1)) (by omega) a2 with ⟨d1, d2, w, d3, d4, rfl⟩ | ⟨d1, d2⟩
          · rw [if_neg d2, if_pos d1]
            have x32 := p32 (show r' (2 * n) ≤ 5 by omega) b4
            have w32 := p32 (show r' (2 * n + 1) ≤ 5 by omega) d4
            unfold D_X5_minor_j44
            rw [bnd1_e, ia1, if_pos rfl]
            dsimp only [nm]
            rw [fbc x x32, fbc w w32, nI_clamp (show x < 2 ^ 31 by omega), nI_clamp (show w < 2 ^ 31 by omega)]
            have p1 := pcl5 x x32
            have p2 := pcl5 w w32
            by_cases c : pc5 x = pc5 w
            · have c2 := congrArg nI c
              rw [if_pos c2, if_pos c2]
              unfold D_X5_minor_j63
              rw [bnd1_e, ia1, if_pos rfl, bnd1_e, min_eq (R := r' (2 * n)) (C := r' (2 * n + 1)) (G := f' n) hb.2.1 (by omega) (fun k hk => tb_v hT hk) b3 b4 d4 c]
              exact aw_v rfl
            · have c2 : ¬ nI (pc5 x) = nI (pc5 w) := fun h => c (nI_inj (by omega) (by omega) h)
              rw [if_neg c2, if_neg c2]
              unfold D_X5_minor_j63
              rw [bnd1_e, ia0, if_neg e_ne2]
              exact aw_e hE
          · rw [if_pos d2, hj0, if_neg d1]; exact aw_e hE
      · rw [if_pos b2, hj0, if_neg b1, ite_self]; exact aw_e hE
  · rw [h1, h2]
    dsimp only [bnd2, bnd1]
    rw [if_neg x1, if_pos rfl, x2]
    exact aw_e List.mem_cons_self
set_option maxHeartbeats 4000000 in
set_option maxRecDepth 100000 in
theorem an_divisor (h : Rl r q f r' f' q') : AW cs2 (D_X5_divisor r q f y z) (D_X10_divisor r' f' q' y z) := by
  unfold D_X5_divisor D_X10_divisor
  rcases ntb (r := r) (q := q) (f := f) (p := y) with ⟨n, hn, rfl, h1, h2, h3⟩ | ⟨E, x1, x2, h1, h2⟩
  · rw [h1, h2]
    dsimp only [bnd2, bnd1, nm]
    rw [if_pos rfl, if_neg one0, h3]
    have hT := h.1 n hn
    have hb := hT.2.1
    have hE : ("java/lang/IllegalArgumentException", (2 : Int32)) ∈ cs2 := List.mem_cons_of_mem _ List.mem_cons_self
    have hj0 : ∀ {z : Int32}, D_X5_divisor_j31 r q f z n 0 = ("java/lang/IllegalArgumentException", 0, r, q, f) := fun {z} => by
      unfold D_X5_divisor_j31
      rw [bnd1_e, ia0, if_neg e_ne2]
    by_cases a1 : z < 0
    · rw [if_pos a1, if_pos a1, hj0]; exact aw_e hE
    · rw [if_neg a1, if_neg a1, hT.1.1, hT.1.2.1]
      obtain ⟨k, hk, rfl⟩ := nI_of a1
      have hmin : (if nI (r' (2 * n + 1)) < nI (r' (2 * n)) then nI (r' (2 * n + 1)) else nI (r' (2 * n))) = nI (min (r' (2 * n)) (r' (2 * n + 1))) := by
        by_cases c : r' (2 * n + 1) < r' (2 * n)
        · rw [if_pos (nI_lt c (by omega)), Nat.min_eq_right (by omega)]
        · rw [if_neg (nI_nlt (by omega) (by omega)), Nat.min_eq_left (by omega)]
      rw [hmin]
      by_cases c : k ≤ min (r' (2 * n)) (r' (2 * n + 1))
      · rw [if_neg (nI_nlt (by omega) (by omega)), if_neg (nI_nlt (by omega) (by omega)), if_pos (ile c (by omega))]
        unfold D_X5_divisor_j31
        rw [bnd1_e, ia1, if_pos rfl, bnd1_e, (divs_eq (R := r' (2 * n)) (C := r' (2 * n + 1)) (G := f' n) hb.1 hb.2.1 (by omega) hT.1.1 hT.1.2.1 (fun k hk => tb_v hT hk) (tb_b hT) (by omega)).1]
        exact aw_v rfl
      · rw [if_neg (nile c hk)]
        by_cases c1 : r' (2 * n) < k
        · rw [if_pos (nI_lt c1 hk), hj0]; exact aw_e hE
        · rw [if_neg (nI_nlt (by omega) (by omega)), if_pos (nI_lt (by omega) hk), hj0]; exact aw_e hE
  · rw [h1, h2]
    dsimp only [bnd2, bnd1]
    rw [if_neg x1, if_pos rfl, x2]
    exact aw_e List.mem_cons_self
/-- rows that are not 0 -/
theorem cfr_in {w v0 : Nat → Int64} {lbc : Int32 → Int32 → Int32} {lbr : Nat → Nat → Int32} (hC2 : r (2 * 6 + 1) = nI C) (hC : C ≤ 5) (ha : a < 4) {s : Nat} : ∀ n1 n2 k : Nat, ∀ x : Int32, k ≤ C → C - k < n1 → C - k < n2 → (x = 0 ∨ x = 1) → ∃ S, S ≤ s + 1 ∧ D_X4_countFilledRows_20 r q (cs f w v0) lbc (nI a) (nI s) n1 (nI k) x = lbc (nI (a + 1)) (nI S) ∧ D_X8_rank_20 C w lbr a s n2 k x = lbr (a + 1) S := by
  intro n1
  induction n1 with
  | zero => intro n2 k x _ h; omega
  | succ n1 ih =>
    intro n2 k x hk h1 h2 hx
    obtain ⟨n2, rfl⟩ : ∃ m, n2 = m + 1 := ⟨n2 - 1, by omega⟩
    rw [D_X4_countFilledRows_20_s, D_X8_rank_20_s, hC2]
    by_cases e : C ≤ k
    · rw [if_pos (ile e (by omega)), if_pos e]
      rcases hx with rfl | rfl
      · rw [if_pos rfl, if_pos rfl, s1, Int32.add_zero]
        exact ⟨s, by omega, rfl, rfl⟩
      · rw [if_neg one0, if_neg one0, s1, s1]
        exact ⟨s + 1, Nat.le_refl _, rfl, rfl⟩
    · rw [if_neg (nile e (by omega)), if_neg e, bnd1_e, cget ha (by omega), cs6, cpl (by omega), s1]
      by_cases z : lg_cmp (w (a * 5 + k)) 0 = 0
      · rw [if_pos z, if_pos z]
        rcases hx with rfl | rfl
        · rw [if_pos rfl]
          exact ih n2 (k + 1) 0 (by omega) (by omega) (by omega) (Or.inl rfl)
        · rw [if_neg one0]
          exact ih n2 (k + 1) 1 (by omega) (by omega) (by omega) (Or.inr rfl)
      · rw [if_neg z, if_neg z]
        rcases hx with rfl | rfl
        · rw [if_pos rfl]
          exact ih n2 (k + 1) 1 (by omega) (by omega) (by omega) (Or.inr rfl)
        · rw [if_neg one0]
          exact ih n2 (k + 1) 1 (by omega) (by omega) (by omega) (Or.inr rfl)
theorem cfr_l {w v0 : Nat → Int64} (hR2 : r (2 * 6) = nI R) (hC2 : r (2 * 6 + 1) = nI C) (hR : R ≤ 4) (hC : C ≤ 5) : ∀ n1 n2 k s : Nat, k ≤ R → R - k < n1 → R - k < n2 → D_X4_countFilledRows_4 r q (cs f w v0) n1 (nI k) (nI s) = D_X8_rank_4 R C w n2 k s := by
  intro n1
  induction n1 with
  | zero => intro n2 k s _ h; omega
  | succ n1 ih =>
    intro n2 k s hk h1 h2
    obtain ⟨n2, rfl⟩ : ∃ m, n2 = m + 1 := ⟨n2 - 1, by omega⟩
    rw [D_X4_countFilledRows_4_s, D_X8_rank_4_s, hR2, hC2]
    by_cases e : R ≤ k
    · rw [if_pos (ile e (by omega)), if_pos e]
    · rw [if_neg (nile e (by omega)), if_neg e, show gap (nI C) 0 = C - 0 from gapN (b := 0) (by omega) (by omega)]
      obtain ⟨S, _, g1, g2⟩ := cfr_in (q := q) (f := f) (w := w) (v0 := v0) (lbc := D_X4_countFilledRows_4 r q (cs f w v0) n1) (lbr := D_X8_rank_4 R C w n2) hC2 hC (show k < 4 by omega) (s := s) (C - 0 + 1) (C + 1 - 0 + 1) 0 0 (by omega) (by omega) (by omega) (Or.inl rfl)
      refine g1.trans (Eq.trans ?_ g2.symm)
      exact ih n2 (k + 1) S (by omega) (by omega) (by omega)
theorem cfr {w v0 : Nat → Int64} {s t : Int32} (hR2 : r (2 * 6) = nI R) (hC2 : r (2 * 6 + 1) = nI C) (hR : R ≤ 4) (hC : C ≤ 5) : D_X4_countFilledRows r q (cs f w v0) = D_X8_rank R C v0 w s t := by
  unfold D_X4_countFilledRows D_X8_rank
  rw [hR2, show gap (nI R) 0 = R - 0 from gapN (b := 0) (by omega) (by omega)]
  exact cfr_l hR2 hC2 hR hC (R - 0 + 1) (R + 1 - 0 + 1) 0 0 (by omega) (by omega) (by omega)
set_option maxHeartbeats 4000000 in
set_option maxRecDepth 100000 in
theorem an_rank (h : Rl r q f r' f' q') : AW cs3 (D_X5_rank r q f y z) (D_X10_rank r' f' q' y z) := by
  unfold D_X5_rank D_X10_rank
  rcases ntb (r := r) (q := q) (f := f) (p := y) with ⟨n, hn, rfl, h1, h2, h3⟩ | ⟨E, x1, x2, h1, h2⟩
  · rw [h1, h2]
    dsimp only [bnd2, bnd1]
    rw [if_pos rfl, if_neg one0, h3]
    have hT := h.1 n hn
    have hb := hT.2.1
    have hE : ("java/lang/IllegalArgumentException", (2 : Int32)) ∈ cs3 := List.mem_cons_of_mem _ List.mem_cons_self
    by_cases a0 : z = 0
    · subst a0
      rw [if_pos rfl, if_neg (show ¬ (0 : Int32) < 0 by decide), if_pos (show (0 : Int32) ≤ 1 by decide), if_pos rfl]
      unfold D_X5_rank_j20
      rw [bnd1_e, ia1, if_pos rfl, if_pos rfl, bnd1_e, rank_eq (R := r' (2 * n)) (C := r' (2 * n + 1)) (G := f' n) hb.1 hb.2.1 hb.2.2.1 (by omega) hT.1.1 hT.1.2.1 (fun k hk => tb_v hT hk) (tb_b hT)]
      exact aw_v rfl
    · by_cases a1 : z = 1
      · subst a1
        rw [if_neg a0, if_pos rfl, if_neg (show ¬ (1 : Int32) < 0 by decide), if_pos (show (1 : Int32) ≤ 1 by decide), if_neg a0]
        unfold D_X5_rank_j20
        rw [bnd1_e, ia1, if_pos rfl, if_neg a0]
        obtain ⟨G, s1, w1, v1, w2, v2, hG, e1, e2, e3⟩ := walk_eq (q := q) hT.1 (show n ≠ 6 by omega) (show n ≠ 7 by omega) hb.1 hb.2.1 hb.2.2.1 (by omega) (fun k hk => sm_ng (hT.2.2.1 k hk)) hT.2.2.2
        rw [e1, e2]
        dsimp only [bnd3, bnd4]
        rcases hG with rfl | rfl
        · obtain ⟨rfl, rfl, hS⟩ := e3 rfl
          rw [if_pos (show va_up q 0 0 0 = 0 from vu_self), th3_000]
          unfold D_X5_rank_j55
          rw [bnd1_e, is1, if_pos rfl, bnd1_e, if_pos rfl, cfr (R := r' (2 * n)) (C := r' (2 * n + 1)) (s := s1) (t := 0) ((rs_R' (by decide)).trans rs_R) ((rs_C' (by decide)).trans rs_C) hb.2.1 (by omega)]
          exact aw_v rfl
        · rw [if_neg (show ¬ va_up q 0 1 0 = 0 by rw [vu_self]; decide), th3_001]
          unfold D_X5_rank_j55
          rw [bnd1_e, is0, if_neg e_ne3, if_neg one0]
          exact aw_e (List.mem_cons_of_mem _ (List.mem_cons_of_mem _ List.mem_cons_self))
      · have hj0 : D_X5_rank_j20 r q f z n 0 = ("java/lang/IllegalArgumentException", 0, r, q, f) := by
          unfold D_X5_rank_j20
          rw [bnd1_e, ia0, if_neg e_ne2]
        rw [if_neg a0, if_neg a1, hj0]
        by_cases b0 : z < 0
        · rw [if_pos b0]; exact aw_e hE
        · rw [if_neg b0]
          have b1 : ¬ z ≤ 1 := fun hz => by
            obtain ⟨k, hk, rfl⟩ := nI_of b0
            have hk1 : k ≤ 1 := (nleP hk (by omega : 1 < 2 ^ 31)).mp hz
            rcases (show k = 0 ∨ k = 1 by omega) with rfl | rfl
            · exact a0 rfl
            · exact a1 rfl
          rw [if_neg b1]; exact aw_e hE
  · rw [h1, h2]
    dsimp only [bnd2, bnd1]
    rw [if_neg x1, if_pos rfl, th2_11, th2_10, ite_self, ite_self, x2]
    exact aw_e List.mem_cons_self
end PAO
end
