/-! ===== What is answered: house, told, the rest columns ===== -/
/-- what was thrown by these codes, or the answer -/
def Anc (cs : List (String × Int32)) (E : String) (x t x' : Int32) : Prop := (E = "" ∧ t = 0 ∧ x = x') ∨ ∃ c ∈ cs, E = c.1 ∧ t = c.2
/-- codes that tell each throw -/
def Cd (cs : List (String × Int32)) : Prop := ∀ c ∈ cs, c.1 ≠ "" ∧ c.2 ≠ 0 ∧ ∀ d ∈ cs, c.1 = d.1 → c.2 = d.2
abbrev cs2 : List (String × Int32) := [("java/lang/IndexOutOfBoundsException", 1), ("java/lang/IllegalArgumentException", 2)]
abbrev cs3 : List (String × Int32) := [("java/lang/IndexOutOfBoundsException", 1), ("java/lang/IllegalArgumentException", 2), ("java/lang/IllegalStateException", 3)]
abbrev csr : List (String × Int32) := [("java/lang/IndexOutOfBoundsException", 1), ("java/lang/IllegalArgumentException", 3), ("java/lang/IllegalStateException", 2)]
abbrev csh : List (String × Int32) := [("java/lang/IllegalArgumentException", 1)]
theorem cd2 : Cd cs2 := by unfold Cd; decide +kernel
theorem cd3 : Cd cs3 := by unfold Cd; decide +kernel
theorem cdr : Cd csr := by unfold Cd; decide +kernel
theorem cdh : Cd csh := by unfold Cd; decide +kernel
theorem Wc_anc {cs : List (String × Int32)} {E : String} {x k t x' : Int32} {n : Int64} (hc : Cd cs) (h : Wc cs E x k n) (hA : Anc cs E x t x') : t = k ∧ (k = 0 → n = x'.toInt64) := by
  rcases h with ⟨h1, h2, h3⟩ | ⟨c, hm, h1, h2⟩
  · rcases hA with ⟨_, a2, a3⟩ | ⟨d, dm, a1, _⟩
    · exact ⟨a2.trans h2.symm, fun _ => by rw [h3, a3]⟩
    · exact absurd (a1.symm.trans h1) (hc d dm).1
  · rcases hA with ⟨a1, _, _⟩ | ⟨d, dm, a1, a2⟩
    · exact absurd (h1.symm.trans a1) (hc c hm).1
    · exact ⟨by rw [a2, h2]; exact (hc d dm).2.2 c hm (a1.symm.trans h1), fun z => absurd (h2.symm.trans z) (hc c hm).2.1⟩
/-- both sides answer alike -/
def AW (cs : List (String × Int32)) (X : CRs) (Y : Int32 × (Nat → Int32)) : Prop := Anc cs X.1 X.2.1 (Y.2 3) Y.1
section PAN
variable {r q r1 q1 : Nat → Int32} {f f1 : Nat → Nat → Int64} {r' : Nat → Nat} {f' : Nat → Nat → Int64} {q' Q : Nat → Int32} {R C i n m a b : Nat} {x x' y z p u v t : Int32} {cs : List (String × Int32)} {E : String}
theorem aw_e (c : (E, t) ∈ cs) : AW cs (E, x, r, q, f) (x', va_up Q 3 t) := Or.inr ⟨(E, t), c, rfl, (vu_self : va_up Q 3 t 3 = t)⟩
theorem aw_v (hx : x = x') : AW cs ("", x, r, q, f) (x', va_up Q 3 0) := Or.inl ⟨rfl, (vu_self : va_up Q 3 0 3 = 0), hx⟩
theorem th3_000 {a b c d : Int32} : D_X10_isThrown a b c d 0 0 0 = (0, 0) := rfl
theorem th3_001 {a b c d : Int32} : D_X10_isThrown a b c d 0 0 1 = (1, 3) := rfl
theorem th3_010 {a b c d : Int32} : D_X10_isThrown a b c d 0 1 0 = (1, 2) := rfl
theorem th3_011 {a b c d : Int32} : D_X10_isThrown a b c d 0 1 1 = (1, 2) := rfl
theorem fo5 (h0 : ¬ p < 0) (h4 : p ≤ 4) : p = 0 ∨ p = 1 ∨ p = 2 ∨ p = 3 ∨ p = 4 := by
  obtain ⟨k, hk, rfl⟩ := nI_of h0
  have hk4 : k ≤ 4 := (nleP hk (by omega : 4 < 2 ^ 31)).mp h4
  rcases (show k = 0 ∨ k = 1 ∨ k = 2 ∨ k = 3 ∨ k = 4 by omega) with rfl | rfl | rfl | rfl | rfl
  · exact Or.inl rfl
  · exact Or.inr (Or.inl rfl)
  · exact Or.inr (Or.inr (Or.inl rfl))
  · exact Or.inr (Or.inr (Or.inr (Or.inl rfl)))
  · exact Or.inr (Or.inr (Or.inr (Or.inr rfl)))
theorem tj0 {w1 : Int32} : D_X5_told_j86 r q f z u v n 0 = ("java/lang/IllegalArgumentException", 0, r, q, f) := by
  unfold D_X5_told_j86
  rw [bnd1_e, ia0, if_neg e_ne2]
/-- told, behind the look at the form's number -/
theorem told_core (h : Rl r q f r' f' q') (hn : n < 4) (h0 : ¬ z < 0) (h4 : z ≤ 4) (hR : R ≤ 4) (hC : C ≤ 4) : AW cs3 (D_X5_told_j57 r q f z u v n (nI R) (nI C)) (if u < 0 then (0, va_up Q 3 2) else if nI R ≤ u then (0, va_up Q 3 2) else if v < 0 then (0, va_up Q 3 2) else if v < nI C then bnd4 (D_X10_toldOf (r' (2 * n)) (r' (2 * n + 1)) (f' n) z) (fun z1 _ _ F => if z1 = 0 then (0, va_up (va_up Q 3 0) 3 3) else ((F (u.toNatClampNeg * 5 + v.toNatClampNeg)).toInt32, va_up (va_up Q 3 0) 3 0)) else (0, va_up Q 3 2)) := by
  have hE : ("java/lang/IllegalArgumentException", (2 : Int32)) ∈ cs3 := List.mem_cons_of_mem _ List.mem_cons_self
  unfold D_X5_told_j57
  by_cases u0 : u < 0
  · rw [if_pos u0, if_pos u0, tj0 (w1 := 0)]; exact aw_e hE
  · rw [if_neg u0, if_neg u0]
    by_cases u1 : nI R ≤ u
    · rw [if_pos u1, if_pos u1, tj0 (w1 := 0)]; exact aw_e hE
    · rw [if_neg u1, if_neg u1]
      by_cases v0 : v < 0
      · rw [if_pos v0, if_pos v0, tj0 (w1 := 0)]; exact aw_e hE
      · rw [if_neg v0, if_neg v0]
        by_cases v1 : nI C ≤ v
        · rw [if_pos v1, if_neg (Int32.not_lt.mpr v1), tj0 (w1 := 0)]; exact aw_e hE
        · rw [if_neg v1, if_pos (Int32.not_le.mp v1)]
          obtain ⟨a, ha, rfl⟩ := nI_of u0
          obtain ⟨b, hb, rfl⟩ := nI_of v0
          rw [nleP (by omega) ha] at u1
          rw [nleP (by omega) hb] at v1
          unfold D_X5_told_j86
          rw [bnd1_e, ia1, if_pos rfl, nI_clamp ha, nI_clamp hb]
          rcases form_eq h hn h0 h4 with ⟨i, r1, q1, f1, R2, C2, w, i1, i2, e1, e2, hR, hF⟩ | ⟨r1, q1, f1, e1, e2, hR⟩
          · rw [e1, e2]
            dsimp only [bnd4, bnd1]
            rw [if_neg i1, if_neg one0, cget (by omega) (by omega), hF.2.2.2.1 _ (by omega)]
            exact aw_v rfl
          · rw [e1, e2]
            dsimp only [bnd4, bnd1]
            rw [if_pos rfl, if_pos rfl]
            exact aw_e (List.mem_cons_of_mem _ (List.mem_cons_of_mem _ List.mem_cons_self))
set_option maxHeartbeats 4000000 in
set_option maxRecDepth 100000 in
theorem an_told (h : Rl r q f r' f' q') : AW cs3 (D_X5_told r q f y z u v) (D_X10_told_ r' f' q' y z u v) := by
  unfold D_X5_told D_X10_told_
  rcases ntb (r := r) (q := q) (f := f) (p := y) with ⟨n, hn, rfl, h1, h2, h3⟩ | ⟨E, x1, x2, h1, h2⟩
  · rw [h1, h2]
    dsimp only [bnd2, bnd1]
    rw [if_pos rfl, if_neg one0, h3]
    simp only [th1_0, th2_01, th2_00, th3_000, th3_001]
    have hT := h.1 n hn
    have hb := hT.2.1
    have hE : ("java/lang/IllegalArgumentException", (2 : Int32)) ∈ cs3 := List.mem_cons_of_mem _ List.mem_cons_self
    unfold D_X5_isForm
    by_cases p1 : z < 0
    · simp only [if_pos p1, ite_self]
      rw [ia0, if_neg e_ne2]
      exact aw_e hE
    · by_cases p2 : 4 < z
      · simp only [if_neg p1, if_pos p2, ite_self]
        rw [ia0, if_neg e_ne2]
        exact aw_e hE
      · have p4 : z ≤ 4 := Int32.not_lt.mp p2
        simp only [if_neg p1, if_neg p2]
        rw [ia1, if_pos rfl]
        unfold D_X5_told_j32
        rcases fo5 p1 p4 with e | e | e | e | e
        · simp only [if_neg (show ¬ z = 4 by rw [e]; decide), if_neg (show ¬ z = 1 by rw [e]; decide), if_neg (show ¬ z = 3 by rw [e]; decide)]
          rw [hT.1.1, hT.1.2.1]
          exact told_core h hn p1 p4 hb.2.1 hb.2.2.2
        · simp only [if_neg (show ¬ z = 4 by rw [e]; decide), if_pos (show z = 1 from e)]
          rw [hT.1.1]
          exact told_core h hn p1 p4 hb.2.1 hb.2.1
        · simp only [if_neg (show ¬ z = 4 by rw [e]; decide), if_neg (show ¬ z = 1 by rw [e]; decide), if_neg (show ¬ z = 3 by rw [e]; decide)]
          rw [hT.1.1, hT.1.2.1]
          exact told_core h hn p1 p4 hb.2.1 hb.2.2.2
        · simp only [if_neg (show ¬ z = 4 by rw [e]; decide), if_neg (show ¬ z = 1 by rw [e]; decide), if_pos (show z = 3 from e)]
          rw [hT.1.1]
          exact told_core h hn p1 p4 hb.2.1 hb.2.1
        · simp only [if_neg (show ¬ z = 1 by rw [e]; decide), if_neg (show ¬ z = 3 by rw [e]; decide), if_pos (show z = 4 from e)]
          rw [hT.1.2.1]
          exact told_core h hn p1 p4 hb.2.2.2 hb.2.2.2
  · rw [h1, h2]
    dsimp only [bnd2, bnd1]
    rw [if_neg x1, if_pos rfl, x2]
    exact aw_e List.mem_cons_self
theorem rcj {w1 t1 : Int32} : D_X5_restColumn_j77 z u r q f t1 0 = ("java/lang/IllegalArgumentException", 0, r, q, f) := by
  unfold D_X5_restColumn_j77
  rw [bnd1_e, ia0, if_neg e_ne2]
set_option maxHeartbeats 4000000 in
set_option maxRecDepth 100000 in
theorem an_restColumn (h : Rl r q f r' f' q') : AW csr (D_X5_restColumn r q f y z u) (D_X10_restColumn r' f' q' y z u) := by
  unfold D_X5_restColumn D_X10_restColumn
  rcases ntb (r := r) (q := q) (f := f) (p := y) with ⟨n, hn, rfl, h1, h2, h3⟩ | ⟨E, x1, x2, h1, h2⟩
  · rw [h1, h2]
    dsimp only [bnd2, bnd1]
    rw [if_pos rfl, if_neg one0, h3]
    have hT := h.1 n hn
    have hb := hT.2.1
    have hA : ("java/lang/IllegalArgumentException", (3 : Int32)) ∈ csr := List.mem_cons_of_mem _ List.mem_cons_self
    have hS : ("java/lang/IllegalStateException", (2 : Int32)) ∈ csr := List.mem_cons_of_mem _ (List.mem_cons_of_mem _ List.mem_cons_self)
    obtain ⟨G, j1, j2, K, w1, v1, u1, w2, v2, u2, hG, e1, e2, e3⟩ := dwalk_eq (q := q) hT.1 (show n ≠ 8 by omega) (show n ≠ 9 by omega) (show n ≠ 10 by omega) hb.1 hb.2.1 hb.2.2.1 hb.2.2.2 (sw_of hT) hT.2.2.2
    rw [e1, e2]
    dsimp only [bnd3, bnd7]
    have hC : (rs (rs (rs r 8 (r' (2 * n)) (r' (2 * n + 1))) 9 (r' (2 * n)) (r' (2 * n))) 10 (r' (2 * n + 1)) (r' (2 * n + 1))) (2 * n + 1) = nI (r' (2 * n + 1)) := (rs_C' (by omega)).trans ((rs_C' (by omega)).trans ((rs_C' (by omega)).trans hT.1.2.1))
    rcases hG with rfl | rfl
    · obtain ⟨rfl, rfl, rfl, hSd, hK⟩ := e3 rfl
      rw [if_pos (show va_up q 1 0 1 = 0 from vu_self)]
      unfold D_X5_restColumn_j31
      rw [bnd1_e, is1, if_pos rfl, crank (K := K) (w := w2) ((rs_R' (by decide)).trans ((rs_R' (by decide)).trans rs_R)) ((rs_C' (by decide)).trans ((rs_C' (by decide)).trans rs_C)) hb.2.1 hb.2.2.2 (fun k hk => by rw [ds8, cpl hk]) hK, bnd1_e, hC, nI_sub hK.2.1]
      by_cases z0 : z < 0
      · rw [if_pos z0, if_pos z0, rcj (w1 := 0)]; exact aw_e hA
      · rw [if_neg z0, if_neg z0]
        by_cases z1 : nI (r' (2 * n + 1) - K) ≤ z
        · rw [if_pos z1, if_pos z1, rcj (w1 := 0)]; exact aw_e hA
        · rw [if_neg z1, if_neg z1]
          by_cases u0 : u < 0
          · rw [if_pos u0, if_pos u0, rcj (w1 := 0)]; exact aw_e hA
          · rw [if_neg u0, if_neg u0]
            by_cases v1 : nI (r' (2 * n + 1)) ≤ u
            · rw [if_pos v1, if_neg (Int32.not_lt.mpr v1), rcj (w1 := 0)]; exact aw_e hA
            · rw [if_neg v1, if_pos (Int32.not_le.mp v1)]
              obtain ⟨a, ha, rfl⟩ := nI_of u0
              obtain ⟨b, hb2, rfl⟩ := nI_of z0
              rw [nleP (by omega) ha] at v1
              rw [nleP (by omega) hb2] at z1
              unfold D_X5_restColumn_j77
              rw [bnd1_e, ia1, if_pos rfl, nI_add, cget (show a < 4 by omega) (show K + b < 5 by omega), bnd1_e, ds10, cpl (show a * 5 + (K + b) < 20 by omega), nI_clamp ha, nI_clamp hb2, th3_000]
              dsimp only
              rw [if_pos rfl]
              exact aw_v rfl
    · rw [if_neg (show ¬ va_up q 1 1 1 = 0 by rw [vu_self]; decide)]
      unfold D_X5_restColumn_j31
      rw [bnd1_e, is0, if_neg e_ne3, th3_010, th3_011]
      dsimp only
      rw [if_neg one0]
      simp only [ite_self]
      exact aw_e hS
  · rw [h1, h2]
    dsimp only [bnd2, bnd1]
    rw [if_neg x1, if_pos rfl, x2]
    exact aw_e List.mem_cons_self
/-- tables alike, counted by pairs -/
noncomputable def lk (r q : Nat → Int32) (f : Nat → Nat → Int64) (i j : Nat) (X : Int32) : Int32 := if D_X3_isLike r q f i j = 0 then X else X + 1
noncomputable def sk (r' : Nat → Nat) (f' : Nat → Nat → Int64) (i j : Nat) (X : Nat) : Nat := if D_X7_isSame (r' (2 * i)) (r' (2 * i + 1)) (f' i) (r' (2 * j)) (r' (2 * j + 1)) (f' j) = 0 then X else X + 1
theorem clp_s {lb : Int32 → Int32 → Int32} {i j k : Nat} {X : Int32} (hi : i < 4) (hj : j < 4) : D_X5_countLikePairs_13 r q f lb (nI i) (k + 1) (nI j) X = D_X5_countLikePairs_13 r q f lb (nI i) k (nI (j + 1)) (lk r q f i j X) := by
  rw [D_X5_countLikePairs_13_s, if_neg (nile4 hj), bnd1_e, s1, nI_clamp (show i < 2 ^ 31 by omega), nI_clamp (show j < 2 ^ 31 by omega)]
  unfold lk
  by_cases e : D_X3_isLike r q f i j = 0
  · rw [if_pos e, if_pos e]
  · rw [if_neg e, if_neg e]
theorem clp_e {lb : Int32 → Int32 → Int32} {w : Int32} {k : Nat} {X : Int32} : D_X5_countLikePairs_13 r q f lb w (k + 1) (nI 4) X = lb (w + 1) X := by
  rw [D_X5_countLikePairs_13_s, if_pos (show (4 : Int32) ≤ nI 4 by decide)]
theorem clp_o {i k : Nat} {X : Int32} (hi : i < 4) : D_X5_countLikePairs_4 r q f (k + 1) (nI i) X = D_X5_countLikePairs_13 r q f (D_X5_countLikePairs_4 r q f k) (nI i) (4 - (i + 1) + 1) (nI (i + 1)) X := by
  rw [D_X5_countLikePairs_4_s, if_neg (nile4 hi), s1, show gap 4 (nI (i + 1)) = 4 - (i + 1) from gapN (a := 4) (by omega) (by omega)]
theorem clp : D_X5_countLikePairs r q f = lk r q f 2 3 (lk r q f 1 3 (lk r q f 1 2 (lk r q f 0 3 (lk r q f 0 2 (lk r q f 0 1 0))))) := by
  unfold D_X5_countLikePairs
  rw [show gap 4 0 + 1 = 4 + 1 from congrArg (· + 1) (gapN (a := 4) (b := 0) (by omega) (by omega))]
  show D_X5_countLikePairs_4 r q f (4 + 1) (nI 0) 0 = _
  rw [clp_o (by decide)]
  show D_X5_countLikePairs_13 r q f (D_X5_countLikePairs_4 r q f (3 + 1)) (nI 0) (3 + 1) (nI 1) 0 = _
  rw [clp_s (by decide) (by decide), clp_s (k := 2 - 0) (by decide) (by decide)]
  show D_X5_countLikePairs_13 r q f (D_X5_countLikePairs_4 r q f (3 + 1)) (nI 0) (1 + 1) (nI 3) (lk r q f 0 2 (lk r q f 0 1 0)) = _
  rw [clp_s (by decide) (by decide), clp_e, s1, clp_o (by decide)]
  show D_X5_countLikePairs_13 r q f (D_X5_countLikePairs_4 r q f (2 + 1)) (nI 1) (2 + 1) (nI 2) _ = _
  rw [clp_s (by decide) (by decide), clp_s (k := 1 - 0) (by decide) (by decide)]
  show D_X5_countLikePairs_13 r q f (D_X5_countLikePairs_4 r q f (2 + 1)) (nI 1) (0 + 1) (nI 4) _ = _
  rw [clp_e, s1, clp_o (by decide)]
  show D_X5_countLikePairs_13 r q f (D_X5_countLikePairs_4 r q f (1 + 1)) (nI 2) (1 + 1) (nI 3) _ = _
  rw [clp_s (by decide) (by decide)]
  show D_X5_countLikePairs_13 r q f (D_X5_countLikePairs_4 r q f (1 + 1)) (nI 2) (0 + 1) (nI 4) _ = _
  rw [clp_e, s1, clp_o (by decide)]
  show D_X5_countLikePairs_13 r q f (D_X5_countLikePairs_4 r q f (0 + 1)) (nI 3) (0 + 1) (nI 4) _ = _
  rw [clp_e, s1, D_X5_countLikePairs_4_s, if_pos (show (4 : Int32) ≤ nI (3 + 1) by decide)]
theorem rlp_s {lb : Nat → Nat → Int32} {i j k X : Nat} (h : j < i) : D_X10_houseNow_45 r' f' lb i (k + 1) j X = D_X10_houseNow_45 r' f' lb i k (j + 1) (sk r' f' i j X) := by
  rw [D_X10_houseNow_45_s, if_neg (by omega), bnd1_e]
  unfold sk
  by_cases e : D_X7_isSame (r' (2 * i)) (r' (2 * i + 1)) (f' i) (r' (2 * j)) (r' (2 * j + 1)) (f' j) = 0
  · rw [if_pos e, if_pos e]; rfl
  · rw [if_neg e, if_neg e]
theorem rlp_e {lb : Nat → Nat → Int32} {i k X : Nat} : D_X10_houseNow_45 r' f' lb i (k + 1) i X = lb (i + 1) X := by
  rw [D_X10_houseNow_45_s, if_pos (Nat.le_refl i)]
theorem rlp_o {i k X : Nat} (h : i < 4) : D_X10_houseNow_37 r' f' (k + 1) i X = D_X10_houseNow_45 r' f' (D_X10_houseNow_37 r' f' k) i (i + 1 + 1) 0 X := by
  rw [D_X10_houseNow_37_s, if_neg (by omega)]
  rfl
theorem rlp : D_X10_houseNow_37 r' f' (5 + 1) 0 0 = nI (sk r' f' 3 2 (sk r' f' 3 1 (sk r' f' 3 0 (sk r' f' 2 1 (sk r' f' 2 0 (sk r' f' 1 0 0)))))) := by
  rw [rlp_o (by decide), rlp_e]
  show D_X10_houseNow_37 r' f' (4 + 1) 1 0 = _
  rw [rlp_o (by decide), rlp_s (by decide), rlp_e]
  show D_X10_houseNow_37 r' f' (3 + 1) 2 _ = _
  rw [rlp_o (by decide), rlp_s (by decide)]
  show D_X10_houseNow_45 r' f' (D_X10_houseNow_37 r' f' 3) 2 (2 + 1) 1 _ = _
  rw [rlp_s (by decide), rlp_e]
  show D_X10_houseNow_37 r' f' (2 + 1) 3 _ = _
  rw [rlp_o (by decide), rlp_s (by decide)]
  show D_X10_houseNow_45 r' f' (D_X10_houseNow_37 r' f' 2) 3 (3 + 1) 1 _ = _
  rw [rlp_s (by decide)]
  show D_X10_houseNow_45 r' f' (D_X10_houseNow_37 r' f' 2) 3 (2 + 1) 2 _ = _
  rw [rlp_s (by decide), rlp_e]
  show D_X10_houseNow_37 r' f' (1 + 1) 4 _ = _
  rw [D_X10_houseNow_37_s, if_pos (by decide)]
theorem lk_sk (h : Rl r q f r' f' q') {i j : Nat} (hi : i < 4) (hj : j < 4) : ∃ b : Nat, (∀ X, lk r q f i j X = X + nI b) ∧ ∀ X, sk r' f' j i X = X + b := by
  unfold lk sk
  rcases like_eq (q := q) (h.1 i hi) (h.1 j hj) with ⟨a1, a2, a3⟩ | ⟨a1, a2, a3⟩
  · exact ⟨1, fun X => by rw [a1, if_neg one0]; rfl, fun X => by rw [a3, if_neg one0]⟩
  · exact ⟨0, fun X => by rw [a1, if_pos rfl]; exact (Int32.add_zero X).symm, fun X => by rw [a3, if_pos rfl]; rfl⟩
theorem pairs_eq (h : Rl r q f r' f' q') : D_X5_countLikePairs r q f = D_X10_houseNow_37 r' f' (5 + 1) 0 0 := by
  rw [clp, rlp]
  obtain ⟨b1, c1, d1⟩ := lk_sk h (i := 0) (j := 1) (by decide) (by decide)
  obtain ⟨b2, c2, d2⟩ := lk_sk h (i := 0) (j := 2) (by decide) (by decide)
  obtain ⟨b3, c3, d3⟩ := lk_sk h (i := 0) (j := 3) (by decide) (by decide)
  obtain ⟨b4, c4, d4⟩ := lk_sk h (i := 1) (j := 2) (by decide) (by decide)
  obtain ⟨b5, c5, d5⟩ := lk_sk h (i := 1) (j := 3) (by decide) (by decide)
  obtain ⟨b6, c6, d6⟩ := lk_sk h (i := 2) (j := 3) (by decide) (by decide)
  rw [c1, c2, c3, c4, c5, c6, d1, d2, d3, d4, d5, d6, show (0 : Int32) = nI 0 from rfl, nI_add, nI_add, nI_add, nI_add, nI_add, nI_add]
  exact congrArg nI (by omega)
theorem house_eq (h : Rl r q f r' f' q') (h0 : ¬ p < 0) (h4 : p ≤ 3) {t : Int32} : D_X5_countHouse r q f p = D_X10_houseNow r' f' (va_up q' 3 t) p := by
  unfold D_X5_countHouse D_X10_houseNow
  have hp : p = 0 ∨ p = 1 ∨ p = 2 ∨ p = 3 := by
    rcases fo5 h0 (Int32.le_trans h4 (by decide)) with e | e | e | e | rfl
    · exact Or.inl e
    · exact Or.inr (Or.inl e)
    · exact Or.inr (Or.inr (Or.inl e))
    · exact Or.inr (Or.inr (Or.inr e))
    · exact absurd h4 (by decide)
  rcases hp with rfl | rfl | rfl | rfl
  · simp only [if_pos (show (0 : Int32) = 0 from rfl), if_neg (show ¬ (3 : Int32) ≤ 0 by decide)]; exact h.2.1
  · simp only [if_neg (show ¬ (1 : Int32) = 0 by decide), if_pos (show (1 : Int32) = 1 from rfl), if_neg (show ¬ (3 : Int32) ≤ 1 by decide)]; exact h.2.2.1
  · simp only [if_neg (show ¬ (2 : Int32) = 0 by decide), if_neg (show ¬ (2 : Int32) = 1 by decide), if_pos (show (2 : Int32) = 2 from rfl), if_neg (show ¬ (3 : Int32) ≤ 2 by decide)]; exact h.2.2.2
  · simp only [if_neg (show ¬ (3 : Int32) = 0 by decide), if_neg (show ¬ (3 : Int32) = 1 by decide), if_neg (show ¬ (3 : Int32) = 2 by decide), if_pos (show (3 : Int32) ≤ 3 by decide)]; rw [bnd1_e]; exact pairs_eq h
set_option maxHeartbeats 4000000 in
set_option maxRecDepth 100000 in
theorem an_house (h : Rl r q f r' f' q') : AW csh (D_X5_house r q f y) (D_X10_house r' f' q' y) := by
  unfold D_X5_house D_X10_house
  have hj : D_X5_house_j14 r q f y 0 = ("java/lang/IllegalArgumentException", 0, r, q, f) := by
    unfold D_X5_house_j14
    rw [bnd1_e, ia0, if_neg e_ne2]
  by_cases y0 : y < 0
  · rw [if_pos y0, if_pos y0, hj, th1_1]
    exact aw_e List.mem_cons_self
  · rw [if_neg y0, if_neg y0]
    by_cases y3 : 3 < y
    · rw [if_pos y3, if_neg (Int32.not_le.mpr y3), hj, th1_1]
      exact aw_e List.mem_cons_self
    · rw [if_neg y3, if_pos (Int32.not_lt.mp y3), th1_0]
      unfold D_X5_house_j14
      rw [bnd1_e, ia1, if_pos rfl, bnd1_e, bnd2_e, bnd1_e, house_eq h y0 (Int32.not_lt.mp y3) (t := 0)]
      exact aw_v rfl
end PAN
