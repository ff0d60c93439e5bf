/-! ===== The two sides' tables are the same: acts ===== -/
/-- a table of both sides -/
def TB (r : Nat → Int32) (f : Nat → Nat → Int64) (i R C : Nat) (g : Nat → Int64) : Prop := CT r f i R C g ∧ (1 ≤ R ∧ R ≤ 4 ∧ 1 ≤ C ∧ C ≤ 4) ∧ (∀ k, k < R * 5 → sm (g k)) ∧ zc C (R * 5) g
/-- both sides stand alike -/
def Rl (r q : Nat → Int32) (f : Nat → Nat → Int64) (r' : Nat → Nat) (f' : Nat → Nat → Int64) (q' : Nat → Int32) : Prop := (∀ i, i < 4 → TB r f i (r' (2 * i)) (r' (2 * i + 1)) (f' i)) ∧ q 2 = q' 0 ∧ q 3 = q' 1 ∧ q 4 = q' 2
abbrev CRs : Type := String × Int32 × (Nat → Int32) × (Nat → Int32) × (Nat → Nat → Int64)
abbrev MRs : Type := Int32 × (Nat → Nat) × (Nat → Nat → Int64) × (Nat → Int32)
/-- what was thrown, or the answer -/
def An (E : String) (x t x' : Int32) : Prop := (E = "" ∧ t = 0 ∧ x = x') ∨ (E = "java/lang/IndexOutOfBoundsException" ∧ t = 1) ∨ (E = "java/lang/IllegalArgumentException" ∧ t = 2)
def Ok (X : CRs) (Y : MRs) : Prop := Rl X.2.2.1 X.2.2.2.1 X.2.2.2.2 Y.2.1 Y.2.2.1 Y.2.2.2 ∧ An X.1 X.2.1 (Y.2.2.2 3) Y.1
section PRL
variable {r q r1 q1 : Nat → Int32} {f f1 : Nat → Nat → Int64} {r' r1' : Nat → Nat} {f' f1' : Nat → Nat → Int64} {q' : Nat → Int32} {R C i n : Nat} {g : Nat → Int64} {x x' : Int32}
theorem th1_0 {a b c d : Int32} : D_X10_isThrown__ a b c d 0 = (0, 0) := rfl
theorem th1_1 {a b c d : Int32} : D_X10_isThrown__ a b c d 1 = (1, 1) := rfl
theorem th2_00 {a b c d : Int32} : D_X10_isThrown_ a b c d 0 0 = (0, 0) := rfl
theorem th2_01 {a b c d : Int32} : D_X10_isThrown_ a b c d 0 1 = (1, 2) := rfl
theorem th2_10 {a b c d : Int32} : D_X10_isThrown_ a b c d 1 0 = (1, 1) := rfl
theorem th2_11 {a b c d : Int32} : D_X10_isThrown_ a b c d 1 1 = (1, 1) := rfl
theorem tb_v (h : TB r f i R C g) {k : Nat} (hk : k < R * 5) : f i k = g k := by
  rw [h.1.2.2 k (by have := h.2.1; omega)]; unfold cp; rw [if_pos hk]
theorem tb_o (h : TB r f i R C g) {k : Nat} (hk : R * 5 ≤ k) (h2 : k < 20) : f i k = 0 := by
  rw [h.1.2.2 k h2]; unfold cp; rw [if_neg (by omega)]
theorem tb_z (h : TB r f i R C g) : zc C 20 (f i) := by
  intro k hk h2
  by_cases e : k < R * 5
  · rw [tb_v h e]; exact h.2.2.2 k e h2
  · exact tb_o h (by omega) hk
theorem tb_cnt (h : TB r f i R C g) : cnt (R * 5) (nzb (f i)) = cnt (R * 5) (nzb g) := cnt_congr (fun k hk => by unfold nzb; rw [tb_v h hk])
theorem tb_cf (h : TB r f i R C g) : D_X3_countFilled r q f i = nI (cnt (R * 5) (nzb g)) := by
  rw [ccf h.1.1 h.1.2.1 (by have := h.2.1; omega) (by have := h.2.1; omega) (tb_z h), tb_cnt h]
theorem e_ne : ¬ ("java/lang/IndexOutOfBoundsException" = "") := by decide
theorem ntb {p : Int32} : (∃ n, n < 4 ∧ p = nI n ∧ D_X5_needTable r q f p = ("", n) ∧ D_X10_isTable p = 1 ∧ p.toNatClampNeg = n) ∨ (∃ E, E ≠ "" ∧ E = "java/lang/IndexOutOfBoundsException" ∧ D_X5_needTable r q f p = (E, 0) ∧ D_X10_isTable p = 0) := by
  unfold D_X5_needTable D_X10_isTable
  by_cases h0 : p < 0
  · rw [if_pos h0, if_pos h0]; exact Or.inr ⟨_, e_ne, rfl, rfl, rfl⟩
  · rw [if_neg h0, if_neg h0]
    obtain ⟨n, hn, rfl⟩ := nI_of h0
    by_cases h4 : n < 4
    · rw [if_pos (by rw [show (4 : Int32) = nI 4 from rfl, nltP hn (by omega)]; exact h4), if_neg (nile4 h4), nI_clamp hn]
      exact Or.inl ⟨n, h4, rfl, rfl, rfl, rfl⟩
    · rw [if_neg (by rw [show (4 : Int32) = nI 4 from rfl, nltP hn (by omega)]; exact h4), if_pos (show (4 : Int32) ≤ nI n from ile (a := 4) (by omega) hn)]
      exact Or.inr ⟨_, e_ne, rfl, rfl, rfl⟩
theorem ish {z : Int32} : (∃ m, 1 ≤ m ∧ m ≤ 4 ∧ z = nI m ∧ D_X5_isCount z = 1 ∧ D_X10_isShort z = 1 ∧ z.toNatClampNeg = m) ∨ (D_X5_isCount z = 0 ∧ D_X10_isShort z = 0) := by
  unfold D_X5_isCount D_X10_isShort
  by_cases h0 : z < 1
  · rw [if_pos h0]; exact Or.inr ⟨rfl, rfl⟩
  · rw [if_neg h0]
    by_cases h4 : 4 < z
    · rw [if_pos h4]; exact Or.inr ⟨rfl, rfl⟩
    · rw [if_neg h4]
      have hz : ¬ z < 0 := fun h => h0 (by rw [i32_lt] at h ⊢; have : (0 : Int32).toInt = 0 := rfl; have : (1 : Int32).toInt = 1 := rfl; omega)
      obtain ⟨n, hn, rfl⟩ := nI_of hz
      rw [show (1 : Int32) = nI 1 from rfl, nltP hn (by omega)] at h0
      rw [show (4 : Int32) = nI 4 from rfl, nltP (by omega) hn] at h4
      exact Or.inl ⟨n, by omega, by omega, rfl, rfl, rfl, nI_clamp hn⟩
theorem itb (hn : n < 4) : D_X10_isTable (nI n) = 1 := by
  unfold D_X10_isTable
  rw [if_neg (ilt0 (by omega)), if_neg (nile4 hn)]
/-- rows of a table -/
theorem hrow (h : Rl r q f r' f' q') (hn : n < 4) {k : Int32} : (∃ m, k = nI m ∧ m < r' (2 * n) ∧ m < 4 ∧ D_X3_hasLine r q f n 0 k = 1 ∧ (∀ p, D_X10_isRow r' f' p (nI n) k = 1) ∧ k.toNatClampNeg = m) ∨ (D_X3_hasLine r q f n 0 k = 0 ∧ ∀ p, D_X10_isRow r' f' p (nI n) k = 0) := by
  have hT := h.1 n hn
  have hi : ∀ p, D_X10_isRow r' f' p (nI n) k = if k < 0 then 0 else if nI (r' (2 * n)) ≤ k then 0 else 1 := by
    intro p
    unfold D_X10_isRow
    dsimp only [bnd1]
    rw [itb hn, if_neg (by decide), nI_clamp (by omega)]
  rcases chas (r := r) (q := q) (f := f) (i := n) (p0 := 0) (k := k) (L := r' (2 * n)) hT.1.1 (by have := hT.2.1; omega) with ⟨m, rfl, h1, h2⟩ | ⟨h1, h2⟩
  · refine Or.inl ⟨m, rfl, h1, by have := hT.2.1; omega, h2, fun p => ?_, nI_clamp (by have := hT.2.1; omega)⟩
    rw [hi, if_neg (ilt0 (by have := hT.2.1; omega)), if_neg (nile (by omega) (by have := hT.2.1; omega))]
  · refine Or.inr ⟨h2, fun p => ?_⟩
    rw [hi]
    rcases h1 with h1 | h1
    · rw [if_pos h1]
    · rw [if_pos h1, ite_self]
theorem hcol (h : Rl r q f r' f' q') (hn : n < 4) {c k : Int32} (hc : ¬ c = 0) : (∃ m, k = nI m ∧ m < r' (2 * n + 1) ∧ m < 4 ∧ D_X3_hasLine r q f n c k = 1 ∧ (∀ p, D_X10_isColumn r' f' p (nI n) k = 1) ∧ k.toNatClampNeg = m) ∨ (D_X3_hasLine r q f n c k = 0 ∧ ∀ p, D_X10_isColumn r' f' p (nI n) k = 0) := by
  have hT := h.1 n hn
  have hi : ∀ p, D_X10_isColumn r' f' p (nI n) k = if k < 0 then 0 else if nI (r' (2 * n + 1)) ≤ k then 0 else 1 := by
    intro p
    unfold D_X10_isColumn
    dsimp only [bnd1]
    rw [itb hn, if_neg (by decide), nI_clamp (by omega)]
  rcases chas (r := r) (q := q) (f := f) (i := n) (p0 := c) (k := k) (L := r' (2 * n + 1)) (by rw [if_neg hc]; exact hT.1.2.1) (by have := hT.2.1; omega) with ⟨m, rfl, h1, h2⟩ | ⟨h1, h2⟩
  · refine Or.inl ⟨m, rfl, h1, by have := hT.2.1; omega, h2, fun p => ?_, nI_clamp (by have := hT.2.1; omega)⟩
    rw [hi, if_neg (ilt0 (by have := hT.2.1; omega)), if_neg (nile (by omega) (by have := hT.2.1; omega))]
  · refine Or.inr ⟨h2, fun p => ?_⟩
    rw [hi]
    rcases h1 with h1 | h1
    · rw [if_pos h1]
    · rw [if_pos h1, ite_self]
/-- rows or columns -/
theorem hlin (h : Rl r q f r' f' q') (hn : n < 4) {c k : Int32} : (∃ m, k = nI m ∧ m < (if c = 0 then r' (2 * n) else r' (2 * n + 1)) ∧ m < 4 ∧ D_X3_hasLine r q f n c k = 1 ∧ (∀ p, D_X10_isLine r' f' p (nI n) c k = 1) ∧ k.toNatClampNeg = m) ∨ (D_X3_hasLine r q f n c k = 0 ∧ ∀ p, D_X10_isLine r' f' p (nI n) c k = 0) := by
  by_cases hc : c = 0
  · subst hc
    rcases hrow h hn (k := k) with ⟨m, h1, h2, h3, h4, h5, h6⟩ | ⟨h1, h2⟩
    · refine Or.inl ⟨m, h1, by rw [if_pos rfl]; exact h2, h3, h4, fun p => ?_, h6⟩
      unfold D_X10_isLine
      dsimp only [bnd1]
      rw [if_pos rfl, h5, if_neg (by decide)]
    · refine Or.inr ⟨h1, fun p => ?_⟩
      unfold D_X10_isLine
      dsimp only [bnd1]
      rw [if_pos rfl, h2, if_pos rfl]
  · rcases hcol h hn hc (k := k) with ⟨m, h1, h2, h3, h4, h5, h6⟩ | ⟨h1, h2⟩
    · refine Or.inl ⟨m, h1, by rw [if_neg hc]; exact h2, h3, h4, fun p => ?_, h6⟩
      unfold D_X10_isLine
      dsimp only [bnd1]
      rw [if_neg hc, h5, if_neg (by decide)]
    · refine Or.inr ⟨h1, fun p => ?_⟩
      unfold D_X10_isLine
      dsimp only [bnd1]
      rw [if_neg hc, h2, if_pos rfl]
theorem isT_0 {p : Int32} {r2 : Nat → Nat} {f2 : Nat → Nat → Int64} {p2 : Nat → Int32} {k : Int32} (h : D_X10_isTable p = 0) : D_X10_isRow r2 f2 p2 p k = 0 ∧ D_X10_isColumn r2 f2 p2 p k = 0 ∧ ∀ c, D_X10_isLine r2 f2 p2 p c k = 0 := by
  have h1 : D_X10_isRow r2 f2 p2 p k = 0 := by unfold D_X10_isRow; dsimp only [bnd1]; rw [h, if_pos rfl]
  have h2 : D_X10_isColumn r2 f2 p2 p k = 0 := by unfold D_X10_isColumn; dsimp only [bnd1]; rw [h, if_pos rfl]
  refine ⟨h1, h2, fun c => ?_⟩
  unfold D_X10_isLine
  dsimp only [bnd1]
  rw [h1, h2, if_pos rfl, ite_self]
/-- one table is another, the others stay -/
theorem Rl_new (h : Rl r q f r' f' q') (hr : ∀ i, i < 4 → i ≠ n → (r1 (2 * i) = r (2 * i) ∧ r1 (2 * i + 1) = r (2 * i + 1)) ∧ f1 i = f i) (hr' : ∀ i, i < 4 → i ≠ n → (r1' (2 * i) = r' (2 * i) ∧ r1' (2 * i + 1) = r' (2 * i + 1)) ∧ f1' i = f' i) (hT : TB r1 f1 n (r1' (2 * n)) (r1' (2 * n + 1)) (f1' n)) (hq : q1 2 = q 2 ∧ q1 3 = q 3 ∧ q1 4 = q 4) : Rl r1 q1 f1 r1' f1' q' := by
  refine ⟨fun i hi => ?_, hq.1.trans h.2.1, hq.2.1.trans h.2.2.1, hq.2.2.trans h.2.2.2⟩
  by_cases e : i = n
  · rw [e]; exact hT
  · obtain ⟨⟨a1, a2⟩, a3⟩ := hr i hi e
    obtain ⟨⟨b1, b2⟩, b3⟩ := hr' i hi e
    rw [b1, b2, b3]
    obtain ⟨⟨c1, c2, c3⟩, c4⟩ := h.1 i hi
    exact ⟨⟨a1.trans c1, a2.trans c2, fun k hk => by rw [a3]; exact c3 k hk⟩, c4⟩
theorem Rl_keep (h : Rl r q f r' f' q') (hr : ∀ i, i < 4 → (r1 (2 * i) = r (2 * i) ∧ r1 (2 * i + 1) = r (2 * i + 1)) ∧ f1 i = f i) (hq : q1 2 = q 2 ∧ q1 3 = q 3 ∧ q1 4 = q 4) : Rl r1 q1 f1 r' f' q' := by
  refine ⟨fun i hi => ?_, hq.1.trans h.2.1, hq.2.1.trans h.2.2.1, hq.2.2.trans h.2.2.2⟩
  obtain ⟨⟨a1, a2⟩, a3⟩ := hr i hi
  obtain ⟨⟨c1, c2, c3⟩, c4⟩ := h.1 i hi
  exact ⟨⟨a1.trans c1, a2.trans c2, fun k hk => by rw [a3]; exact c3 k hk⟩, c4⟩
/-- thrown: nothing is changed -/
theorem ok_e1 (h : Rl r q f r' f' q') : Ok ("java/lang/IndexOutOfBoundsException", x, r, q, f) (x', r', f', va_up q' 3 1) := ⟨⟨h.1, h.2.1, h.2.2.1, h.2.2.2⟩, Or.inr (Or.inl ⟨rfl, (vu_self : va_up q' 3 1 3 = 1)⟩)⟩
theorem ok_e2 (h : Rl r q f r' f' q') : Ok ("java/lang/IllegalArgumentException", x, r, q, f) (x', r', f', va_up q' 3 2) := ⟨⟨h.1, h.2.1, h.2.2.1, h.2.2.2⟩, Or.inr (Or.inr ⟨rfl, (vu_self : va_up q' 3 2 3 = 2)⟩)⟩
/-- refused -/
theorem ok_no (h : Rl r1 q1 f1 r' f' q') : Ok ("", -9, r1, va_up q1 3 (q1 3 + 1), f1) (-9, r', f', va_up (va_up q' 3 0) 1 ((va_up q' 3 0) 1 + 1)) := by
  refine ⟨⟨h.1, ?_, ?_, ?_⟩, Or.inl ⟨rfl, ?_, rfl⟩⟩
  · show va_up q1 3 (q1 3 + 1) 2 = va_up (va_up q' 3 0) 1 ((va_up q' 3 0) 1 + 1) 0
    rw [vu_ne (by decide), vu_ne (by decide), vu_ne (by decide)]; exact h.2.1
  · show va_up q1 3 (q1 3 + 1) 3 = va_up (va_up q' 3 0) 1 ((va_up q' 3 0) 1 + 1) 1
    rw [vu_self, vu_self, vu_ne (by decide), h.2.2.1]
  · show va_up q1 3 (q1 3 + 1) 4 = va_up (va_up q' 3 0) 1 ((va_up q' 3 0) 1 + 1) 2
    rw [vu_ne (by decide), vu_ne (by decide), vu_ne (by decide)]; exact h.2.2.2
  · show va_up (va_up q' 3 0) 1 ((va_up q' 3 0) 1 + 1) 3 = 0
    rw [vu_ne (by decide), vu_self]
/-- done -/
theorem ok_do (h : Rl r1 q1 f1 r1' f1' q') (hx : x = x') : Ok ("", x, r1, va_up q1 2 (q1 2 + 1), f1) (x', r1', f1', va_up (va_up q' 3 0) 0 ((va_up q' 3 0) 0 + 1)) := by
  refine ⟨⟨h.1, ?_, ?_, ?_⟩, Or.inl ⟨rfl, ?_, hx⟩⟩
  · show va_up q1 2 (q1 2 + 1) 2 = va_up (va_up q' 3 0) 0 ((va_up q' 3 0) 0 + 1) 0
    rw [vu_self, vu_self, vu_ne (by decide), h.2.1]
  · show va_up q1 2 (q1 2 + 1) 3 = va_up (va_up q' 3 0) 0 ((va_up q' 3 0) 0 + 1) 1
    rw [vu_ne (by decide), vu_ne (by decide), vu_ne (by decide)]; exact h.2.2.1
  · show va_up q1 2 (q1 2 + 1) 4 = va_up (va_up q' 3 0) 0 ((va_up q' 3 0) 0 + 1) 2
    rw [vu_ne (by decide), vu_ne (by decide), vu_ne (by decide)]; exact h.2.2.2
  · show va_up (va_up q' 3 0) 0 ((va_up q' 3 0) 0 + 1) 3 = 0
    rw [vu_ne (by decide), vu_self]
/-- a table of that shape and these numbers stands in its place -/
def pr (r' : Nat → Nat) (n R C : Nat) : Nat → Nat := va_up (va_up r' (2 * n) R) (2 * n + 1) C
theorem pr_R : pr r' n R C (2 * n) = R := (vu_ne (show 2 * n ≠ 2 * n + 1 by omega)).trans vu_self
theorem pr_C : pr r' n R C (2 * n + 1) = C := vu_self
theorem pr_o (h : i ≠ n) : pr r' n R C (2 * i) = r' (2 * i) ∧ pr r' n R C (2 * i + 1) = r' (2 * i + 1) := ⟨(vu_ne (show 2 * i ≠ 2 * n + 1 by omega)).trans (vu_ne (by omega)), (vu_ne (by omega)).trans (vu_ne (show 2 * i + 1 ≠ 2 * n by omega))⟩
theorem Rl_set (h : Rl r q f r' f' q') (hr : ∀ i, i < 4 → i ≠ n → (r1 (2 * i) = r (2 * i) ∧ r1 (2 * i + 1) = r (2 * i + 1)) ∧ f1 i = f i) (hT : TB r1 f1 n R C g) (hq : q1 2 = q 2 ∧ q1 3 = q 3 ∧ q1 4 = q 4) : Rl r1 q1 f1 (pr r' n R C) (va_up f' n g) q' :=
  Rl_new h hr (fun i _ e => ⟨pr_o e, vu_ne e⟩) (by rw [pr_R, pr_C, vu_self]; exact hT) hq
theorem sm0 : sm 0 := ⟨by decide, by decide⟩
theorem sm1 : sm 1 := ⟨by decide, by decide⟩
theorem e_ne2 : ¬ ("java/lang/IllegalArgumentException" = "") := by decide
theorem ro (e : i ≠ n) : (rs r n R C (2 * i) = r (2 * i) ∧ rs r n R C (2 * i + 1) = r (2 * i + 1)) ∧ va_up f n g i = f i := ⟨⟨rs_R' e, rs_C' e⟩, vu_ne e⟩
theorem nx0 : D_X5_needIndex r q f 0 = "java/lang/IndexOutOfBoundsException" := if_pos rfl
theorem nx1 : D_X5_needIndex r q f 1 = "" := if_neg (by decide)
theorem ia0 : D_X5_needArgument r q f 0 = "java/lang/IllegalArgumentException" := if_pos rfl
theorem ia1 : D_X5_needArgument r q f 1 = "" := if_neg (by decide)
theorem one0 : ¬ (1 : Int32) = 0 := by decide
theorem ls_o (h : Rl r q f r' f' q') (hn : n < 4) : D_X7_others (r' (2 * n)) (r' (2 * n + 1)) (f' n) = D_X3_countFilled r q f n := by
  rw [tb_cf (h.1 n hn), rot]
theorem make_eq (h : Rl r q f r' f' q') {y z u : Int32} : Ok (D_X5_make r q f y z u) (D_X10_make r' f' q' y z u) := by
  unfold D_X5_make D_X10_make
  rcases ntb (r := r) (q := q) (f := f) (p := y) with ⟨n, hn, rfl, h1, h2, h3⟩ | ⟨E, x1, x2, h1, h2⟩
  · rw [h1, h2]
    dsimp only [bnd2, bnd1]
    rw [if_pos rfl, if_neg (show ¬ (1 : Int32) = 0 by decide)]
    rcases ish (z := z) with ⟨a, a1, a2, rfl, a3, a4, a5⟩ | ⟨a3, a4⟩
    · rw [a3, a4, if_neg (show ¬ (1 : Int32) = 0 by decide), if_neg (show ¬ (1 : Int32) = 0 by decide)]
      rcases ish (z := u) with ⟨b, b1, b2, rfl, b3, b4, b5⟩ | ⟨b3, b4⟩
      · rw [b3, b4, if_neg (show ¬ (1 : Int32) = 0 by decide), if_neg (show ¬ (1 : Int32) = 0 by decide), th2_00]
        unfold D_X5_make_j26 D_X10_lay D_X5_tellDone
        dsimp only [bnd1, bnd3, bnd4]
        rw [ia1, if_pos rfl, crs a1 a2 b1 (by omega), h3, a5, b5, ls_o h hn]
        refine ok_do (r1' := pr r' n a b) (Rl_set h (fun i _ e => ro e) ⟨⟨rs_R, rs_C, fun k hk => ?_⟩, ⟨a1, a2, b1, b2⟩, fun _ _ => sm0, fun _ _ _ => rfl⟩ ⟨rfl, rfl, rfl⟩) rfl
        show va_up f n (zf 20 (f n)) n k = _
        rw [vu_self]; unfold zf cp; rw [if_pos hk, ite_self]
      · rw [b3, b4, if_pos rfl, if_pos rfl, th2_01]
        unfold D_X5_make_j26
        dsimp only [bnd1]
        rw [ia0, if_neg e_ne2]
        exact ok_e2 h
    · rw [a3, a4, if_pos rfl, if_pos rfl, th2_01]
      unfold D_X5_make_j26
      dsimp only [bnd1]
      rw [ia0, if_neg e_ne2]
      exact ok_e2 h
  · rw [h1, h2]
    dsimp only [bnd2, bnd1]
    rw [if_neg x1, if_pos rfl, th2_10, th2_11, ite_self, ite_self, x2]
    exact ok_e1 h
theorem unit_eq (h : Rl r q f r' f' q') {y z : Int32} : Ok (D_X5_unit r q f y z) (D_X10_unit r' f' q' y z) := by
  unfold D_X5_unit D_X10_unit
  rcases ntb (r := r) (q := q) (f := f) (p := y) with ⟨n, hn, rfl, h1, h2, h3⟩ | ⟨E, x1, x2, h1, h2⟩
  · rw [h1, h2]
    dsimp only [bnd2, bnd1]
    rw [if_pos rfl, if_neg (show ¬ (1 : Int32) = 0 by decide)]
    rcases ish (z := z) with ⟨a, a1, a2, rfl, a3, a4, a5⟩ | ⟨a3, a4⟩
    · rw [a3, a4, if_neg (show ¬ (1 : Int32) = 0 by decide), th2_00, ia1, if_pos rfl]
      unfold D_X10_lay D_X5_tellDone
      dsimp only [bnd1, bnd3, bnd4]
      rw [cun a1 a2, h3, a5, ls_o h hn, run]
      refine ok_do (r1' := pr r' n a a) (Rl_set h (fun i _ e => ro e) ⟨⟨rs_R, rs_C, fun k hk => ?_⟩, ⟨a1, a2, a1, a2⟩, fun k _ => ?_, fun k hk hb => un_zo k (by omega) (Or.inr hb)⟩ ⟨rfl, rfl, rfl⟩) rfl
      · show va_up f n (un a (zf 20 (f n))) n k = _
        rw [vu_self, un_cp a2, cpl hk]
        unfold cp
        by_cases e : k < a * 5
        · rw [if_pos e]
        · rw [if_neg e]; exact un_zo k hk (Or.inl (by omega))
      · unfold un
        split
        · exact sm1
        · exact sm0
    · rw [a3, a4, if_pos rfl, th2_01, ia0, if_neg e_ne2]
      exact ok_e2 h
  · rw [h1, h2]
    dsimp only [bnd2, bnd1]
    rw [if_neg x1, if_pos rfl, th2_10, th2_11, ite_self, x2]
    exact ok_e1 h
end PRL
