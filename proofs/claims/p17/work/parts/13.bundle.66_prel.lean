section
-- 66.prel
/-! ===== The two sides' tables are the same: acts ===== -/
/-- a table of both sides -/
def TB (r : Nat → Int32) (f : Nat → Nat → Int64) (i R C : Nat) (g : Nat → Int64) : Prop := CT r f i R C g ∧ (1 ≤ R ∧ R ≤ 4 ∧ 1 ≤ C ∧ C ≤ 4) ∧ (∀ k, k < R * 5 → sm (g k)) ∧ zc C (R * 5) g
/-- both sides stand alike -/
def Rl (r q : Nat → Int32) (f : Nat → Nat → Int64) (r' : Nat → Nat) (f' : Nat → Nat → Int64) (q' : Nat → Int32) : Prop := (∀ i, i < 4 → TB r f i (r' (2 * i)) (r' (2 * i + 1)) (f' i)) ∧ q 2 = q' 0 ∧ q 3 = q' 1 ∧ q 4 = q' 2
abbrev CRs : Type := String × Int32 × (Nat → Int32) × (Nat → Int32) × (Nat → Nat → Int64)
abbrev MRs : Type := Int32 × (Nat → Nat) × (Nat → Nat → Int64) × (Nat → Int32)
/-- what was thrown, or the answer -/
def An (E : String) (x t x' : Int32) : Prop := (E = "" ∧ t = 0 ∧ x = x') ∨ (E = "java/lang/IndexOutOfBoundsException" ∧ t = 1) ∨ (E = "java/lang/IllegalArgumentException" ∧ t = 2)
def Ok (X : CRs) (Y : MRs) : Prop := Rl X.2.2.1 X.2.2.2.1 X.2.2.2.2 Y.2.1 Y.2.2.1 Y.2.2.2 ∧ An X.1 X.2.1 (Y.2.2.2 3) Y.1
section PRL
variable {r q r1 q1 : Nat → Int32} {f f1 : Nat → Nat → Int64} {r' r1' : Nat → Nat} {f' f1' : Nat → Nat → Int64} {q' : Nat → Int32} {R C i n : Nat} {g : Nat → Int64} {x x' : Int32}
theorem th1_0 {a b c d : Int32} : D_X10_isThrown__ a b c d 0 = (0, 0) := rfl
theorem th1_1 {a b c d : Int32} : D_X10_isThrown__ a b c d 1 = (1, 1) := rfl
theorem th2_00 {a b c d : Int32} : D_X10_isThrown_ a b c d 0 0 = (0, 0) := rfl
theorem th2_01 {a b c d : Int32} : D_X10_isThrown_ a b c d 0 1 = (1, 2) := rfl
theorem th2_10 {a b c d : Int32} : D_X10_isThrown_ a b c d 1 0 = (1, 1) := rfl
theorem th2_11 {a b c d : Int32} : D_X10_isThrown_ a b c d 1 1 = (1, 1) := rfl
theorem tb_v (h : TB r f i R C g) {k : Nat} (hk : k < R * 5) : f i k = g k := by
  rw [h.1.2.2 k (by have := h.2.1; omega)]; unfold cp; rw [if_pos hk]
theorem tb_o (h : TB r f i R C g) {k : Nat} (hk : R * 5 ≤ k) (h2 : k < 20) : f i k = 0 := by
  rw [h.1.2.2 k h2]; unfold cp; rw [if_neg (by omega)]
theorem tb_z (h : TB r f i R C g) : zc C 20 (f i) := by
  intro k hk h2
  by_cases e : k < R * 5
  · rw [tb_v h e]; exact h.2.2.2 k e h2
  · exact tb_o h (by omega) hk
theorem tb_cnt (h : TB r f i R C g) : cnt (R * 5) (nzb (f i)) = cnt (R * 5) (nzb g) := cnt_congr (fun k hk => by unfold nzb; rw [tb_v h hk])
theorem tb_cf (h : TB r f i R C g) : D_X3_countFilled r q f i = nI (cnt (R * 5) (nzb g)) := by
  rw [ccf h.1.1 h.1.2.1 (by have := h.2.1; omega) (by have := h.2.1; omega) (tb_z h), tb_cnt h]
theorem e_ne : ¬ ("java/lang/IndexOutOfBoundsException" = "") := by decide
theorem ntb {p : Int32} : (∃ n, n < 4 ∧ p = nI n ∧ D_X5_needTable r q f p = ("", n) ∧ D_X10_isTable p = 1 ∧ p.toNatClampNeg = n) ∨ (∃ E, E ≠ "" ∧ E = "java/lang/IndexOutOfBoundsException" ∧ D_X5_needTable r q f p = (E, 0) ∧ D_X10_isTable p = 0) := by
  unfold D_X5_needTable D_X10_isTable
  by_cases h0 : p < 0
  · rw [if_pos h0, if_pos h0]; exact Or.inr ⟨_, e_ne, rfl, rfl, rfl⟩
  · rw [if_neg h0, if_neg h0]
    obtain ⟨n, hn, rfl⟩ := nI_of h0
    by_cases h4 : n < 4
    · rw [if_pos (by rw [show (4 : Int32) = nI 4 from rfl, nltP hn (by omega)]; exact h4), if_neg (nile4 h4), nI_clamp hn]
      exact Or.inl ⟨n, h4, rfl, rfl, rfl, rfl⟩
    · rw [if_neg (by rw [show (4 : Int32) = nI 4 from rfl, nltP hn (by omega)]; exact h4), if_pos (show (4 : Int32) ≤ nI n from ile (a := 4) (by omega) hn)]
      exact Or.inr ⟨_, e_ne, rfl, rfl, rfl⟩
theorem ish {z : Int32} : (∃ m, 1 ≤ m ∧ m ≤ 4 ∧ z = nI m ∧ D_X5_isCount z = 1 ∧ D_X10_isShort z = 1 ∧ z.toNatClampNeg = m) ∨ (D_X5_isCount z = 0 ∧ D_X10_isShort z = 0) := by
  unfold D_X5_isCount D_X10_isShort
  by_cases h0 : z < 1
  · rw [if_pos h0]; exact Or.inr ⟨rfl, rfl⟩
  · rw [if_neg h0]
    by_cases h4 : 4 < z
    · rw [if_pos h4]; exact Or.inr ⟨rfl, rfl⟩
    · rw [if_neg h4]
      have hz : ¬ z < 0 := fun h => h0 (by rw [i32_lt] at h ⊢; have : (0 : Int32).toInt = 0 := rfl; have : (1 : Int32).toInt = 1 := rfl; omega)
      obtain ⟨n, hn, rfl⟩ := nI_of hz
      rw [show (1 : Int32) = nI 1 from rfl, nltP hn (by omega)] at h0
      rw [show (4 : Int32) = nI 4 from rfl, nltP (by omega) hn] at h4
      exact Or.inl ⟨n, by omega, by omega, rfl, rfl, rfl, nI_clamp hn⟩
theorem itb (hn : n < 4) : D_X10_isTable (nI n) = 1 := by
  unfold D_X10_isTable
  rw [if_neg (ilt0 (by omega)), if_neg (nile4 hn)]
/-- rows of a table -/
theorem hrow (h : Rl r q f r' f' q') (hn : n < 4) {k : Int32} : (∃ m, k = nI m ∧ m < r' (2 * n) ∧ m < 4 ∧ D_X3_hasLine r q f n 0 k = 1 ∧ (∀ p, D_X10_isRow r' f' p (nI n) k = 1) ∧ k.toNatClampNeg = m) ∨ (D_X3_hasLine r q f n 0 k = 0 ∧ ∀ p, D_X10_isRow r' f' p (nI n) k = 0) := by
  have hT := h.1 n hn
  have hi : ∀ p, D_X10_isRow r' f' p (nI n) k = if k < 0 then 0 else if nI (r' (2 * n)) ≤ k then 0 else 1 := by
    intro p
    unfold D_X10_isRow
    dsimp only [bnd1]
    rw [itb hn, if_neg (by decide), nI_clamp (by omega)]
  rcases chas (r := r) (q := q) (f := f) (i := n) (p0 := 0) (k := k) (L := r' (2 * n)) hT.1.1 (by have := hT.2.1; omega) with ⟨m, rfl, h1, h2⟩ | ⟨h1, h2⟩
  · refine Or.inl ⟨m, rfl, h1, by have := hT.2.1; omega, h2, fun p => ?_, nI_clamp (by have := hT.2.1; omega)⟩
    rw [hi, if_neg (ilt0 (by have := hT.2.1; omega)), if_neg (nile (by omega) (by have := hT.2.1; omega))]
  · refine Or.inr ⟨h2, fun p => ?_⟩
    rw [hi]
    rcases h1 with h1 | h1
    · rw [if_pos h1]
    · rw [if_pos h1, ite_self]
theorem hcol (h : Rl r q f r' f' q') (hn : n < 4) {c k : Int32} (hc : ¬ c = 0) : (∃ m, k = nI m ∧ m < r' (2 * n + 1) ∧ m < 4 ∧ D_X3_hasLine r q f n c k = 1 ∧ (∀ p, D_X10_isColumn r' f' p (nI n) k = 1) ∧ k.toNatClampNeg = m) ∨ (D_X3_hasLine r q f n c k = 0 ∧ ∀ p, D_X10_isColumn r' f' p (nI n) k = 0) := by
  have hT := h.1 n hn
  have hi : ∀ p, D_X10_isColumn r' f' p (nI n) k = if k < 0 then 0 else if nI (r' (2 * n + 1)) ≤ k then 0 else 1 := by
    intro p
    unfold D_X10_isColumn
    dsimp only [bnd1]
    rw [itb hn, if_neg (by decide), nI_clamp (by omega)]
  rcases chas (r := r) (q := q) (f := f) (i := n) (p0 := c) (k := k) (L := r' (2 * n + 1)) (by rw [if_neg hc]; exact hT.1.2.1) (by have := hT.2.1; omega) with ⟨m, rfl, h1, h2⟩ | ⟨h1, h2⟩
  · refine Or.inl ⟨m, rfl, h1, by have := hT.2.1; omega, h2, fun p => ?_, nI_clamp (by have := hT.2.1; omega)⟩
    rw [hi, if_neg (ilt0 (by have := hT.2.1; omega)), if_neg (nile (by omega) (by have := hT.2.1; omega))]
  · refine Or.inr ⟨h2, fun p => ?_⟩
    rw [hi]
    rcases h1 with h1 | h1
    · rw [if_pos h1]
    · rw [if_pos h1, ite_self]
/-- rows or columns -/
theorem hlin (h : Rl r q f r' f' q') (hn : n < 4) {c k : Int32} : (∃ m, k = nI m ∧ m < (if c = 0 then r' (2 * n) else r' (2 * n + 1)) ∧ m < 4 ∧ D_X3_hasLine r q f n c k = 1 ∧ (∀ p, D_X10_isLine r' f' p (nI n) c k = 1) ∧ k.toNatClampNeg = m) ∨ (D_X3_hasLine r q f n c k = 0 ∧ ∀ p, D_X10_isLine r' f' p (nI n) c k = 0) := by
  by_cases hc : c = 0
  · subst hc
    rcases hrow h hn (k := k) with ⟨m, h1, h2, h3, h4, h5, h6⟩ | ⟨h1, h2⟩
    · refine Or.inl ⟨m, h1, by rw [if_pos rfl]; exact h2, h3, h4, fun p => ?_, h6⟩
      unfold D_X10_isLine
      dsimp only [bnd1]
      rw [if_pos rfl, h5, if_neg (by decide)]
    · refine Or.inr ⟨h1, fun p => ?_⟩
      unfold D_X10_isLine
      dsimp only [bnd1]
      rw [if_pos rfl, h2, if_pos rfl]
  · rcases hcol h hn hc (k := k) with ⟨m, h1, h2, h3, h4, h5, h6⟩ | ⟨h1, h2⟩
    · refine Or.inl ⟨m, h1, by rw [if_neg hc]; exact h2, h3, h4, fun p => ?_, h6⟩
      unfold D_X10_isLine
      dsimp only [bnd1]
      rw [if_neg hc, h5, if_neg (by decide)]
    · refine Or.inr ⟨h1, fun p => ?_⟩
      unfold D_X10_isLine
      dsimp only [bnd1]
      rw [if_neg hc, h2, if_pos rfl]
theorem isT_0 {p : Int32} {r2 : Nat → Nat} {f2 : Nat → Nat → Int64} {p2 : Nat → Int32} {k : Int32} (h : D_X10_isTable p = 0) : D_X10_isRow r2 f2 p2 p k = 0 ∧ D_X10_isColumn r2 f2 p2 p k = 0 ∧ ∀ c, D_X10_isLine r2 f2 p2 p c k = 0 := by
  have h1 : D_X10_isRow r2 f2 p2 p k = 0 := by unfold D_X10_isRow; dsimp only [bnd1]; rw [h, if_pos rfl]
  have h2 : D_X10_isColumn r2 f2 p2 p k = 0 := by unfold D_X10_isColumn; dsimp only [bnd1]; rw [h, if_pos rfl]
  refine ⟨h1, h2, fun c => ?_⟩
  unfold D_X10_isLine
  dsimp only [bnd1]
  rw [h1, h2, if_pos rfl, ite_self]
/-- one table is another, the others stay -/
theorem Rl_new (h : Rl r q f r' f' q') (hr : ∀ i, i < 4 → i ≠ n → (r1 (2 * i) = r (2 * i) ∧ r1 (2 * i + 1) = r (2 * i + 1)) ∧ f1 i = f i) (hr' : ∀ i, i < 4 → i ≠ n → (r1' (2 * i) = r' (2 * i) ∧ r1' (2 * i + 1) = r' (2 * i + 1)) ∧ f1' i = f' i) (hT : TB r1 f1 n (r1' (2 * n)) (r1' (2 * n + 1)) (f1' n)) (hq : q1 2 = q 2 ∧ q1 3 = q 3 ∧ q1 4 = q 4) : Rl r1 q1 f1 r1' f1' q' := by
  refine ⟨fun i hi => ?_, hq.1.trans h.2.1, hq.2.1.trans h.2.2.1, hq.2.2.trans h.2.2.2⟩
  by_cases e : i = n
  · rw [e]; exact hT
  · obtain ⟨⟨a1, a2⟩, a3⟩ := hr i hi e
    obtain ⟨⟨b1, b2⟩, b3⟩ := hr' i hi e
    rw [b1, b2, b3]
    obtain ⟨⟨c1, c2, c3⟩, c4⟩ := h.1 i hi
    exact ⟨⟨a1.trans c1, a2.trans c2, fun k hk => by rw [a3]; exact c3 k hk⟩, c4⟩
theorem Rl_keep (h : Rl r q f r' f' q') (hr : ∀ i, i < 4 → (r1 (2 * i) = r (2 * i) ∧ r1 (2 * i + 1) = r (2 * i + 1)) ∧ f1 i = f i) (hq : q1 2 = q 2 ∧ q1 3 = q 3 ∧ q1 4 = q 4) : Rl r1 q1 f1 r' f' q' := by
  refine ⟨fun i hi => ?_, hq.1.trans h.2.1, hq.2.1.trans h.2.2.1, hq.2.2.trans h.2.2.2⟩
  obtain ⟨⟨a1, a2⟩, a3⟩ := hr i hi
  obtain ⟨⟨c1, c2, c3⟩, c4⟩ := h.1 i hi
  exact ⟨⟨a1.trans c1, a2.trans c2, fun k hk => by rw [a3]; exact c3 k hk⟩, c4⟩
/-- thrown: nothing is changed -/
theorem ok_e1 (h : Rl r q f r' f' q') : Ok ("java/lang/IndexOutOfBoundsException", x, r, q, f) (x', r', f', va_up q' 3 1) := ⟨⟨h.1, h.2.1, h.2.2.1, h.2.2.2⟩, Or.inr (Or.inl ⟨rfl, (vu_self : va_up q' 3 1 3 = 1)⟩)⟩
theorem ok_e2 (h : Rl r q f r' f' q') : Ok ("java/lang/IllegalArgumentException", x, r, q, f) (x', r', f', va_up q' 3 2) := ⟨⟨h.1, h.2.1, h.2.2.1, h.2.2.2⟩, Or.inr (Or.inr ⟨rfl, (vu_self : va_up q' 3 2 3 = 2)⟩)⟩
/-- refused -/
theorem ok_no (h : Rl r1 q1 f1 r' f' q') : Ok ("", -9, r1, va_up q1 3 (q1 3 + 1), f1) (-9, r', f', va_up (va_up q' 3 0) 1 ((va_up q' 3 0) 1 + 1)) := by
  refine ⟨⟨h.1, ?_, ?_, ?_⟩, Or.inl ⟨rfl, ?_, rfl⟩⟩
  · show va_up q1 3 (q1 3 + 1) 2 = va_up (va_up q' 3 0) 1 ((va_up q' 3 0) 1 + 1) 0
    rw [vu_ne (by decide), vu_ne (by decide), vu_ne (by decide)]; exact h.2.1
  · show va_up q1 3 (q1 3 + 1) 3 = va_up (va_up q' 3 0) 1 ((va_up q' 3 0) 1 + 1) 1
    rw [vu_self, vu_self, vu_ne (by decide), h.2.2.1]
  · show va_up q1 3 (q1 3 + 1) 4 = va_up (va_up q' 3 0) 1 ((va_up q' 3 0) 1 + 1) 2
    rw [vu_ne (by decide), vu_ne (by decide), vu_ne (by decide)]; exact h.2.2.2
  · show va_up (va_up q' 3 0) 1 ((va_up q' 3 0) 1 + 1) 3 = 0
    rw [vu_ne (by decide), vu_self]
/-- done -/
theorem ok_do (h : Rl r1 q1 f1 r1' f1' q') (hx : x = x') : Ok ("", x, r1, va_up q1 2 (q1 2 + 1), f1) (x', r1', f1', va_up (va_up q' 3 0) 0 ((va_up q' 3 0) 0 + 1)) := by
  refine ⟨⟨h.1, ?_, ?_, ?_⟩, Or.inl ⟨rfl, ?_, hx⟩⟩
  · show va_up q1 2 (q1 2 + 1) 2 = va_up (va_up q' 3 0) 0 ((va_up q' 3 0) 0 + 1) 0
    rw [vu_self, vu_self, vu_ne (by decide), h.2.1]
  · show va_up q1 2 (q1 2 + 1) 3 = va_up (va_up q' 3 0) 0 ((va_up q' 3 0) 0 + 1) 1
    rw [vu_ne (by decide), vu_ne (by decide), vu_ne (by decide)]; exact h.2.2.1
  · show va_up q1 2 (q1 2 + 1) 4 = va_up (va_up q' 3 0) 0 ((va_up q' 3 0) 0 + 1) 2
    rw [vu_ne (by decide), vu_ne (by decide), vu_ne (by decide)]; exact h.2.2.2
  · show va_up (va_up q' 3 0) 0 ((va_up q' 3 0) 0 + 1) 3 = 0
    rw [vu_ne (by decide), vu_self]
/-- a table of that shape and these numbers stands in its place -/
def pr (r' : Nat → Nat) (n R C : Nat) : Nat → Nat := va_up (va_up r' (2 * n) R) (2 * n + 1) C
theorem pr_R : pr r' n R C (2 * n) = R := (vu_ne (show 2 * n ≠ 2 * n + 1 by omega)).trans vu_self
theorem pr_C : pr r' n R C (2 * n + 1) = C := vu_self
theorem pr_o (h : i ≠ n) : pr r' n R C (2 * i) = r' (2 * i) ∧ pr r' n R C (2 * i + 1) = r' (2 * i + 1) := ⟨(vu_ne (show 2 * i ≠ 2 * n + 1 by omega)).trans (vu_ne (by omega)), (vu_ne (by omega)).trans (vu_ne (show 2 * i + 1 ≠ 2 * n by omega))⟩
theorem Rl_set (h : Rl r q f r' f' q') (hr : ∀ i, i < 4 → i ≠ n → (r1 (2 * i) = r (2 * i) ∧ r1 (2 * i + 1) = r (2 * i + 1)) ∧ f1 i = f i) (hT : TB r1 f1 n R C g) (hq : q1 2 = q 2 ∧ q1 3 = q 3 ∧ q1 4 = q 4) : Rl r1 q1 f1 (pr r' n R C) (va_up f' n g) q' :=
  Rl_new h hr (fun i _ e => ⟨pr_o e, vu_ne e⟩) (by rw [pr_R, pr_C, vu_self]; exact hT) hq
theorem sm0 : sm 0 := ⟨by decide, by decide⟩
theorem sm1 : sm 1 := ⟨by decide, by decide⟩
theorem e_ne2 : ¬ ("java/lang/IllegalArgumentException" = "") := by decide
theorem ro (e : i ≠ n) : (rs r n R C (2 * i) = r (2 * i) ∧ rs r n R C (2 * i + 1) = r (2 * i + 1)) ∧ va_up f n g i = f i := ⟨⟨rs_R' e, rs_C' e⟩, vu_ne e⟩
theorem nx0 : D_X5_needIndex r q f 0 = "java/lang/IndexOutOfBoundsException" := if_pos rfl
theorem nx1 : D_X5_needIndex r q f 1 = "" := if_neg (by decide)
theorem ia0 : D_X5_needArgument r q f 0 = "java/lang/IllegalArgumentException" := if_pos rfl
theorem ia1 : D_X5_needArgument r q f 1 = "" := if_neg (by decide)
theorem one0 : ¬ (1 : Int32) = 0 := by decide
theorem ls_o (h : Rl r q f r' f' q') (hn : n < 4) : D_X7_others (r' (2 * n)) (r' (2 * n + 1)) (f' n) = D_X3_countFilled r q f n := by
  rw [tb_cf (h.1 n hn), rot]
theorem make_eq (h : Rl r q f r' f' q') {y z u : Int32} : Ok (D_X5_make r q f y z u) (D_X10_make r' f' q' y z u) := by
  unfold D_X5_make D_X10_make
  rcases ntb (r := r) (q := q) (f := f) (p := y) with ⟨n, hn, rfl, h1, h2, h3⟩ | ⟨E, x1, x2, h1, h2⟩
  · rw [h1, h2]
    dsimp only [bnd2, bnd1]
    rw [if_pos rfl, if_neg (show ¬ (1 : Int32) = 0 by decide)]
    rcases ish (z := z) with ⟨a, a1, a2, rfl, a3, a4, a5⟩ | ⟨a3, a4⟩
    · rw [a3, a4, if_neg (show ¬ (1 : Int32) = 0 by decide), if_neg (show ¬ (1 : Int32) = 0 by decide)]
      rcases ish (z := u) with ⟨b, b1, b2, rfl, b3, b4, b5⟩ | ⟨b3, b4⟩
      · rw [b3, b4, if_neg (show ¬ (1 : Int32) = 0 by decide), if_neg (show ¬ (1 : Int32) = 0 by decide), th2_00]
        unfold D_X5_make_j26 D_X10_lay D_X5_tellDone
        dsimp only [bnd1, bnd3, bnd4]
        rw [ia1, if_pos rfl, crs a1 a2 b1 (by omega), h3, a5, b5, ls_o h hn]
        refine ok_do (r1' := pr r' n a b) (Rl_set h (fun i _ e => ro e) ⟨⟨rs_R, rs_C, fun k hk => ?_⟩, ⟨a1, a2, b1, b2⟩, fun _ _ => sm0, fun _ _ _ => rfl⟩ ⟨rfl, rfl, rfl⟩) rfl
        show va_up f n (zf 20 (f n)) n k = _
        rw [vu_self]; unfold zf cp; rw [if_pos hk, ite_self]
      · rw [b3, b4, if_pos rfl, if_pos rfl, th2_01]
        unfold D_X5_make_j26
        dsimp only [bnd1]
        rw [ia0, if_neg e_ne2]
        exact ok_e2 h
    · rw [a3, a4, if_pos rfl, if_pos rfl, th2_01]
      unfold D_X5_make_j26
      dsimp only [bnd1]
      rw [ia0, if_neg e_ne2]
      exact ok_e2 h
  · rw [h1, h2]
    dsimp only [bnd2, bnd1]
    rw [if_neg x1, if_pos rfl, th2_10, th2_11, ite_self, ite_self, x2]
    exact ok_e1 h
theorem unit_eq (h : Rl r q f r' f' q') {y z : Int32} : Ok (D_X5_unit r q f y z) (D_X10_unit r' f' q' y z) := by
  unfold D_X5_unit D_X10_unit
  rcases ntb (r := r) (q := q) (f := f) (p := y) with ⟨n, hn, rfl, h1, h2, h3⟩ | ⟨E, x1, x2, h1, h2⟩
  · rw [h1, h2]
    dsimp only [bnd2, bnd1]
    rw [if_pos rfl, if_neg (show ¬ (1 : Int32) = 0 by decide)]
    rcases ish (z := z) with ⟨a, a1, a2, rfl, a3, a4, a5⟩ | ⟨a3, a4⟩
    · rw [a3, a4, if_neg (show ¬ (1 : Int32) = 0 by decide), th2_00, ia1, if_pos rfl]
      unfold D_X10_lay D_X5_tellDone
      dsimp only [bnd1, bnd3, bnd4]
      rw [cun a1 a2, h3, a5, ls_o h hn, run]
      refine ok_do (r1' := pr r' n a a) (Rl_set h (fun i _ e => ro e) ⟨⟨rs_R, rs_C, fun k hk => ?_⟩, ⟨a1, a2, a1, a2⟩, fun k _ => ?_, fun k hk hb => un_zo k (by omega) (Or.inr hb)⟩ ⟨rfl, rfl, rfl⟩) rfl
      · show va_up f n (un a (zf 20 (f n))) n k = _
        rw [vu_self, un_cp a2, cpl hk]
        unfold cp
        by_cases e : k < a * 5
        · rw [if_pos e]
        · rw [if_neg e]; exact un_zo k hk (Or.inl (by omega))
      · unfold un
        split
        · exact sm1
        · exact sm0
    · rw [a3, a4, if_pos rfl, th2_01, ia0, if_neg e_ne2]
      exact ok_e2 h
  · rw [h1, h2]
    dsimp only [bnd2, bnd1]
    rw [if_neg x1, if_pos rfl, th2_10, th2_11, ite_self, x2]
    exact ok_e1 h
end PRL
end
section
-- 67.pacta
section PRM
variable {r q r1 q1 : Nat → Int32} {f f1 : Nat → Nat → Int64} {r' r1' : Nat → Nat} {f' f1' : Nat → Nat → Int64} {q' : Nat → Int32} {R C i n : Nat} {g : Nat → Int64} {x x' : Int32}
theorem tb_upd (h : TB r f i R C g) {a b : Nat} (ha : a < R) (hb : b < C) {x : Int64} (hx : sm x) : TB r (va_up f i (vp_updL (f i) (a * 5 + b) x)) i R C (vp_updL g (a * 5 + b) x) := by
  refine ⟨⟨h.1.1, h.1.2.1, fun k hk => ?_⟩, h.2.1, fun k hk => ?_, fun k hk hC => ?_⟩
  · rw [vu_self]
    have e := h.1.2.2 k hk
    unfold cp at e ⊢
    unfold vp_updL
    by_cases e1 : k = a * 5 + b
    · rw [if_pos e1, if_pos (show k < R * 5 by have := h.2.1; omega), if_pos e1]
    · rw [if_neg e1, if_neg e1, e]
  · unfold vp_updL
    split
    · exact hx
    · exact h.2.2.1 k hk
  · unfold vp_updL
    rw [if_neg (by have := h.2.1; omega)]
    exact h.2.2.2 k hk hC
theorem put_eq (h : Rl r q f r' f' q') {y z u v : Int32} : Ok (D_X5_put r q f y z u v) (D_X10_put r' f' q' y z u v) := by
  have hidx : ∀ (n : Nat) (a b c : Int32), Ok (D_X5_put_j32 r q f a b c n 0) (0, r', f', va_up q' 3 1) := by
    intro n a b c
    unfold D_X5_put_j32
    dsimp only [bnd1]
    rw [nx0, if_neg e_ne]
    exact ok_e1 h
  unfold D_X5_put D_X10_put
  rcases ntb (r := r) (q := q) (f := f) (p := y) with ⟨n, hn, rfl, h1, h2, h3⟩ | ⟨E, x1, x2, h1, h2⟩
  · rw [h1]
    dsimp only [bnd2, bnd1]
    rw [if_pos rfl]
    rcases hrow h hn (k := z) with ⟨a, rfl, a1, a2, a3, a4, a5⟩ | ⟨a3, a4⟩
    · rw [a3, a4, if_neg one0, if_neg one0]
      rcases hcol h hn (c := 1) (by decide) (k := u) with ⟨b, rfl, b1, b2, b3, b4, b5⟩ | ⟨b3, b4⟩
      · rw [b3, b4, if_neg one0, if_neg one0]
        unfold D_X5_put_j32
        dsimp only [bnd1]
        rw [nx1, if_pos rfl]
        by_cases v1 : v < -20
        · rw [if_pos v1, if_pos v1, th2_01]
          unfold D_X5_put_j54
          dsimp only [bnd1]
          rw [ia0, if_neg e_ne2]
          exact ok_e2 h
        · rw [if_neg v1, if_neg v1]
          by_cases v2 : v ≤ 20
          · have v3 : ¬ 20 < v := Int32.not_lt.mpr v2
            rw [if_neg v3, if_pos v2, th2_00, a5, b5, h3]
            unfold D_X5_put_j54
            dsimp only [bnd1]
            rw [ia1, if_pos rfl, cget a2 (by omega), tb_v (h.1 n hn) (show a * 5 + b < r' (2 * n) * 5 by have := (h.1 n hn).2.1; omega)]
            have hR : Rl r q (va_up f n (vp_updL (f n) (a * 5 + b) v.toInt64)) r' (va_up f' n (vp_updL (f' n) (a * 5 + b) v.toInt64)) q' := Rl_new (n := n) h (fun i _ e => ⟨⟨rfl, rfl⟩, vu_ne e⟩) (fun i _ e => ⟨⟨rfl, rfl⟩, vu_ne e⟩) (by rw [vu_self]; exact tb_upd (h.1 n hn) a1 b1 (sm_i v1 v3)) ⟨rfl, rfl, rfl⟩
            unfold D_X5_put_j76 D_X5_put_j99 D_X5_tellDone
            dsimp only [bnd1, bnd3]
            rw [cset a2 (by omega)]
            by_cases e : lg_cmp (f' n (a * 5 + b)) v.toInt64 = 0
            · rw [if_pos e, if_pos e, if_pos rfl]
              exact ok_do hR rfl
            · rw [if_neg e, if_neg e, if_neg one0]
              exact ok_do hR rfl
          · have v3 : 20 < v := Int32.not_le.mp v2
            rw [if_pos v3, if_neg v2, th2_01]
            unfold D_X5_put_j54
            dsimp only [bnd1]
            rw [ia0, if_neg e_ne2]
            exact ok_e2 h
      · rw [b3, b4, if_pos rfl, if_pos rfl, th2_10, th2_11, ite_self, ite_self]
        exact hidx n _ _ _
    · rw [a3, a4, if_pos rfl, if_pos rfl, th2_10, th2_11, ite_self, ite_self]
      exact hidx n _ _ _
  · rw [h1]
    dsimp only [bnd2, bnd1]
    rw [if_neg x1, (isT_0 h2).1, if_pos rfl, th2_10, th2_11, ite_self, ite_self, x2]
    exact ok_e1 h
/-- a table as another one -/
theorem tb_like (h : TB r f i R C g) {j : Nat} : TB (rs r j R C) (va_up f j (cp 20 (f i) (f j))) j R C (cp (R * 5) g (fun _ => 0)) := by
  refine ⟨⟨rs_R, rs_C, fun k hk => ?_⟩, h.2.1, fun k hk => ?_, fun k hk hC => ?_⟩
  · rw [vu_self, cpl hk, h.1.2.2 k hk]
    unfold cp
    split
    · rfl
    · rfl
  · unfold cp; rw [if_pos hk]; exact h.2.2.1 k hk
  · unfold cp; rw [if_pos hk]; exact h.2.2.2 k hk hC
theorem like_eq (hi : TB r f i R C g) {j : Nat} {Rj Cj : Nat} {gj : Nat → Int64} (hj : TB r f j Rj Cj gj) : (D_X3_isLike r q f i j = 1 ∧ D_X7_isSame R C g Rj Cj gj = 1 ∧ D_X7_isSame Rj Cj gj R C g = 1) ∨ (D_X3_isLike r q f i j = 0 ∧ D_X7_isSame R C g Rj Cj gj = 0 ∧ D_X7_isSame Rj Cj gj R C g = 0) := by
  rcases cisl (r := r) (q := q) hi.1.1 hi.1.2.1 hj.1.1 hj.1.2.1 hi.2.1.2.1 (by have := hi.2.1; omega) hj.2.1.2.1 (by have := hj.2.1; omega) (tb_z hi) (tb_z hj) with ⟨a1, a2, a3, a4⟩ | ⟨a1, a2⟩
  · subst a2 a3
    have e : ∀ k, k < R * 5 → g k = gj k := fun k hk => by rw [← tb_v hi hk, ← tb_v hj hk]; exact a4 k hk
    refine Or.inl ⟨a1, ?_, ?_⟩
    · rcases ris (R := R) (C := C) (f := g) (Ro := R) (Co := C) (fo := gj) with ⟨b, _⟩ | ⟨_, b⟩
      · exact b
      · exact absurd ⟨rfl, rfl, e⟩ b
    · rcases ris (R := R) (C := C) (f := gj) (Ro := R) (Co := C) (fo := g) with ⟨b, _⟩ | ⟨_, b⟩
      · exact b
      · exact absurd ⟨rfl, rfl, fun k hk => (e k hk).symm⟩ b
  · refine Or.inr ⟨a1, ?_, ?_⟩
    · rcases ris (R := R) (C := C) (f := g) (Ro := Rj) (Co := Cj) (fo := gj) with ⟨_, b1, b2, b3⟩ | ⟨b, _⟩
      · exact absurd ⟨b1, b2, fun k hk => by rw [tb_v hi hk, tb_v hj (by rw [← b1]; exact hk)]; exact b3 k hk⟩ a2
      · exact b
    · rcases ris (R := Rj) (C := Cj) (f := gj) (Ro := R) (Co := C) (fo := g) with ⟨_, b1, b2, b3⟩ | ⟨b, _⟩
      · exact absurd ⟨b1.symm, b2.symm, fun k hk => by rw [tb_v hi hk, tb_v hj (by rw [b1]; exact hk)]; exact (b3 k (by rw [b1]; exact hk)).symm⟩ a2
      · exact b
theorem copy_eq (h : Rl r q f r' f' q') {y z : Int32} : Ok (D_X5_copy r q f y z) (D_X10_copy r' f' q' y z) := by
  unfold D_X5_copy D_X10_copy
  rcases ntb (r := r) (q := q) (f := f) (p := y) with ⟨n, hn, rfl, h1, h2, h3⟩ | ⟨E, x1, x2, h1, h2⟩
  · rw [h1, h2]
    dsimp only [bnd2, bnd1]
    rw [if_pos rfl, if_neg one0]
    rcases ntb (r := r) (q := q) (f := f) (p := z) with ⟨m, hm, rfl, g1, g2, g3⟩ | ⟨E, x1, x2, g1, g2⟩
    · rw [g1, g2, if_pos rfl, if_neg one0, th1_0, h3, g3]
      have hR : Rl (rs r m (r' (2 * n)) (r' (2 * n + 1))) q (va_up f m (cp 20 (f n) (f m))) (pr r' m (r' (2 * n)) (r' (2 * n + 1))) (va_up f' m (cp (r' (2 * n) * 5) (f' n) (fun _ => 0))) q' := Rl_set h (fun i _ e => ro e) (tb_like (h.1 n hn)) ⟨rfl, rfl, rfl⟩
      unfold D_X5_copy_j27 D_X5_copy_j46 D_X5_tellDone
      dsimp only [bnd1, bnd3]
      rw [cbl (h.1 n hn).1.1 (h.1 n hn).1.2.1, rcp]
      rcases like_eq (q := q) (h.1 m hm) (h.1 n hn) with ⟨a1, a2, a3⟩ | ⟨a1, a2, a3⟩
      · rw [a1, a3, if_neg one0, if_neg one0, if_pos rfl]
        exact ok_do hR rfl
      · rw [a1, a3, if_pos rfl, if_pos rfl, if_neg one0]
        exact ok_do hR rfl
    · rw [g1, g2, if_neg x1, if_pos rfl, th1_1, x2]
      exact ok_e1 h
  · rw [h1, h2]
    dsimp only [bnd2, bnd1]
    rw [if_neg x1, if_pos rfl, th1_1, x2]
    exact ok_e1 h
theorem cp2 {n : Nat} {a b c : Nat → Int64} : cp n (cp n a b) c = cp n a c := by
  funext k
  unfold cp
  split <;> rfl
theorem swap_eq (h : Rl r q f r' f' q') {y z : Int32} : Ok (D_X5_swap r q f y z) (D_X10_swap r' f' q' y z) := by
  unfold D_X5_swap D_X10_swap
  rcases ntb (r := r) (q := q) (f := f) (p := y) with ⟨n, hn, rfl, h1, h2, h3⟩ | ⟨E, x1, x2, h1, h2⟩
  · rw [h1, h2]
    dsimp only [bnd2, bnd1]
    rw [if_pos rfl, if_neg one0]
    rcases ntb (r := r) (q := q) (f := f) (p := z) with ⟨m, hm, rfl, g1, g2, g3⟩ | ⟨E, x1, x2, g1, g2⟩
    · rw [g1, g2, if_pos rfl, if_neg one0, th1_0, h3, g3]
      have hTn := h.1 n hn
      have hTm := h.1 m hm
      have A1 : D_X3_becomeLike r q f 4 n = (rs r 4 (r' (2 * n)) (r' (2 * n + 1)), q, va_up f 4 (cp 20 (f n) (f 4))) := cbl hTn.1.1 hTn.1.2.1
      have A2 : D_X3_becomeLike (rs r 4 (r' (2 * n)) (r' (2 * n + 1))) q (va_up f 4 (cp 20 (f n) (f 4))) n m = (rs (rs r 4 (r' (2 * n)) (r' (2 * n + 1))) n (r' (2 * m)) (r' (2 * m + 1)), q, va_up (va_up f 4 (cp 20 (f n) (f 4))) n (cp 20 (f m) (f n))) := by
        rw [cbl (R := r' (2 * m)) (C := r' (2 * m + 1)) ((rs_R' (by omega)).trans hTm.1.1) ((rs_C' (by omega)).trans hTm.1.2.1), vu_ne (show m ≠ 4 by omega), vu_ne (show n ≠ 4 by omega)]
      have A3 : D_X3_becomeLike (rs (rs r 4 (r' (2 * n)) (r' (2 * n + 1))) n (r' (2 * m)) (r' (2 * m + 1))) q (va_up (va_up f 4 (cp 20 (f n) (f 4))) n (cp 20 (f m) (f n))) m 4 = (rs (rs (rs r 4 (r' (2 * n)) (r' (2 * n + 1))) n (r' (2 * m)) (r' (2 * m + 1))) m (r' (2 * n)) (r' (2 * n + 1)), q, va_up (va_up (va_up f 4 (cp 20 (f n) (f 4))) n (cp 20 (f m) (f n))) m (cp 20 (f n) (va_up (va_up f 4 (cp 20 (f n) (f 4))) n (cp 20 (f m) (f n)) m))) := by
        rw [cbl (R := r' (2 * n)) (C := r' (2 * n + 1)) ((rs_R' (by omega)).trans rs_R) ((rs_C' (by omega)).trans rs_C), vu_ne (show 4 ≠ n by omega), vu_self, cp2]
      have hR : Rl (rs (rs (rs r 4 (r' (2 * n)) (r' (2 * n + 1))) n (r' (2 * m)) (r' (2 * m + 1))) m (r' (2 * n)) (r' (2 * n + 1))) q (va_up (va_up (va_up f 4 (cp 20 (f n) (f 4))) n (cp 20 (f m) (f n))) m (cp 20 (f n) (va_up (va_up f 4 (cp 20 (f n) (f 4))) n (cp 20 (f m) (f n)) m))) (fun k => r' (swr n m k)) (fun k => f' (sw1 n m k)) q' := by
        refine ⟨fun i hi => ?_, h.2.1, h.2.2.1, h.2.2.2⟩
        have e1 : swr n m (2 * i) = 2 * sw1 n m i := by
          unfold swr sw1
          rw [show 2 * i / 2 = i by omega, show 2 * i % 2 = 0 by omega]
          by_cases c1 : i = n
          · rw [if_pos c1, if_pos c1]; exact Nat.add_zero _
          · rw [if_neg c1, if_neg c1]
            by_cases c2 : i = m
            · rw [if_pos c2, if_pos c2]; exact Nat.add_zero _
            · rw [if_neg c2, if_neg c2]
        have e2 : swr n m (2 * i + 1) = 2 * sw1 n m i + 1 := by
          unfold swr sw1
          rw [show (2 * i + 1) / 2 = i by omega, show (2 * i + 1) % 2 = 1 by omega]
          by_cases c1 : i = n
          · rw [if_pos c1, if_pos c1]
          · rw [if_neg c1, if_neg c1]
            by_cases c2 : i = m
            · rw [if_pos c2, if_pos c2]
            · rw [if_neg c2, if_neg c2]
        show TB _ _ i (r' (swr n m (2 * i))) (r' (swr n m (2 * i + 1))) (f' (sw1 n m i))
        rw [e1, e2]
        by_cases c1 : i = m
        · subst c1
          have e3 : sw1 n i i = n := by unfold sw1; split <;> (try split) <;> omega
          rw [e3]
          exact ⟨⟨rs_R, rs_C, fun k hk => by rw [vu_self, cpl hk]; exact hTn.1.2.2 k hk⟩, hTn.2⟩
        · by_cases c2 : i = n
          · subst c2
            have e3 : sw1 i m i = m := by unfold sw1; rw [if_pos rfl]
            rw [e3]
            exact ⟨⟨(rs_R' c1).trans rs_R, (rs_C' c1).trans rs_C, fun k hk => by rw [vu_ne c1, vu_self, cpl hk]; exact hTm.1.2.2 k hk⟩, hTm.2⟩
          · have e3 : sw1 n m i = i := by unfold sw1; rw [if_neg c2, if_neg c1]
            rw [e3]
            have hTi := h.1 i hi
            exact ⟨⟨(rs_R' c1).trans ((rs_R' c2).trans ((rs_R' (by omega)).trans hTi.1.1)), (rs_C' c1).trans ((rs_C' c2).trans ((rs_C' (by omega)).trans hTi.1.2.1)), fun k hk => by rw [vu_ne c1, vu_ne c2, vu_ne (show i ≠ 4 by omega)]; exact hTi.1.2.2 k hk⟩, hTi.2⟩
      unfold D_X5_swap_j27 D_X5_swap_j63 D_X5_tellDone
      dsimp only [bnd3]
      rw [A1]
      dsimp only
      rw [A2]
      dsimp only
      rw [A3]
      dsimp only
      rcases like_eq (q := q) hTn hTm with ⟨a1, a2, a3⟩ | ⟨a1, a2, a3⟩
      · rw [a1, a2, if_neg one0, if_neg one0, if_pos rfl]
        exact ok_do hR rfl
      · rw [a1, a2, if_pos rfl, if_pos rfl, if_neg one0]
        exact ok_do hR rfl
    · rw [g1, g2, if_neg x1, if_pos rfl, th1_1, x2]
      exact ok_e1 h
  · rw [h1, h2]
    dsimp only [bnd2, bnd1]
    rw [if_neg x1, if_pos rfl, th1_1, x2]
    exact ok_e1 h
end PRM
end
section
-- 68.pactb
section PST
variable {r q r1 q1 : Nat → Int32} {f f1 : Nat → Nat → Int64} {r' r1' : Nat → Nat} {f' f1' : Nat → Nat → Int64} {q' : Nat → Int32} {R C i n : Nat} {g : Nat → Int64} {x x' : Int32}
theorem wt_sm {x : Int64} (h : -9223372036854775807 ≤ x.toInt) : wt 20 x ↔ sm x := by
  have hn : (-x).toInt = -x.toInt := by
    have := Int64.toInt_lt x
    rw [Int64.toInt_neg]
    exact Int.bmod_eq_of_le (by omega) (by omega)
  unfold wt ab sm
  by_cases c : 0 < x
  · rw [if_pos c]
    have c := Int64.lt_iff_toInt_lt.mp c
    rw [show (0 : Int64).toInt = 0 from rfl] at c
    simp only [Int64.le_iff_toInt_le]
    rw [show (20 : Int64).toInt = 20 from rfl, show (-20 : Int64).toInt = -20 from rfl]
    omega
  · rw [if_neg c]
    have c : ¬ (0 : Int64).toInt < x.toInt := fun z => c (Int64.lt_iff_toInt_lt.mpr z)
    rw [show (0 : Int64).toInt = 0 from rfl] at c
    simp only [Int64.le_iff_toInt_le]
    rw [show (20 : Int64).toInt = 20 from rfl, show (-20 : Int64).toInt = -20 from rfl, hn]
    omega
theorem sm_lo {x : Int64} (h : sm x) : -9223372036854775807 ≤ x.toInt := by
  have := ng_int (sm_ng h)
  omega
theorem sm_int {x : Int64} (h : sm x) : -20 ≤ x.toInt ∧ x.toInt ≤ 20 := ⟨Int64.le_iff_toInt_le.mp h.1, Int64.le_iff_toInt_le.mp h.2⟩
theorem wts_all {R C : Nat} {w : Nat → Int64} (hC : C ≤ 5) (hb : ∀ k, k < R * 5 → -9223372036854775807 ≤ (w k).toInt) (hz : ∀ k, k < R * 5 → C ≤ k % 5 → sm (w k)) : (∀ a b, a < R → b < C → wt 20 (w (a * 5 + b))) ↔ ∀ k, k < R * 5 → sm (w k) := by
  constructor
  · intro h k hk
    by_cases e : C ≤ k % 5
    · exact hz k hk e
    · have h1 := h (k / 5) (k % 5) (by omega) (by omega)
      rw [show k / 5 * 5 + k % 5 = k by omega] at h1
      exact (wt_sm (hb k hk)).mp h1
  · intro h a b ha hbb
    exact (wt_sm (hb _ (by omega))).mpr (h _ (by omega))
/-- the draft is looked at -/
theorem ciw_sm (h1 : r (2 * i) = nI R) (h2 : r (2 * i + 1) = nI C) (hR : R ≤ 4) (hC : C ≤ 5) (hb : ∀ k, k < R * 5 → -9223372036854775807 ≤ (f i k).toInt) (hz : zc C (R * 5) (f i)) : ((∀ k, k < R * 5 → sm (f i k)) ∧ D_X3_isWithin r q f i 20 = 1) ∨ (¬ (∀ k, k < R * 5 → sm (f i k)) ∧ D_X3_isWithin r q f i 20 = 0) := by
  have hA := wts_all (w := f i) hC hb (fun k hk e => by rw [hz k hk e]; exact sm0)
  rcases ciw (r := r) (q := q) (f := f) (i := i) (p := 20) h1 h2 hR hC with ⟨a1, a2⟩ | ⟨⟨a, b, a1, a2, a3⟩, a4⟩
  · exact Or.inl ⟨hA.mp (fun a b ha hb => a1 a b ha hb), a2⟩
  · exact Or.inr ⟨fun e => a3 (hA.mpr e a b a1 a2), a4⟩
/-- the table as the draft begins with -/
abbrev gb (r' : Nat → Nat) (f' : Nat → Nat → Int64) (n : Nat) : Nat → Int64 := cp (r' (2 * n) * 5) (f' n) (fun _ => 0)
theorem draft (h : Rl r q f r' f' q') (hn : n < 4) : D_X3_becomeLike r q f 4 n = (rs r 4 (r' (2 * n)) (r' (2 * n + 1)), q, va_up f 4 (cp 20 (gb r' f' n) (f 4))) := by
  rw [cbl (h.1 n hn).1.1 (h.1 n hn).1.2.1]
  congr 3
  funext k
  unfold cp
  by_cases e : k < 20
  · rw [if_pos e, if_pos e]; exact (h.1 n hn).1.2.2 k e
  · rw [if_neg e, if_neg e]
theorem gb_z (h : Rl r q f r' f' q') (hn : n < 4) : zo (r' (2 * n)) (r' (2 * n + 1)) (gb r' f' n) := cp_zo (h.1 n hn).2.2.2
theorem gb_s (h : Rl r q f r' f' q') (hn : n < 4) : ∀ k, k < r' (2 * n) * 5 → sm (gb r' f' n k) := fun k hk => by
  show sm (cp _ _ _ k)
  unfold cp
  rw [if_pos hk]
  exact (h.1 n hn).2.2.1 k hk
theorem d4 (h : Rl r q f r' f' q') (hn : n < 4) (hz : zo (r' (2 * n)) (r' (2 * n + 1)) g) {k : Nat} (hk : k < 20) : (va_up f 4 (cp 20 g (f 4))) 4 k = g k := by rw [vu_self, cpl hk]
theorem d4R (h : Rl r q f r' f' q') (hn : n < 4) (hz : zo (r' (2 * n)) (r' (2 * n + 1)) g) : (rs r 4 (r' (2 * n)) (r' (2 * n + 1))) (2 * n) = nI (r' (2 * n)) := (rs_R' (by omega)).trans (h.1 n hn).1.1
theorem d4C (h : Rl r q f r' f' q') (hn : n < 4) (hz : zo (r' (2 * n)) (r' (2 * n + 1)) g) : (rs r 4 (r' (2 * n)) (r' (2 * n + 1))) (2 * n + 1) = nI (r' (2 * n + 1)) := (rs_C' (by omega)).trans (h.1 n hn).1.2.1
theorem Rl_4 (h : Rl r q f r' f' q') (hn : n < 4) (hz : zo (r' (2 * n)) (r' (2 * n + 1)) g) : Rl (rs r 4 (r' (2 * n)) (r' (2 * n + 1))) q (va_up f 4 (cp 20 g (f 4))) r' f' q' := Rl_keep h (fun i hi => ro (by omega)) ⟨rfl, rfl, rfl⟩
theorem fin_yes (h : Rl r q f r' f' q') (hn : n < 4) (hz : zo (r' (2 * n)) (r' (2 * n + 1)) g) (hs : ∀ k, k < r' (2 * n) * 5 → sm (g k)) : Ok (bnd4 (D_X5_settleChange (rs r 4 (r' (2 * n)) (r' (2 * n + 1))) q (va_up f 4 (cp 20 g (f 4))) n) (fun x r q f => ("", x, r, q, f))) (bnd4 (D_X10_changed r' f' (va_up q' 3 0) (nI n) (r' (2 * n)) (r' (2 * n + 1)) g) (fun x r f q => (x, r, f, q))) := by
  have hT := h.1 n hn
  have hT4 := (Rl_4 h hn hz).1 n hn
  have hb := hT.2.1
  unfold D_X5_settleChange D_X10_changed D_X5_tellDone
  dsimp only [bnd1, bnd3, bnd4]
  rcases ciw_sm (q := q) (r := rs r 4 (r' (2 * n)) (r' (2 * n + 1))) (f := va_up f 4 (cp 20 g (f 4))) (i := 4) rs_R rs_C hb.2.1 (by omega) (fun k hk => by rw [d4 h hn hz (by omega)]; exact sm_lo (hs k hk)) (fun k hk e => by rw [d4 h hn hz (by omega)]; exact hz k (by omega) (Or.inr e)) with ⟨_, w2⟩ | ⟨w1, w2⟩
  · have hz4 : zc (r' (2 * n + 1)) 20 ((va_up f 4 (cp 20 g (f 4))) 4) := fun k hk e => by rw [d4 h hn hz hk]; exact hz k hk (Or.inr e)
    have hzn : zc (r' (2 * n + 1)) 20 ((va_up f 4 (cp 20 g (f 4))) n) := by rw [vu_ne (by omega)]; exact tb_z hT
    rw [w2, if_neg one0, ccu (d4R h hn hz) (d4C h hn hz) hb.2.1 (by omega) hzn hz4, cbl (R := r' (2 * n)) (C := r' (2 * n + 1)) rs_R rs_C, nI_clamp (show n < 2 ^ 31 by omega), rul]
    dsimp only
    have hR : Rl (rs (rs r 4 (r' (2 * n)) (r' (2 * n + 1))) n (r' (2 * n)) (r' (2 * n + 1))) q (va_up (va_up f 4 (cp 20 g (f 4))) n (cp 20 ((va_up f 4 (cp 20 g (f 4))) 4) ((va_up f 4 (cp 20 g (f 4))) n))) (pr r' n (r' (2 * n)) (r' (2 * n + 1))) (va_up f' n g) q' := by
      refine Rl_set (Rl_4 h hn hz) (fun i _ e => ro e) ⟨⟨rs_R, rs_C, fun k hk => ?_⟩, hb, hs, fun k hk e => hz k (by omega) (Or.inr e)⟩ ⟨rfl, rfl, rfl⟩
      rw [vu_self, cpl hk, d4 h hn hz hk]
      unfold cp
      split
      · rfl
      · exact hz k hk (Or.inl (by omega))
    refine ok_do hR ?_
    refine congrArg nI (cnt_congr (fun k hk => ?_))
    unfold neb
    rw [d4 h hn hz (by omega), vu_ne (by omega), tb_v hT hk]
    by_cases e : g k = f' n k
    · rw [e]
    · rw [decide_eq_false e, decide_eq_false (fun z => e z.symm)]
  · exact absurd (fun k hk => by rw [d4 h hn hz (by omega)]; exact hs k hk) w1
theorem fin_no (h : Rl r q f r' f' q') (hn : n < 4) (hz : zo (r' (2 * n)) (r' (2 * n + 1)) g) (hs : ¬ ∀ k, k < r' (2 * n) * 5 → sm (g k)) (hlo : ∀ k, k < r' (2 * n) * 5 → -9223372036854775807 ≤ (g k).toInt) : Ok (bnd4 (D_X5_settleChange (rs r 4 (r' (2 * n)) (r' (2 * n + 1))) q (va_up f 4 (cp 20 g (f 4))) n) (fun x r q f => ("", x, r, q, f))) (-9, r', f', va_up (va_up q' 3 0) 1 ((va_up q' 3 0) 1 + 1)) := by
  have hb := (h.1 n hn).2.1
  unfold D_X5_settleChange D_X5_tellRefused
  dsimp only [bnd1, bnd3, bnd4]
  rcases ciw_sm (q := q) (r := rs r 4 (r' (2 * n)) (r' (2 * n + 1))) (f := va_up f 4 (cp 20 g (f 4))) (i := 4) rs_R rs_C hb.2.1 (by omega) (fun k hk => by rw [d4 h hn hz (by omega)]; exact hlo k hk) (fun k hk e => by rw [d4 h hn hz (by omega)]; exact hz k (by omega) (Or.inr e)) with ⟨w1, _⟩ | ⟨_, w2⟩
  · exact absurd (fun k hk => by rw [← d4 h hn hz (by omega)]; exact w1 k hk) hs
  · rw [w2, if_pos rfl]
    exact ok_no (Rl_4 h hn hz)
theorem zo_tc {a : Nat} {w : Nat → Int64} (hz : zo R C w) (ha : a < C) : zo R C (tc R a w) := by
  intro k hk e
  unfold tc
  rw [if_neg (by omega)]; exact hz k hk e
theorem cp_tc {a : Nat} {w u : Nat → Int64} (hR : R ≤ 4) : tc R a (cp 20 w u) = cp 20 (tc R a w) u := by
  funext k
  unfold tc cp
  by_cases e : k < 20
  · simp only [if_pos e]
  · rw [if_neg e, if_neg (by omega), if_neg e]
theorem sm_tc {a : Nat} {w : Nat → Int64} (h : ∀ k, k < R * 5 → sm (w k)) : ∀ k, k < R * 5 → sm (tc R a w k) := by
  intro k hk
  unfold tc
  split
  · exact sm_neg (h k hk)
  · exact h k hk
theorem rtu {y : Int32} {z : Int32} {t : Int32} {a : Nat} (hn : n < 4) (ha : z.toNatClampNeg = a) (ha5 : a < 5) : ∀ m k : Nat, k ≤ r' (2 * n) → r' (2 * n) - k < m → ∀ w : Nat → Int64, D_X10_turn_42 r' f' q' (nI n) z t m k (tc k a w) = bnd4 (D_X10_changed r' f' (va_up q' 3 t) (nI n) (r' (2 * n)) (r' (2 * n + 1)) (tc (r' (2 * n)) a w)) (fun x r f q => (x, r, f, q)) := by
  intro m
  induction m with
  | zero => intro k _ h; omega
  | succ m ih =>
    intro k hk hm w
    rw [D_X10_turn_42_s, nI_clamp (show n < 2 ^ 31 by omega), ha]
    by_cases e : r' (2 * n) ≤ k
    · rw [if_pos e, show k = r' (2 * n) by omega]
    · rw [if_neg e, tc_step ha5]
      exact ih (k + 1) (by omega) (by omega) w
theorem exchange_eq (h : Rl r q f r' f' q') {y p z u : Int32} : Ok (D_X5_exchange r q f y p z u) (D_X10_exchange r' f' q' y p z u) := by
  have hidx : ∀ (n : Nat) (a b c : Int32), Ok (D_X5_exchange_j33 r q f a b c n 0) (0, r', f', va_up q' 3 1) := by
    intro n a b c
    unfold D_X5_exchange_j33
    dsimp only [bnd1]
    rw [nx0, if_neg e_ne]
    exact ok_e1 h
  unfold D_X5_exchange D_X10_exchange
  rcases ntb (r := r) (q := q) (f := f) (p := y) with ⟨n, hn, rfl, h1, h2, h3⟩ | ⟨E, x1, x2, h1, h2⟩
  · rw [h1]
    dsimp only [bnd2, bnd1]
    rw [if_pos rfl, th1_1, th1_0]
    rcases hlin h hn (c := p) (k := z) with ⟨a, rfl, a1, a2, a3, a4, a5⟩ | ⟨a3, a4⟩
    · rw [a3, a4, if_neg one0, if_neg one0]
      rcases hlin h hn (c := p) (k := u) with ⟨b, rfl, b1, b2, b3, b4, b5⟩ | ⟨b3, b4⟩
      · rw [b3, b4, if_neg one0, if_neg one0, a5, b5, h3, rcp]
        unfold D_X5_exchange_j33
        dsimp only [bnd1, bnd3]
        rw [nx1, if_pos rfl, draft h hn]
        dsimp only
        have hb := (h.1 n hn).2.1
        by_cases hp : p = 0
        · subst hp
          rw [if_pos rfl] at a1 b1
          rw [if_pos rfl, cexR (C := r' (2 * n + 1)) rs_C (by omega) a2 b2, vu_self, vu2, cp_xr a2 b2]
          exact fin_yes h hn (zo_xr a1 b1 (gb_z h hn)) (sm_xr a1 b1 (gb_s h hn))
        · rw [if_neg hp] at a1 b1
          rw [if_neg hp, cexC (R := r' (2 * n)) hp rs_R hb.2.1 (by omega) (by omega), vu_self, vu2, cp_xc (by omega) (by omega) hb.2.1]
          exact fin_yes h hn (zo_xc a1 b1 (gb_z h hn)) (sm_xc (by omega) (by omega) (gb_s h hn))
      · rw [b3, b4, if_pos rfl, if_pos rfl]
        exact hidx n _ _ _
    · rw [a3, a4, if_pos rfl, if_pos rfl]
      exact hidx n _ _ _
  · rw [h1]
    dsimp only [bnd2, bnd1]
    rw [if_neg x1, (isT_0 h2).2.2, if_pos rfl, th1_1, x2]
    exact ok_e1 h
theorem turn_eq (h : Rl r q f r' f' q') {y p z : Int32} : Ok (D_X5_turn r q f y p z) (D_X10_turn r' f' q' y p z) := by
  unfold D_X5_turn D_X10_turn
  rcases ntb (r := r) (q := q) (f := f) (p := y) with ⟨n, hn, rfl, h1, h2, h3⟩ | ⟨E, x1, x2, h1, h2⟩
  · rw [h1]
    dsimp only [bnd2, bnd1]
    rw [if_pos rfl, th1_1, th1_0]
    rcases hlin h hn (c := p) (k := z) with ⟨a, rfl, a1, a2, a3, a4, a5⟩ | ⟨a3, a4⟩
    · rw [a3, a4, if_neg one0, nx1, if_pos rfl, draft h hn, a5, h3, rcp]
      dsimp only [bnd3]
      have hb := (h.1 n hn).2.1
      by_cases hp : p = 0
      · subst hp
        rw [if_pos rfl] at a1
        rw [if_pos rfl, ctuR (C := r' (2 * n + 1)) rs_C (by omega) a2, vu_self, vu2, cp_tr a2]
        exact fin_yes h hn (zo_tr a1 (gb_z h hn)) (sm_tr (gb_s h hn))
      · rw [if_neg hp] at a1
        rw [if_neg hp, ctuC (R := r' (2 * n)) hp rs_R hb.2.1 (by omega), vu_self, vu2, cp_tc hb.2.1]
        have e := rtu (r' := r') (f' := f') (q' := q') (n := n) (y := 0) (z := nI a) (t := (0 : Int32)) hn a5 (by omega) (r' (2 * n) + 1 - 0 + 1) 0 (by omega) (by omega) (gb r' f' n)
        rw [tc0] at e
        rw [e]
        exact fin_yes h hn (zo_tc (gb_z h hn) a1) (sm_tc (gb_s h hn))
    · rw [a3, a4, if_pos rfl, nx0, if_neg e_ne]
      exact ok_e1 h
  · rw [h1]
    dsimp only [bnd2, bnd1]
    rw [if_neg x1, (isT_0 h2).2.2, if_pos rfl, th1_1, x2]
    exact ok_e1 h
theorem ar_lo3 {a b : Nat} {t : Int64} {w : Nat → Int64} (hb : b < R) (hw : ∀ k, k < R * 5 → sm (w k)) (ht : sm t) : ∀ k, k < R * 5 → -9223372036854775807 ≤ (ar C a b t w k).toInt := by
  intro k hk
  unfold ar
  split
  · have h1 := hw k hk
    have h2 := hw (b * 5 + k % 5) (by omega)
    obtain ⟨e1, e2⟩ := mad_int (t := t) (sm_ng h1) (sm_ng h2) (by have := sm_int ht; omega) (by have := sm_int ht; omega)
    rw [e1]
    have := sm_int h1
    omega
  · exact sm_lo (hw k hk)
theorem ac_lo3 {a b : Nat} {t : Int64} {w : Nat → Int64} (hb : b < 5) (hw : ∀ k, k < R * 5 → sm (w k)) (ht : sm t) : ∀ k, k < R * 5 → -9223372036854775807 ≤ (ac R a b t w k).toInt := by
  intro k hk
  unfold ac
  split
  · have h1 := hw k hk
    have h2 := hw (k / 5 * 5 + b) (by omega)
    obtain ⟨e1, e2⟩ := mad_int (t := t) (sm_ng h1) (sm_ng h2) (by have := sm_int ht; omega) (by have := sm_int ht; omega)
    rw [e1]
    have := sm_int h1
    omega
  · exact sm_lo (hw k hk)
theorem fin_eq {t : Int32} (h : Rl r q f r' f' q') (hn : n < 4) (hz : zo (r' (2 * n)) (r' (2 * n + 1)) g) (hlo : ∀ k, k < r' (2 * n) * 5 → -9223372036854775807 ≤ (g k).toInt) : Ok (bnd4 (D_X5_settleChange (rs r 4 (r' (2 * n)) (r' (2 * n + 1))) q (va_up f 4 (cp 20 g (f 4))) n) (fun x r q f => ("", x, r, q, f))) (if D_X7_isLet (r' (2 * n)) (r' (2 * n + 1)) g = 0 then (-9, r', f', va_up (va_up q' 3 0) 1 ((va_up q' 3 0) 1 + 1)) else bnd4 (D_X10_changed r' f' (va_up q' 3 0) (nI n) (r' (2 * n)) (r' (2 * n + 1)) g) (fun x r f q => (x, r, f, q))) := by
  rcases ril (R := r' (2 * n)) (C := r' (2 * n + 1)) (f := g) with ⟨a1, a2⟩ | ⟨⟨k, a1, a2⟩, a3⟩
  · rw [a2, if_neg one0]
    exact fin_yes h hn hz a1
  · rw [a3, if_pos rfl]
    exact fin_no h hn hz (fun e => a2 (e k a1)) hlo
theorem nI_inj {a b : Nat} (ha : a < 2 ^ 31) (hb : b < 2 ^ 31) (h : nI a = nI b) : a = b := by
  have e := congrArg Int32.toNatClampNeg h
  rwa [nI_clamp ha, nI_clamp hb] at e
theorem add_eq (h : Rl r q f r' f' q') {y p z u v : Int32} : Ok (D_X5_add r q f y p z u v) (D_X10_add r' f' q' y p z u v) := by
  have hidx : ∀ (n : Nat) (a b c d : Int32), Ok (D_X5_add_j33 r q f a b c d n 0) (0, r', f', va_up q' 3 1) := by
    intro n a b c d
    unfold D_X5_add_j33
    dsimp only [bnd1]
    rw [nx0, if_neg e_ne]
    exact ok_e1 h
  have harg : ∀ (n : Nat) (a b c d : Int32), Ok (D_X5_add_j61 r q f a b c d n 0) (0, r', f', va_up q' 3 2) := by
    intro n a b c d
    unfold D_X5_add_j61
    dsimp only [bnd1]
    rw [ia0, if_neg e_ne2]
    exact ok_e2 h
  unfold D_X5_add D_X10_add
  rcases ntb (r := r) (q := q) (f := f) (p := y) with ⟨n, hn, rfl, h1, h2, h3⟩ | ⟨E, x1, x2, h1, h2⟩
  · rw [h1]
    dsimp only [bnd2, bnd1]
    rw [if_pos rfl, th2_11, th2_10, th2_01, th2_00]
    dsimp only
    rw [ite_self, ite_self, ite_self]
    rcases hlin h hn (c := p) (k := z) with ⟨a, rfl, a1, a2, a3, a4, a5⟩ | ⟨a3, a4⟩
    · rw [a3, a4, if_neg one0, if_neg one0]
      rcases hlin h hn (c := p) (k := u) with ⟨b, rfl, b1, b2, b3, b4, b5⟩ | ⟨b3, b4⟩
      · rw [b3, b4, if_neg one0, if_neg one0, a5, b5, h3, rcp]
        unfold D_X5_add_j33
        dsimp only [bnd1, bnd3]
        rw [nx1, if_pos rfl]
        by_cases hab : nI a = nI b
        · rw [if_pos hab, if_pos hab]
          exact harg n _ _ _ _
        · rw [if_neg hab, if_neg hab]
          by_cases v1 : v < -20
          · rw [if_pos v1, if_pos v1]
            exact harg n _ _ _ _
          · rw [if_neg v1, if_neg v1]
            by_cases v2 : v ≤ 20
            · have v3 : ¬ 20 < v := Int32.not_lt.mpr v2
              have hne : a ≠ b := fun e => hab (by rw [e])
              have hv := sm_i v1 v3
              rw [if_neg v3, if_pos v2]
              unfold D_X5_add_j61
              dsimp only [bnd1, bnd3]
              rw [ia1, if_pos rfl, draft h hn]
              dsimp only
              have hb := (h.1 n hn).2.1
              by_cases hp : p = 0
              · subst hp
                rw [if_pos rfl] at a1 b1
                rw [if_pos rfl, caddR (C := r' (2 * n + 1)) rs_C (by omega) a2 b2 hne, vu_self, vu2, cp_ar a2 b2]
                exact fin_eq (t := 0) h hn (zo_ar a1 (gb_z h hn)) (ar_lo3 b1 (gb_s h hn) hv)
              · rw [if_neg hp] at a1 b1
                rw [if_neg hp, caddC (R := r' (2 * n)) hp rs_R hb.2.1 (by omega) (by omega) hne, vu_self, vu2, cp_ac (by omega) (by omega) hb.2.1]
                exact fin_eq (t := 0) h hn (zo_ac a1 (gb_z h hn)) (ac_lo3 (by omega) (gb_s h hn) hv)
            · have v3 : 20 < v := Int32.not_le.mp v2
              rw [if_pos v3, if_neg v2]
              exact harg n _ _ _ _
      · rw [b3, b4, if_pos rfl, if_pos rfl]
        exact hidx n _ _ _ _
    · rw [a3, a4, if_pos rfl, if_pos rfl]
      exact hidx n _ _ _ _
  · rw [h1]
    dsimp only [bnd2, bnd1]
    rw [if_neg x1, (isT_0 h2).2.2, if_pos rfl, th2_10, th2_11, ite_self, ite_self, ite_self, x2]
    exact ok_e1 h
end PST
end
section
-- 69.pactc
section PFL
variable {r q r1 q1 : Nat → Int32} {f f1 : Nat → Nat → Int64} {r' r1' : Nat → Nat} {f' f1' : Nat → Nat → Int64} {q' : Nat → Int32} {R C i n : Nat} {g : Nat → Int64} {x x' : Int32}
theorem cfl_in {h : Nat → Int64} {lb : Int32 → (Nat → Nat → Int64) → CRs} {a : Nat} (hn : n ≠ 4) (hC : r (2 * n + 1) = nI C) (h4 : C ≤ 4) (ha : a < 4) : ∀ m y : Nat, y ≤ C → C - y < m → D_X5_flip_34 n r q lb (nI a) m (nI y) (va_up f 4 (fl a y C (f n) h)) = lb (nI (a + 1)) (va_up f 4 (fl (a + 1) 0 C (f n) h)) := by
  intro m
  induction m with
  | zero => intro y _ h; omega
  | succ m ih =>
    intro y hy hm
    rw [D_X5_flip_34_s, hC]
    by_cases e : C ≤ y
    · rw [if_pos (ile e (by omega)), s1, show y = C by omega, fl_r]
    · rw [if_neg (nile e (by omega))]
      dsimp only [bnd1]
      rw [cget ha (by omega), cset (by omega) (by omega), vu_self, vu2, vu_ne hn, s1, fl_s (by omega) (by omega)]
      exact ih (y + 1) (by omega) (by omega)
theorem cfl_out {h : Nat → Int64} (hn : n < 4) (hR : r (2 * n) = nI R) (hC : r (2 * n + 1) = nI C) (hR4 : R ≤ 4) (h4 : C ≤ 4) : ∀ m y : Nat, y ≤ R → R - y < m → D_X5_flip_23 n (rs r 4 C R) q m (nI y) (va_up f 4 (fl y 0 C (f n) h)) = ("", nI C, rs (rs r 4 C R) n C R, va_up q 2 (q 2 + 1), va_up (va_up f 4 (fl R 0 C (f n) h)) n (cp 20 (fl R 0 C (f n) h) (f n))) := by
  intro m
  induction m with
  | zero => intro y _ h; omega
  | succ m ih =>
    intro y hy hm
    have hR' : rs r 4 C R (2 * n) = nI R := (rs_R' (by omega)).trans hR
    have hC' : rs r 4 C R (2 * n + 1) = nI C := (rs_C' (by omega)).trans hC
    rw [D_X5_flip_23_s, hR', hC']
    by_cases e : R ≤ y
    · rw [if_pos (ile e (by omega)), show y = R by omega, cbl (R := C) (C := R) rs_R rs_C]
      unfold D_X5_tellDone
      dsimp only [bnd1, bnd3]
      rw [vu_self, vu_ne (show n ≠ 4 by omega)]
      rw [show rs (rs r 4 C R) n C R (2 * n) = nI C from rs_R]
    · rw [if_neg (nile e (by omega)), show gap (nI C) 0 = C - 0 from gapN (b := 0) (by omega) (by omega)]
      refine Eq.trans (cfl_in (n := n) (r := rs r 4 C R) (f := f) (h := h) (a := y) (by omega) hC' h4 (by omega) (C - 0 + 1) 0 (by omega) (by omega)) ?_
      exact ih (y + 1) (by omega) (by omega)
theorem flip_eq (h : Rl r q f r' f' q') {y : Int32} : Ok (D_X5_flip r q f y) (D_X10_flip r' f' q' y) := by
  unfold D_X5_flip D_X10_flip
  rcases ntb (r := r) (q := q) (f := f) (p := y) with ⟨n, hn, rfl, h1, h2, h3⟩ | ⟨E, x1, x2, h1, h2⟩
  · rw [h1, h2]
    dsimp only [bnd2, bnd1]
    have hT := h.1 n hn
    have hb := hT.2.1
    rw [if_pos rfl, if_neg one0, th1_0, h3, hT.1.1, hT.1.2.1, crs hb.2.2.1 hb.2.2.2 hb.1 (by omega), rflp hb.2.1]
    dsimp only [bnd3]
    rw [show rs r 4 (r' (2 * n + 1)) (r' (2 * n)) (2 * n) = nI (r' (2 * n)) from (rs_R' (by omega)).trans hT.1.1, show gap (nI (r' (2 * n))) 0 = r' (2 * n) - 0 from gapN (b := 0) (by omega) (by omega)]
    have e := cfl_out (q := q) (f := f) (h := zf 20 (f 4)) hn hT.1.1 hT.1.2.1 hb.2.1 hb.2.2.2 (r' (2 * n) - 0 + 1) 0 (by omega) (by omega)
    rw [fl0] at e
    rw [show (0 : Int32) = nI 0 from rfl, e]
    have hR : Rl (rs (rs r 4 (r' (2 * n + 1)) (r' (2 * n))) n (r' (2 * n + 1)) (r' (2 * n))) q (va_up (va_up f 4 (fl (r' (2 * n)) 0 (r' (2 * n + 1)) (f n) (zf 20 (f 4)))) n (cp 20 (fl (r' (2 * n)) 0 (r' (2 * n + 1)) (f n) (zf 20 (f 4))) (f n))) (pr r' n (r' (2 * n + 1)) (r' (2 * n))) (va_up f' n (fl (r' (2 * n)) 0 (r' (2 * n + 1)) (f' n) (fun _ => 0))) q' := by
      refine Rl_set (n := n) (Rl_keep h (r1 := rs r 4 (r' (2 * n + 1)) (r' (2 * n))) (f1 := va_up f 4 (fl (r' (2 * n)) 0 (r' (2 * n + 1)) (f n) (zf 20 (f 4)))) (fun i hi => ro (by omega)) ⟨rfl, rfl, rfl⟩) (fun i _ e => ro e) ⟨⟨rs_R, rs_C, fun k hk => ?_⟩, ⟨hb.2.2.1, hb.2.2.2, hb.1, hb.2.1⟩, fun k hk => ?_, fun k hk e => ?_⟩ ⟨rfl, rfl, rfl⟩
      · rw [vu_self, cpl hk]
        by_cases c : k % 5 < r' (2 * n) ∧ k / 5 < r' (2 * n + 1)
        · have e1 : fl (r' (2 * n)) 0 (r' (2 * n + 1)) (f n) (zf 20 (f 4)) k = f n (k % 5 * 5 + k / 5) := if_pos (Or.inl c)
          have e2 : cp (r' (2 * n + 1) * 5) (fl (r' (2 * n)) 0 (r' (2 * n + 1)) (f' n) (fun _ => 0)) (fun _ => 0) k = f' n (k % 5 * 5 + k / 5) := by
            unfold cp
            rw [if_pos (by omega)]
            exact if_pos (Or.inl c)
          rw [e1, e2]
          exact tb_v hT (by omega)
        · have e1 : fl (r' (2 * n)) 0 (r' (2 * n + 1)) (f n) (zf 20 (f 4)) k = 0 := (if_neg (by omega)).trans (if_pos hk)
          have e2 : cp (r' (2 * n + 1) * 5) (fl (r' (2 * n)) 0 (r' (2 * n + 1)) (f' n) (fun _ => 0)) (fun _ => 0) k = 0 := by
            unfold cp
            split
            · exact if_neg (by omega)
            · rfl
          rw [e1, e2]
      · unfold fl
        split
        · exact hT.2.2.1 _ (by omega)
        · exact sm0
      · unfold fl
        rw [if_neg (by omega)]
    exact ok_do hR (by rw [show (va_up (va_up r' (2 * n) (r' (2 * n + 1))) (2 * n + 1) (r' (2 * n))) (2 * n) = r' (2 * n + 1) from pr_R])
  · rw [h1, h2]
    dsimp only [bnd2, bnd1]
    rw [if_neg x1, if_pos rfl, th1_1, x2]
    exact ok_e1 h
end PFL
section PSW
variable {r q : Nat → Int32} {f f1 : Nat → Nat → Int64} {r' : Nat → Nat} {f' F1 : Nat → Nat → Int64} {q' : Nat → Int32} {R C n : Nat} {v : Int32}
def Wr (x : Int32) (x' : Int64) : Prop := x.toInt = x'.toInt ∧ 0 ≤ x.toInt ∧ x.toInt < 65536
theorem rem32 {x y : Int32} (hy : ¬ y = 0) : (x - x / y * y).toInt = x.toInt.tmod y.toInt := by
  have h0 : y.toInt ≠ 0 := fun h => hy (Int32.toInt_inj.mp h)
  rw [Int32.toInt_sub, Int32.toInt_mul, Int32.toInt_div, Int.bmod_mul_bmod, Int.sub_bmod_bmod]
  have e : x.toInt - x.toInt.tdiv y.toInt * y.toInt = x.toInt.tmod y.toInt := by rw [Int.tmod_def, Int.mul_comm]
  rw [e]
  have h1 := Int.natAbs_tmod x.toInt y.toInt
  have h2 : x.toInt.natAbs % y.toInt.natAbs < y.toInt.natAbs := Nat.mod_lt _ (by omega)
  have h3 := Int32.toInt_lt y
  have h4 := Int32.le_toInt y
  exact Int.bmod_eq_of_le (by omega) (by omega)
theorem lcg {x : Int32} {x' : Int64} (h : Wr x x') : Wr (x * 25173 + 13849 - (x * 25173 + 13849) / 65536 * 65536) (x' * 25173 + 13849 - (x' * 25173 + 13849) / 65536 * 65536) := by
  obtain ⟨h1, h2, h3⟩ := h
  have e : (x * 25173 + 13849).toInt = x.toInt * 25173 + 13849 := by
    rw [Int32.toInt_add, Int32.toInt_mul, show (25173 : Int32).toInt = 25173 from rfl, show (13849 : Int32).toInt = 13849 from rfl]
    rw [Int.bmod_eq_of_le (n := x.toInt * 25173) (by omega) (by omega)]
    exact Int.bmod_eq_of_le (by omega) (by omega)
  have e' : (x' * 25173 + 13849).toInt = x'.toInt * 25173 + 13849 := by
    rw [Int64.toInt_add, Int64.toInt_mul, show (25173 : Int64).toInt = 25173 from rfl, show (13849 : Int64).toInt = 13849 from rfl]
    rw [Int.bmod_eq_of_le (n := x'.toInt * 25173) (by omega) (by omega)]
    exact Int.bmod_eq_of_le (by omega) (by omega)
  have r1 := rem32 (x := x * 25173 + 13849) (y := 65536) (by decide)
  have r2 := rem_int (x := x' * 25173 + 13849) (y := 65536) (by decide)
  have g1 := Int.tmod_nonneg 65536 (a := x.toInt * 25173 + 13849) (by omega)
  have g2 := Int.tmod_lt_of_pos (x.toInt * 25173 + 13849) (b := 65536) (by decide)
  rw [e, show (65536 : Int32).toInt = 65536 from rfl] at r1
  rw [e', show (65536 : Int64).toInt = 65536 from rfl, ← h1] at r2
  exact ⟨r1.trans r2.symm, by rw [r1]; exact g1, by rw [r1]; exact g2⟩
theorem sowv {u : Int32} {u' : Int64} (h : Wr u u') (h0 : ¬ v < 0) (h1 : v ≤ 20) : D_X5_remainder ((u / 64).toInt64) ((2 * v + 1).toInt64) = u' / 64 - u' / 64 / (2 * v + 1).toInt64 * (2 * v + 1).toInt64 ∧ 0 ≤ (u' / 64).toInt := by
  have hp : 0 ≤ (u' / 64).toInt := div64 (by have := h.1; have := h.2.1; omega)
  have e : (u / 64).toInt64 = u' / 64 := by
    apply Int64.toInt_inj.mp
    have t1 := Int.tdiv_nonneg h.2.1 (by decide : (0 : Int) ≤ 64)
    have t2 := Int.tdiv_le_self (b := 64) h.2.1
    have := h.2.2
    rw [Int32.toInt_toInt64, Int32.toInt_div, Int64.toInt_div, show (64 : Int32).toInt = 64 from rfl, show (64 : Int64).toInt = 64 from rfl, ← h.1]
    rw [Int.bmod_eq_of_le (by omega) (by omega), Int.bmod_eq_of_le (by omega) (by omega)]
  refine ⟨?_, hp⟩
  have hd := sow_d h0 h1
  rw [e]
  have hx : 0 ≤ (u' / 64 ^^^ (2 * v + 1).toInt64).toInt := (xor_sign (by omega)).mpr hp
  have hc : 0 ≤ lg_cmp (u' / 64 ^^^ (2 * v + 1).toInt64) 0 := (lg_cmp_ge _ _).mpr (Int64.le_iff_toInt_le.mpr hx)
  unfold D_X5_remainder nm fmd
  dsimp only
  rw [if_neg (fun z => sow_nz h0 h1 (lg0.mp z)), if_pos hc]
/-- the table that is sown -/
def Stw (r : Nat → Int32) (f : Nat → Nat → Int64) (r' : Nat → Nat) (f' : Nat → Nat → Int64) (n : Nat) (f1 F1 : Nat → Nat → Int64) : Prop := (∀ i, i < 4 → i ≠ n → f1 i = f i) ∧ (∀ i, i < 4 → i ≠ n → F1 i = f' i) ∧ TB r f1 n (r' (2 * n)) (r' (2 * n + 1)) (F1 n)
theorem sow_in {lb : Int32 → Int32 → (Nat → Nat → Int64) → CRs} {lb' : Nat → Int64 → (Nat → Nat → Int64) → MRs} {a : Nat} (hn : n < 4) (h0 : ¬ v < 0) (h1 : v ≤ 20) (ha : a < r' (2 * n)) (hk : ∀ x x' f1 F1, Wr x x' → Stw r f r' f' n f1 F1 → Ok (lb (nI (a + 1)) x f1) (lb' (a + 1) x' F1)) : ∀ (m1 m2 y : Nat) (x : Int32) (x' : Int64) (f1 F1 : Nat → Nat → Int64), y ≤ r' (2 * n + 1) → r' (2 * n + 1) - y < m1 → r' (2 * n + 1) - y < m2 → Wr x x' → Stw r f r' f' n f1 F1 → Ok (D_X5_sow_54 r q v n lb (nI a) m1 (nI y) x f1) (D_X10_sow_74 r' (nI n) v lb' a m2 y x' F1) := by
  intro m1
  induction m1 with
  | zero => intro m2 y x x' f1 F1 _ h; omega
  | succ m1 ih =>
    intro m2 y x x' f1 F1 hy g1 g2 hx hS
    obtain ⟨m2, rfl⟩ : ∃ m, m2 = m + 1 := ⟨m2 - 1, by omega⟩
    have hT := hS.2.2
    have hb := hT.2.1
    rw [D_X5_sow_54_s, D_X10_sow_74_s, nI_clamp (show n < 2 ^ 31 by omega), hT.1.2.1]
    by_cases e : r' (2 * n + 1) ≤ y
    · rw [if_pos (ile e (by omega)), if_pos e, s1]
      exact hk x x' f1 F1 hx hS
    · rw [if_neg (nile e (by omega)), if_neg e]
      have hl := lcg hx
      obtain ⟨s2, s3⟩ := sowv hl h0 h1
      rw [s2]
      dsimp only [bnd1]
      rw [cset (by omega) (by omega), s1]
      refine ih m2 (y + 1) _ _ _ _ (by omega) (by omega) (by omega) hl ⟨fun i hi e => (vu_ne e).trans (hS.1 i hi e), fun i hi e => (vu_ne e).trans (hS.2.1 i hi e), ?_⟩
      rw [vu_self]
      exact tb_upd hT ha (by omega) (sow_sm h0 h1 s3)
theorem sow_out (h : Rl r q f r' f' q') (hn : n < 4) (h0 : ¬ v < 0) (h1 : v ≤ 20) : ∀ (m1 m2 a : Nat) (x : Int32) (x' : Int64) (f1 F1 : Nat → Nat → Int64), a ≤ r' (2 * n) → r' (2 * n) - a < m1 → r' (2 * n) - a < m2 → Wr x x' → Stw r f r' f' n f1 F1 → Ok (D_X5_sow_41 r q v n m1 (nI a) x f1) (D_X10_sow_61 r' q' (nI n) v 0 m2 a x' F1) := by
  intro m1
  induction m1 with
  | zero => intro m2 y x x' f1 F1 _ h; omega
  | succ m1 ih =>
    intro m2 a x x' f1 F1 ha g1 g2 hx hS
    obtain ⟨m2, rfl⟩ : ∃ m, m2 = m + 1 := ⟨m2 - 1, by omega⟩
    have hT := hS.2.2
    have hb := hT.2.1
    rw [D_X5_sow_41_s, D_X10_sow_61_s, nI_clamp (show n < 2 ^ 31 by omega), hT.1.1, hT.1.2.1]
    by_cases e : r' (2 * n) ≤ a
    · rw [if_pos (ile e (by omega)), if_pos e, tb_cf hT, rot]
      unfold D_X5_tellDone
      dsimp only [bnd1, bnd3]
      have hR : Rl r q f1 r' F1 q' := Rl_new (n := n) h (fun i hi e => ⟨⟨rfl, rfl⟩, hS.1 i hi e⟩) (fun i hi e => ⟨⟨rfl, rfl⟩, hS.2.1 i hi e⟩) hT ⟨rfl, rfl, rfl⟩
      exact ok_do hR (by rw [nI_mul])
    · rw [if_neg (nile e (by omega)), if_neg e, show gap (nI (r' (2 * n + 1))) 0 = r' (2 * n + 1) - 0 from gapN (b := 0) (by omega) (by omega)]
      exact sow_in hn h0 h1 (by omega) (fun x x' f1 F1 hx hS => ih m2 (a + 1) x x' f1 F1 (by omega) (by omega) (by omega) hx hS) _ _ 0 x x' f1 F1 (by omega) (by omega) (by omega) hx hS
theorem sow_eq (h : Rl r q f r' f' q') {y z : Int32} : Ok (D_X5_sow r q f y z v) (D_X10_sow r' f' q' y z v) := by
  have harg : ∀ (n : Nat) (a b : Int32), Ok (D_X5_sow_j32 r q f a b n 0) (0, r', f', va_up q' 3 2) := by
    intro n a b
    unfold D_X5_sow_j32
    dsimp only [bnd1]
    rw [ia0, if_neg e_ne2]
    exact ok_e2 h
  unfold D_X5_sow D_X10_sow
  rcases ntb (r := r) (q := q) (f := f) (p := y) with ⟨n, hn, rfl, h1, h2, h3⟩ | ⟨E, x1, x2, h1, h2⟩
  · rw [h1, h2]
    dsimp only [bnd2, bnd1]
    rw [if_pos rfl, if_neg one0, th2_01, th2_00]
    by_cases z1 : z < 0
    · rw [if_pos z1, if_pos z1]; exact harg n _ _
    · rw [if_neg z1, if_neg z1]
      by_cases z2 : 65535 < z
      · rw [if_pos z2, if_pos z2]; exact harg n _ _
      · rw [if_neg z2, if_neg z2]
        by_cases v1 : v < 0
        · rw [if_pos v1, if_pos v1]; exact harg n _ _
        · rw [if_neg v1, if_neg v1]
          by_cases v2 : v ≤ 20
          · have hT := h.1 n hn
            have hb := hT.2.1
            rw [if_neg (Int32.not_lt.mpr v2), if_pos v2]
            unfold D_X5_sow_j32
            dsimp only [bnd1]
            rw [ia1, if_pos rfl, h3, hT.1.1, show gap (nI (r' (2 * n))) 0 = r' (2 * n) - 0 from gapN (b := 0) (by omega) (by omega)]
            exact sow_out h hn v1 v2 _ _ 0 z z.toInt64 f f' (by omega) (by omega) (by omega) ⟨(Int32.toInt_toInt64 z).symm, by have := seed_x z1 z2; rw [Int32.toInt_toInt64] at this; exact this.1, by have := seed_x z1 z2; rw [Int32.toInt_toInt64] at this; exact this.2⟩ ⟨fun _ _ _ => rfl, fun _ _ _ => rfl, hT⟩
          · rw [if_pos (Int32.not_le.mp v2), if_neg v2]; exact harg n _ _
  · rw [h1, h2]
    dsimp only [bnd2, bnd1]
    rw [if_neg x1, if_pos rfl, th2_10, th2_11, ite_self, ite_self, ite_self, ite_self, x2]
    exact ok_e1 h
end PSW
end
section
-- 70.pactd
section PWD
variable {r q r1 q1 : Nat → Int32} {f f1 : Nat → Nat → Int64} {r' r1' : Nat → Nat} {f' f1' : Nat → Nat → Int64} {q' : Nat → Int32} {R C i n R2 C2 a b c : Nat} {g G : Nat → Int64} {x x' y z : Int32}
/-- the number that stands there once a row and a column are left out -/
def sq (R C : Nat) (g : Nat → Int64) (y z : Int32) : Nat → Int64 := fun k => if (if y ≤ nI (k / 5) then k / 5 + 1 else k / 5) < R ∧ (if z ≤ nI (k % 5) then k % 5 + 1 else k % 5) < C then g ((if y ≤ nI (k / 5) then k / 5 + 1 else k / 5) * 5 + (if z ≤ nI (k % 5) then k % 5 + 1 else k % 5)) else 0
theorem tv_e {g h : Nat → Int64} (hb : b < 5) (e : g (a * 5 + b) = h (a * 5 + b)) : tv a b c g h = tv a (b + 1) c g h := by
  funext k
  unfold tv
  by_cases e1 : k = a * 5 + b
  · subst e1
    split
    · split
      · rfl
      · exact e
    · split
      · exact e.symm
      · rfl
  · by_cases c1 : (k / 5 < a ∧ k % 5 < c) ∨ (k / 5 = a ∧ k % 5 < b)
    · rw [if_pos c1, if_pos (by omega)]
    · rw [if_neg c1, if_neg (by omega)]
theorem tv00 {g h : Nat → Int64} : tv 0 0 c g h = h := by funext k; unfold tv; rw [if_neg (by omega)]
theorem tv_p {g h : Nat → Int64} {k : Nat} (e : k / 5 < a ∧ k % 5 < c) : tv a 0 c g h k = g k := if_pos (Or.inl e)
theorem tv_n {g h : Nat → Int64} {k : Nat} (e : ¬ (k / 5 < a ∧ k % 5 < c)) : tv a 0 c g h k = h k := if_neg (by omega)
theorem sq_at (hb : b < 5) : sq R C g y z (a * 5 + b) = if (if y ≤ nI a then a + 1 else a) < R ∧ (if z ≤ nI b then b + 1 else b) < C then g ((if y ≤ nI a then a + 1 else a) * 5 + (if z ≤ nI b then b + 1 else b)) else 0 := by
  unfold sq
  rw [show (a * 5 + b) / 5 = a by omega, show (a * 5 + b) % 5 = b by omega]
theorem rsh_in {lb : Nat → (Nat → Int64) → Nat → Int64} (hc : c ≤ 5) : ∀ m b : Nat, b ≤ c → c - b < m → D_X10_shaped_23 R C g c y z lb a m b (tv a b c (sq R C g y z) (fun _ => 0)) = lb (a + 1) (tv (a + 1) 0 c (sq R C g y z) (fun _ => 0)) := by
  intro m
  induction m with
  | zero => intro y _ h; omega
  | succ m ih =>
    intro b hb hm
    rw [D_X10_shaped_23_s]
    by_cases e : c ≤ b
    · rw [if_pos e, show b = c by omega, tv_r]
    · rw [if_neg e]
      have hq := sq_at (R := R) (C := C) (g := g) (y := y) (z := z) (a := a) (show b < 5 by omega)
      by_cases y1 : y ≤ nI a
      · rw [if_pos y1] at hq
        rw [if_pos y1]
        by_cases z1 : z ≤ nI b
        · rw [if_pos z1] at hq
          rw [if_pos z1]
          by_cases e1 : R ≤ a + 1
          · rw [if_pos e1, tv_e (by omega) (hq.trans (if_neg (by omega)))]
            exact ih (b + 1) (by omega) (by omega)
          · rw [if_neg e1]
            by_cases e2 : C ≤ b + 1
            · rw [if_pos e2, tv_e (by omega) (hq.trans (if_neg (by omega)))]
              exact ih (b + 1) (by omega) (by omega)
            · rw [if_neg e2, ← hq.trans (if_pos ⟨by omega, by omega⟩), tv_s (by omega) hc]
              exact ih (b + 1) (by omega) (by omega)
        · rw [if_neg z1] at hq
          rw [if_neg z1]
          by_cases e1 : R ≤ a + 1
          · rw [if_pos e1, tv_e (by omega) (hq.trans (if_neg (by omega)))]
            exact ih (b + 1) (by omega) (by omega)
          · rw [if_neg e1]
            by_cases e2 : C ≤ b
            · rw [if_pos e2, tv_e (by omega) (hq.trans (if_neg (by omega)))]
              exact ih (b + 1) (by omega) (by omega)
            · rw [if_neg e2, ← hq.trans (if_pos ⟨by omega, by omega⟩), tv_s (by omega) hc]
              exact ih (b + 1) (by omega) (by omega)
      · rw [if_neg y1] at hq
        rw [if_neg y1]
        by_cases z1 : z ≤ nI b
        · rw [if_pos z1] at hq
          rw [if_pos z1]
          by_cases e1 : R ≤ a
          · rw [if_pos e1, tv_e (by omega) (hq.trans (if_neg (by omega)))]
            exact ih (b + 1) (by omega) (by omega)
          · rw [if_neg e1]
            by_cases e2 : C ≤ b + 1
            · rw [if_pos e2, tv_e (by omega) (hq.trans (if_neg (by omega)))]
              exact ih (b + 1) (by omega) (by omega)
            · rw [if_neg e2, ← hq.trans (if_pos ⟨by omega, by omega⟩), tv_s (by omega) hc]
              exact ih (b + 1) (by omega) (by omega)
        · rw [if_neg z1] at hq
          rw [if_neg z1]
          by_cases e1 : R ≤ a
          · rw [if_pos e1, tv_e (by omega) (hq.trans (if_neg (by omega)))]
            exact ih (b + 1) (by omega) (by omega)
          · rw [if_neg e1]
            by_cases e2 : C ≤ b
            · rw [if_pos e2, tv_e (by omega) (hq.trans (if_neg (by omega)))]
              exact ih (b + 1) (by omega) (by omega)
            · rw [if_neg e2, ← hq.trans (if_pos ⟨by omega, by omega⟩), tv_s (by omega) hc]
              exact ih (b + 1) (by omega) (by omega)
theorem rsh_l (hc : c ≤ 5) : ∀ m a : Nat, a ≤ n → n - a < m → D_X10_shaped_14 R C g n c y z m a (tv a 0 c (sq R C g y z) (fun _ => 0)) = tv n 0 c (sq R C g y z) (fun _ => 0) := by
  intro m
  induction m with
  | zero => intro y _ h; omega
  | succ m ih =>
    intro a ha hm
    rw [D_X10_shaped_14_s]
    by_cases e : n ≤ a
    · rw [if_pos e, show a = n by omega]
    · rw [if_neg e, rsh_in hc (c + 1 - 0 + 1) 0 (by omega) (by omega)]
      exact ih (a + 1) (by omega) (by omega)
theorem rsh (hc : c ≤ 5) : D_X10_shaped R C g n c y z = tv n 0 c (sq R C g y z) (fun _ => 0) := by
  have e := rsh_l (R := R) (C := C) (g := g) (n := n) (y := y) (z := z) hc (n + 1 - 0 + 1) 0 (by omega) (by omega)
  rw [tv00] at e
  exact e
theorem sq_sm (hC : C ≤ 5) (h : ∀ k, k < R * 5 → sm (g k)) (k : Nat) : sm (sq R C g y z k) := by
  unfold sq
  generalize (if y ≤ nI (k / 5) then k / 5 + 1 else k / 5) = A
  generalize (if z ≤ nI (k % 5) then k % 5 + 1 else k % 5) = B
  by_cases c : A < R ∧ B < C
  · rw [if_pos c]; exact h _ (by omega)
  · rw [if_neg c]; exact sm0
theorem tk_ok (h : Rl r q f r' f' q') (hn : n < 4) (hb2 : 1 ≤ R2 ∧ R2 ≤ 4 ∧ 1 ≤ C2 ∧ C2 ≤ 4) (hG : ∀ k, k < 20 → (if k / 5 < min R2 (r' (2 * n)) ∧ k % 5 < min C2 (r' (2 * n + 1)) then g k else 0) = (if k < R2 * 5 then G k else 0)) (hs : ∀ k, k < R2 * 5 → sm (G k)) (hz : zc C2 (R2 * 5) G) (hx : x = x') : Ok (bnd3 (D_X3_reshape (rs r 4 (r' (2 * n)) (r' (2 * n + 1))) q (va_up f 4 (cp 20 g (f 4))) n (nI R2) (nI C2)) (fun r18 q20 f22 => bnd1 (D_X3_takeOver r18 q20 f22 n 4) (fun f24 => bnd3 (D_X5_tellDone r18 q20 f24 x) (fun x26 q27 f29 => ("", x26, r18, q27, f29))))) (x', pr r' n R2 C2, va_up f' n G, va_up (va_up q' 3 0) 0 ((va_up q' 3 0) 0 + 1)) := by
  have hT := h.1 n hn
  have hb := hT.2.1
  rw [crs hb2.1 hb2.2.1 hb2.2.2.1 (by omega)]
  dsimp only [bnd3, bnd1]
  rw [cto (i := n) (j := 4) (R := R2) (C := C2) (Rj := r' (2 * n)) (Cj := r' (2 * n + 1)) (by omega) rs_R ((rs_R' (by omega)).trans rs_R) rs_C ((rs_C' (by omega)).trans rs_C) hb2.2.1 hb.2.1 (by omega) (by omega)]
  unfold D_X5_tellDone
  dsimp only
  refine ok_do (Rl_set (n := n) (Rl_keep h (r1 := rs r 4 (r' (2 * n)) (r' (2 * n + 1))) (f1 := va_up f 4 (cp 20 g (f 4))) (fun i hi => ro (by omega)) ⟨rfl, rfl, rfl⟩) (fun i _ e => ⟨⟨rs_R' e, rs_C' e⟩, (vu_ne e).trans (vu_ne e)⟩) ⟨⟨rs_R, rs_C, fun k hk => ?_⟩, hb2, hs, hz⟩ ⟨rfl, rfl, rfl⟩) hx
  show va_up (va_up _ n _) n (tv _ _ _ _ _) n k = if k < R2 * 5 then G k else 0
  rw [vu_self, ← hG k hk, vu_self, vu_ne (show 4 ≠ n by omega), vu_self]
  by_cases e : k / 5 < min R2 (r' (2 * n)) ∧ k % 5 < min C2 (r' (2 * n + 1))
  · rw [tv_p e, if_pos e, cpl hk]
  · rw [tv_n e, if_neg e]
    exact if_pos hk
theorem sq99 {k : Nat} (hk : k < 20) : sq R C g 9 9 k = if k / 5 < R ∧ k % 5 < C then g k else 0 := by
  have e1 : ¬ (9 : Int32) ≤ nI (k / 5) := nile (a := 9) (by omega) (by omega)
  have e2 : ¬ (9 : Int32) ≤ nI (k % 5) := nile (a := 9) (by omega) (by omega)
  unfold sq
  rw [if_neg e1, if_neg e2, show k / 5 * 5 + k % 5 = k by omega]
theorem hGw (h1 : R ≤ R2) (h2 : C ≤ C2) {k : Nat} (hk : k < 20) : (if k / 5 < min R2 R ∧ k % 5 < min C2 C then cp (R * 5) g (fun _ => 0) k else 0) = (if k < R2 * 5 then tv R2 0 C2 (sq R C g 9 9) (fun _ => 0) k else 0) := by
  by_cases c : k / 5 < R ∧ k % 5 < C
  · rw [if_pos (by omega), if_pos (show k < R2 * 5 by omega), tv_p (by omega), sq99 hk, if_pos c]
    exact if_pos (by omega)
  · rw [if_neg (by omega)]
    split
    · by_cases c2 : k / 5 < R2 ∧ k % 5 < C2
      · rw [tv_p c2, sq99 hk, if_neg c]
      · rw [tv_n c2]
    · rfl
theorem tvG_s (hC : C ≤ 5) (h : ∀ k, k < R * 5 → sm (g k)) : ∀ k, k < R2 * 5 → sm (tv R2 0 C2 (sq R C g y z) (fun _ => 0) k) := by
  intro k _
  unfold tv
  split
  · exact sq_sm hC h k
  · exact sm0
theorem tvG_z : zc C2 (R2 * 5) (tv R2 0 C2 (sq R C g y z) (fun _ => 0)) := fun k hk e => tv_n (by omega)
theorem widen_eq (h : Rl r q f r' f' q') {y p : Int32} : Ok (D_X5_widen r q f y p) (D_X10_widen r' f' q' y p) := by
  unfold D_X5_widen D_X10_widen
  rcases ntb (r := r) (q := q) (f := f) (p := y) with ⟨n, hn, rfl, h1, h2, h3⟩ | ⟨E, x1, x2, h1, h2⟩
  · rw [h1, h2]
    dsimp only [bnd2, bnd1]
    have hT := h.1 n hn
    have hb := hT.2.1
    rw [if_pos rfl, if_neg one0, th1_0, h3]
    unfold D_X3_countLines
    by_cases hp : p = 0
    · rw [if_pos hp, if_pos hp, hT.1.1, rsh (show r' (2 * n + 1) ≤ 5 by omega)]
      by_cases e : r' (2 * n) + 1 ≤ 4
      · rw [if_pos (show nI (r' (2 * n)) < 4 from nI_lt (b := 4) (by omega) (by omega)), if_pos e, draft h hn]
        dsimp only [bnd3]
        rw [if_pos hp]
        unfold D_X5_widen_j48
        rw [if_pos hp, show rs r 4 (r' (2 * n)) (r' (2 * n + 1)) (2 * n + 1) = nI (r' (2 * n + 1)) from (rs_C' (by omega)).trans hT.1.2.1, s1]
        unfold D_X5_widen_j63
        rw [s1]
        exact tk_ok h hn ⟨by omega, e, hb.2.2.1, hb.2.2.2⟩ (fun k hk => hGw (by omega) (by omega) hk) (tvG_s (by omega) hT.2.2.1) tvG_z rfl
      · rw [if_neg (show ¬ nI (r' (2 * n)) < 4 from nI_nlt (a := r' (2 * n)) (b := 4) (by omega) (by omega)), if_neg e]
        unfold D_X5_tellRefused
        dsimp only [bnd3]
        exact ok_no h
    · rw [if_neg hp, if_neg hp, hT.1.2.1, rsh (show r' (2 * n + 1) + 1 ≤ 5 by omega)]
      by_cases e : r' (2 * n + 1) + 1 ≤ 4
      · rw [if_pos (show nI (r' (2 * n + 1)) < 4 from nI_lt (b := 4) (by omega) (by omega)), if_pos e, draft h hn]
        dsimp only [bnd3]
        rw [if_neg hp]
        unfold D_X5_widen_j48
        rw [if_neg hp, show rs r 4 (r' (2 * n)) (r' (2 * n + 1)) (2 * n) = nI (r' (2 * n)) from (rs_R' (by omega)).trans hT.1.1, s1]
        unfold D_X5_widen_j63
        rw [s1]
        exact tk_ok h hn ⟨hb.1, hb.2.1, by omega, e⟩ (fun k hk => hGw (by omega) (by omega) hk) (tvG_s (by omega) hT.2.2.1) tvG_z rfl
      · rw [if_neg (show ¬ nI (r' (2 * n + 1)) < 4 from nI_nlt (a := r' (2 * n + 1)) (b := 4) (by omega) (by omega)), if_neg e]
        unfold D_X5_tellRefused
        dsimp only [bnd3]
        exact ok_no h
  · rw [h1, h2]
    dsimp only [bnd2, bnd1]
    rw [if_neg x1, if_pos rfl, th1_1, x2]
    exact ok_e1 h
/-- row a has gone down to row y -/
def rr (C a y : Nat) (g : Nat → Int64) : Nat → Int64 := fun k => if k % 5 < C ∧ a ≤ k / 5 ∧ k / 5 < y then g (k + 5) else if k % 5 < C ∧ k / 5 = y then g (a * 5 + k % 5) else g k
/-- column a has gone right to column y -/
def rc (R a y : Nat) (g : Nat → Int64) : Nat → Int64 := fun k => if k / 5 < R ∧ a ≤ k % 5 ∧ k % 5 < y then g (k + 1) else if k / 5 < R ∧ k % 5 = y then g (k / 5 * 5 + a) else g k
theorem rr0 : rr C a a g = g := by
  funext k
  unfold rr
  rw [if_neg (by omega)]
  split
  · congr 1; omega
  · rfl
theorem rc0 : rc R a a g = g := by
  funext k
  unfold rc
  rw [if_neg (by omega)]
  split
  · congr 1; omega
  · rfl
theorem rr_s {y : Nat} (hy : a ≤ y) (hC : C ≤ 5) : xr C y (y + 1) (rr C a y g) = rr C a (y + 1) g := by
  funext k
  unfold xr
  by_cases c0 : k % 5 < C
  · by_cases c1 : k / 5 = y
    · rw [if_pos ⟨c0, c1⟩]
      unfold rr
      rw [show ((y + 1) * 5 + k % 5) % 5 = k % 5 by omega, show ((y + 1) * 5 + k % 5) / 5 = y + 1 by omega, if_neg (by omega), if_neg (by omega), if_pos (by omega)]
      congr 1; omega
    · rw [if_neg (by omega)]
      by_cases c2 : k / 5 = y + 1
      · rw [if_pos ⟨c0, c2⟩]
        unfold rr
        rw [show (y * 5 + k % 5) % 5 = k % 5 by omega, show (y * 5 + k % 5) / 5 = y by omega, if_neg (by omega), if_pos (by omega), if_neg (by omega), if_pos (by omega)]
      · rw [if_neg (by omega)]
        unfold rr
        by_cases c3 : a ≤ k / 5 ∧ k / 5 < y
        · rw [if_pos (by omega), if_pos (by omega)]
        · rw [if_neg (by omega), if_neg (by omega), if_neg (by omega), if_neg (by omega)]
  · rw [if_neg (by omega), if_neg (by omega)]
    unfold rr
    rw [if_neg (by omega), if_neg (by omega), if_neg (by omega), if_neg (by omega)]
theorem rc_s {y : Nat} (hy : a ≤ y) (hy5 : y + 1 < 5) : xc R y (y + 1) (rc R a y g) = rc R a (y + 1) g := by
  funext k
  unfold xc
  by_cases c0 : k / 5 < R
  · by_cases c1 : k % 5 = y
    · rw [if_pos ⟨c0, c1⟩]
      unfold rc
      rw [show (k / 5 * 5 + (y + 1)) % 5 = y + 1 by omega, show (k / 5 * 5 + (y + 1)) / 5 = k / 5 by omega, if_neg (by omega), if_neg (by omega), if_pos (by omega)]
      congr 1; omega
    · rw [if_neg (by omega)]
      by_cases c2 : k % 5 = y + 1
      · rw [if_pos ⟨c0, c2⟩]
        unfold rc
        rw [show (k / 5 * 5 + y) % 5 = y by omega, show (k / 5 * 5 + y) / 5 = k / 5 by omega, if_neg (by omega), if_pos (by omega), if_neg (by omega), if_pos (by omega)]
      · rw [if_neg (by omega)]
        unfold rc
        by_cases c3 : a ≤ k % 5 ∧ k % 5 < y
        · rw [if_pos (by omega), if_pos (by omega)]
        · rw [if_neg (by omega), if_neg (by omega), if_neg (by omega), if_neg (by omega)]
  · rw [if_neg (by omega), if_neg (by omega)]
    unfold rc
    rw [if_neg (by omega), if_neg (by omega), if_neg (by omega), if_neg (by omega)]
theorem sub1 {R : Nat} (h : 1 ≤ R) : nI R - 1 = nI (R - 1) := nI_sub (b := 1) h
theorem drop_r (hn : n < 4) (hR : 1 ≤ R) (hR4 : R ≤ 4) (hC : C ≤ 4) (hrC : r (2 * n + 1) = nI C) : ∀ m y : Nat, a ≤ y → y ≤ R - 1 → R - 1 - y < m → D_X5_drop_48 0 n (nI R) (rs r 4 R C) q m (nI y) (va_up f 4 (cp 20 (rr C a y g) (f 4))) = D_X5_drop_j111 n (nI R) (rs r 4 R C) q (va_up f 4 (cp 20 (rr C a (R - 1) g) (f 4))) (nI (R - 1)) (nI C) := by
  intro m
  induction m with
  | zero => intro y _ _ h; omega
  | succ m ih =>
    intro y ha hy hm
    rw [D_X5_drop_48_s, sub1 hR]
    by_cases e : R - 1 ≤ y
    · rw [if_pos (ile e (by omega)), if_pos rfl, show y = R - 1 by omega]
      unfold D_X5_drop_j95
      rw [if_pos rfl, (rs_C' (by omega)).trans hrC]
    · rw [if_neg (nile e (by omega)), s1]
      dsimp only [bnd1]
      rw [cexR (C := C) rs_C (by omega) (by omega) (by omega), vu_self, vu2, cp_xr (by omega) (by omega), rr_s ha (by omega)]
      exact ih (y + 1) (by omega) (by omega) (by omega)
theorem drop_c {p : Int32} (hp : ¬ p = 0) (hn : n < 4) (hC1 : 1 ≤ C) (hR4 : R ≤ 4) (hC : C ≤ 4) (hrR : r (2 * n) = nI R) : ∀ m y : Nat, a ≤ y → y ≤ C - 1 → C - 1 - y < m → D_X5_drop_48 p n (nI C) (rs r 4 R C) q m (nI y) (va_up f 4 (cp 20 (rc R a y g) (f 4))) = D_X5_drop_j111 n (nI C) (rs r 4 R C) q (va_up f 4 (cp 20 (rc R a (C - 1) g) (f 4))) (nI R) (nI (C - 1)) := by
  intro m
  induction m with
  | zero => intro y _ _ h; omega
  | succ m ih =>
    intro y ha hy hm
    rw [D_X5_drop_48_s, sub1 hC1]
    by_cases e : C - 1 ≤ y
    · rw [if_pos (ile e (by omega)), if_neg hp, show y = C - 1 by omega]
      unfold D_X5_drop_j95
      rw [if_neg hp, (rs_R' (by omega)).trans hrR, sub1 hC1]
    · rw [if_neg (nile e (by omega)), s1]
      dsimp only [bnd1]
      rw [cexC (R := R) hp rs_R hR4 (by omega) (by omega), vu_self, vu2, cp_xc (by omega) (by omega) hR4, rc_s ha (by omega)]
      exact ih (y + 1) (by omega) (by omega) (by omega)
theorem hGr (ha : a < R) (hR4 : R ≤ 4) (h2 : 1 < R) {k : Nat} (hk : k < 20) : (if k / 5 < min (R - 1) R ∧ k % 5 < min C C then rr C a (R - 1) (cp (R * 5) g (fun _ => 0)) k else 0) = (if k < (R - 1) * 5 then tv (R - 1) 0 C (sq R C g (nI a) 9) (fun _ => 0) k else 0) := by
  by_cases c : k / 5 < R - 1 ∧ k % 5 < C
  · rw [if_pos (by omega), if_pos (show k < (R - 1) * 5 by omega), tv_p c]
    have e2 : ¬ (9 : Int32) ≤ nI (k % 5) := nile (a := 9) (by omega) (by omega)
    unfold sq rr cp
    by_cases c1 : a ≤ k / 5
    · rw [if_pos (by omega), if_pos (by omega), if_pos (ile c1 (by omega)), if_neg e2, if_pos (by omega)]
      congr 1; omega
    · rw [if_neg (by omega), if_neg (by omega), if_pos (by omega), if_neg (nile c1 (by omega)), if_neg e2, if_pos (by omega)]
      congr 1; omega
  · rw [if_neg (by omega), tv_n c, ite_self]
theorem hGc (ha : a < C) (hC4 : C ≤ 4) (h2 : 1 < C) {k : Nat} (hk : k < 20) : (if k / 5 < min R R ∧ k % 5 < min (C - 1) C then rc R a (C - 1) (cp (R * 5) g (fun _ => 0)) k else 0) = (if k < R * 5 then tv R 0 (C - 1) (sq R C g 9 (nI a)) (fun _ => 0) k else 0) := by
  by_cases c : k / 5 < R ∧ k % 5 < C - 1
  · rw [if_pos (by omega), if_pos (show k < R * 5 by omega), tv_p c]
    have e2 : ¬ (9 : Int32) ≤ nI (k / 5) := nile (a := 9) (by omega) (by omega)
    unfold sq rc cp
    by_cases c1 : a ≤ k % 5
    · rw [if_pos (by omega), if_pos (by omega), if_neg e2, if_pos (ile c1 (by omega)), if_pos (by omega)]
      congr 1; omega
    · rw [if_neg (by omega), if_neg (by omega), if_pos (by omega), if_neg e2, if_neg (nile c1 (by omega)), if_pos (by omega)]
      congr 1; omega
  · rw [if_neg (by omega), tv_n c, ite_self]
theorem drop_eq (h : Rl r q f r' f' q') {y p z : Int32} : Ok (D_X5_drop r q f y p z) (D_X10_drop r' f' q' y p z) := by
  unfold D_X5_drop D_X10_drop
  rcases ntb (r := r) (q := q) (f := f) (p := y) with ⟨n, hn, rfl, h1, h2, h3⟩ | ⟨E, x1, x2, h1, h2⟩
  · rw [h1]
    dsimp only [bnd2, bnd1]
    have hT := h.1 n hn
    have hb := hT.2.1
    rw [if_pos rfl, th1_1, th1_0, h3]
    rcases hlin h hn (c := p) (k := z) with ⟨a, rfl, a1, a2, a3, a4, a5⟩ | ⟨a3, a4⟩
    · rw [a3, a4, if_neg one0, nx1, if_pos rfl]
      unfold D_X3_countLines
      by_cases hp : p = 0
      · subst hp
        rw [if_pos rfl] at a1
        rw [if_pos rfl, if_pos rfl, hT.1.1, rsh (show r' (2 * n + 1) ≤ 5 by omega)]
        by_cases e : r' (2 * n) - 1 = 0
        · rw [if_neg (show ¬ (1 : Int32) < nI (r' (2 * n)) from nI_nlt (b := r' (2 * n)) (a := 1) (by omega) (by omega)), if_pos e]
          unfold D_X5_tellRefused
          dsimp only [bnd3]
          exact ok_no h
        · rw [if_pos (show (1 : Int32) < nI (r' (2 * n)) from nI_lt (a := 1) (by omega) (by omega)), if_neg e, draft h hn]
          dsimp only [bnd3]
          rw [sub1 hb.1, gapN (by omega) (by omega)]
          have hl := drop_r (q := q) (f := f) (a := a) (g := gb r' f' n) hn hb.1 hb.2.1 hb.2.2.2 hT.1.2.1 (r' (2 * n) - 1 - a + 1) a (by omega) (by omega) (by omega)
          rw [rr0] at hl
          rw [hl]
          unfold D_X5_drop_j111
          rw [sub1 hb.1]
          exact tk_ok h hn ⟨by omega, by omega, hb.2.2.1, hb.2.2.2⟩ (fun k hk => hGr a1 hb.2.1 (by omega) hk) (tvG_s (by omega) hT.2.2.1) tvG_z rfl
      · rw [if_neg hp] at a1
        rw [if_neg hp, if_neg hp, hT.1.2.1, rsh (show r' (2 * n + 1) - 1 ≤ 5 by omega)]
        by_cases e : r' (2 * n + 1) - 1 = 0
        · rw [if_neg (show ¬ (1 : Int32) < nI (r' (2 * n + 1)) from nI_nlt (b := r' (2 * n + 1)) (a := 1) (by omega) (by omega)), if_pos e]
          unfold D_X5_tellRefused
          dsimp only [bnd3]
          exact ok_no h
        · rw [if_pos (show (1 : Int32) < nI (r' (2 * n + 1)) from nI_lt (a := 1) (by omega) (by omega)), if_neg e, draft h hn]
          dsimp only [bnd3]
          rw [sub1 hb.2.2.1, gapN (by omega) (by omega)]
          have hl := drop_c (q := q) (f := f) (a := a) (g := gb r' f' n) hp hn hb.2.2.1 hb.2.1 hb.2.2.2 hT.1.1 (r' (2 * n + 1) - 1 - a + 1) a (by omega) (by omega) (by omega)
          rw [rc0] at hl
          rw [hl]
          unfold D_X5_drop_j111
          rw [sub1 hb.2.2.1]
          exact tk_ok h hn ⟨hb.1, hb.2.1, by omega, by omega⟩ (fun k hk => hGc a1 hb.2.2.2 (by omega) hk) (tvG_s (by omega) hT.2.2.1) tvG_z rfl
    · rw [a3, a4, if_pos rfl, nx0, if_neg e_ne]
      exact ok_e1 h
  · rw [h1]
    dsimp only [bnd2, bnd1]
    rw [if_neg x1, (isT_0 h2).2.2, if_pos rfl, th1_1, x2]
    exact ok_e1 h
end PWD
end
section
-- 71.pacte
section PSM
variable {r q r1 q1 : Nat → Int32} {f f1 : Nat → Nat → Int64} {r' r1' : Nat → Nat} {f' f1' : Nat → Nat → Int64} {q' : Nat → Int32} {R C i n m R2 C2 a b c : Nat} {g G : Nat → Int64} {x x' y z : Int32}
/-- a form goes into a table -/
theorem form_ok (h : Rl r q f r' f' q') (hm : m < 4) (h1 : r (2 * i) = nI R) (h2 : r (2 * i + 1) = nI C) (hb : 1 ≤ R ∧ R ≤ 4 ∧ 1 ≤ C ∧ C ≤ 4) (hg : ∀ k, k < 20 → f i k = g k) (hz : zo R C g) (hlo : ∀ k, k < R * 5 → -9223372036854775807 ≤ (g k).toInt) : Ok (bnd4 (D_X5_settleForm r q f i m) (fun x r q f => ("", x, r, q, f))) (bnd4 (D_X10_become r' f' (va_up q' 3 0) (nI m) R C g) (fun x r f q => (x, r, f, q))) := by
  unfold D_X5_settleForm D_X10_become
  dsimp only [bnd1, bnd3, bnd4]
  rw [nI_clamp (show m < 2 ^ 31 by omega)]
  rcases ciw_sm (q := q) (f := f) h1 h2 hb.2.1 (by omega) (fun k hk => by rw [hg k (by omega)]; exact hlo k hk) (fun k hk e => by rw [hg k (by omega)]; exact hz k (by omega) (Or.inr e)) with ⟨w1, w2⟩ | ⟨w1, w2⟩
  · have hs : ∀ k, k < R * 5 → sm (g k) := fun k hk => by rw [← hg k (by omega)]; exact w1 k hk
    rcases ril (R := R) (C := C) (f := g) with ⟨a1, a2⟩ | ⟨⟨k, a1, a2⟩, a3⟩
    · have hTB : TB (rs r m R C) (va_up f m (cp 20 (f i) (f m))) m R C g := ⟨⟨rs_R, rs_C, fun k hk => by
        rw [vu_self, cpl hk, hg k hk]
        unfold cp
        split
        · rfl
        · exact hz k hk (Or.inl (by omega))⟩, hb, hs, fun k hk e => hz k (by omega) (Or.inr e)⟩
      rw [w2, a2, if_neg one0, if_neg one0, cbl h1 h2]
      unfold D_X5_tellDone
      dsimp only
      rw [tb_cf hTB, rot]
      refine ok_do (Rl_set h (fun i _ e => ro e) hTB ⟨rfl, rfl, rfl⟩) ?_
      rw [vu_self, show (va_up (va_up r' (2 * m) R) (2 * m + 1) C) (2 * m) = R from pr_R]
    · exact absurd (hs k a1) a2
  · rcases ril (R := R) (C := C) (f := g) with ⟨a1, a2⟩ | ⟨⟨k, a1, a2⟩, a3⟩
    · exact absurd (fun k hk => by rw [hg k (by omega)]; exact a1 k hk) w1
    · rw [w2, a3, if_pos rfl, if_pos rfl]
      unfold D_X5_tellRefused
      dsimp only
      exact ok_no h
/-- the sum of two tables, number by number -/
def su (p : Int32) (g h : Nat → Int64) : Nat → Int64 := fun k => if p = 0 then g k + h k else g k + -(h k)
theorem su_at {p : Int32} {g h : Nat → Int64} {k : Nat} : su p g h k = g k + (if p = 0 then h k else -(h k)) := by
  unfold su
  split
  · rfl
  · rfl
theorem csu_in {p : Int32} {lb : Int32 → (Nat → Nat → Int64) → CRs} {u : Nat → Int64} (hn : n ≠ 4) (hm : m ≠ 4) (hC : r (2 * n + 1) = nI C) (h4 : C ≤ 4) (ha : a < 4) : ∀ k y : Nat, y ≤ C → C - y < k → D_X5_sum_86 p n m r q lb (nI a) k (nI y) (va_up f 4 (tv a y C (su p (f n) (f m)) u)) = lb (nI (a + 1)) (va_up f 4 (tv (a + 1) 0 C (su p (f n) (f m)) u)) := by
  intro k
  induction k with
  | zero => intro y _ h; omega
  | succ k ih =>
    intro y hy hk
    rw [D_X5_sum_86_s, hC]
    by_cases e : C ≤ y
    · rw [if_pos (ile e (by omega)), s1, show y = C by omega, tv_r]
    · rw [if_neg (nile e (by omega))]
      dsimp only [bnd1]
      rw [cget ha (by omega), cget ha (by omega), vu_ne hn, vu_ne hm]
      have hv := su_at (p := p) (g := f n) (h := f m) (k := a * 5 + y)
      have hS : ∀ z0 : Int64, z0 = (if p = 0 then f m (a * 5 + y) else -(f m (a * 5 + y))) → D_X5_sum_j136 r q (nI a) (D_X5_sum_86 p n m r q lb (nI a) k) (nI y) (va_up f 4 (tv a y C (su p (f n) (f m)) u)) (f n (a * 5 + y)) z0 = lb (nI (a + 1)) (va_up f 4 (tv (a + 1) 0 C (su p (f n) (f m)) u)) := by
        intro z0 hz
        unfold D_X5_sum_j136
        dsimp only [bnd1]
        rw [cset ha (by omega), vu_self, vu2, s1, hz, ← hv, tv_s (by omega) (by omega)]
        exact ih (y + 1) (by omega) (by omega)
      by_cases hp : p = 0
      · rw [if_pos hp]; exact hS _ (by rw [if_pos hp])
      · rw [if_neg hp]; exact hS _ (by rw [if_neg hp])
theorem csu_out {p : Int32} {u : Nat → Int64} {w : Nat} (hn : n ≠ 4) (hm : m ≠ 4) (hR : r (2 * n) = nI R) (hC : r (2 * n + 1) = nI C) (hR4 : R ≤ 4) (h4 : C ≤ 4) : ∀ k y : Nat, y ≤ R → R - y < k → D_X5_sum_73 p n m w r q k (nI y) (va_up f 4 (tv y 0 C (su p (f n) (f m)) u)) = bnd4 (D_X5_settleForm r q (va_up f 4 (tv R 0 C (su p (f n) (f m)) u)) 4 w) (fun x r q f => ("", x, r, q, f)) := by
  intro k
  induction k with
  | zero => intro y _ h; omega
  | succ k ih =>
    intro y hy hk
    rw [D_X5_sum_73_s, hR, hC]
    by_cases e : R ≤ y
    · rw [if_pos (ile e (by omega)), show y = R by omega]
    · rw [if_neg (nile e (by omega)), show gap (nI C) 0 = C - 0 from gapN (b := 0) (by omega) (by omega)]
      refine Eq.trans (csu_in (n := n) (m := m) (f := f) hn hm hC h4 (by omega) (C - 0 + 1) 0 (by omega) (by omega)) ?_
      exact ih (y + 1) (by omega) (by omega)
theorem rsu {p t : Int32} {w : Int32} {u : Nat → Int64} (hn : n < 4) (hm : m < 4) (hu : ∀ k, k < r' (2 * n) * 5 → u k = f' n k) : ∀ k y : Nat, y ≤ r' (2 * n) * 5 → r' (2 * n) * 5 - y < k → D_X10_sum_93 r' f' q' (nI n) (nI m) p w t k y (cp y (su p (f' n) (f' m)) u) = bnd4 (D_X10_become r' f' (va_up q' 3 t) w (r' (2 * n)) (r' (2 * n + 1)) (cp (r' (2 * n) * 5) (su p (f' n) (f' m)) u)) (fun x r f q => (x, r, f, q)) := by
  intro k
  induction k with
  | zero => intro y _ h; omega
  | succ k ih =>
    intro y hy hk
    rw [D_X10_sum_93_s, nI_clamp (show n < 2 ^ 31 by omega), nI_clamp (show m < 2 ^ 31 by omega)]
    by_cases e : r' (2 * n) * 5 ≤ y
    · rw [if_pos e, show y = r' (2 * n) * 5 by omega]
    · rw [if_neg e]
      have e1 : cp y (su p (f' n) (f' m)) u y = f' n y := (if_neg (by omega)).trans (hu y (by omega))
      rw [e1]
      have hv := su_at (p := p) (g := f' n) (h := f' m) (k := y)
      by_cases hp : p = 0
      · rw [if_pos hp]
        rw [if_pos hp] at hv
        rw [← hv, cp_s]
        exact ih (y + 1) (by omega) (by omega)
      · rw [if_neg hp]
        rw [if_neg hp] at hv
        rw [← hv, cp_s]
        exact ih (y + 1) (by omega) (by omega)
theorem su_lo {p : Int32} {u v : Int64} (hu : sm u) (hv : sm v) : -9223372036854775807 ≤ (if p = 0 then u + v else u + -v).toInt := by
  have h1 := sm_int hu
  have h2 := sm_int hv
  split
  · rw [Int64.toInt_add, Int.bmod_eq_of_le (by omega) (by omega)]; omega
  · rw [Int64.toInt_add, neg_int (sm_ng hv), Int.bmod_eq_of_le (by omega) (by omega)]; omega
theorem sum_eq (h : Rl r q f r' f' q') {y z p u : Int32} : Ok (D_X5_sum r q f y z p u) (D_X10_sum r' f' q' y z p u) := by
  unfold D_X5_sum D_X10_sum
  rcases ntb (r := r) (q := q) (f := f) (p := y) with ⟨n, hn, rfl, h1, h2, h3⟩ | ⟨E, x1, x2, h1, h2⟩
  · rw [h1, h2]
    dsimp only [bnd2, bnd1]
    rw [if_pos rfl, if_neg one0, th1_1]
    rcases ntb (r := r) (q := q) (f := f) (p := z) with ⟨m, hm, rfl, g1, g2, g3⟩ | ⟨E, x1, x2, g1, g2⟩
    · rw [g1, g2]
      dsimp only
      rw [if_pos rfl, if_neg one0]
      rcases ntb (r := r) (q := q) (f := f) (p := u) with ⟨w, hw, rfl, k1, k2, k3⟩ | ⟨E, x1, x2, k1, k2⟩
      · rw [k1, k2]
        dsimp only
        have hT := h.1 n hn
        have hb := hT.2.1
        have hM := h.1 m hm
        have hbm := hM.2.1
        rw [if_pos rfl, if_neg one0, th1_0, h3, g3, hT.1.1, hT.1.2.1, hM.1.1, hM.1.2.1]
        have hno : Ok (bnd3 (D_X5_tellRefused r q f) (fun x q f => ("", x, r, q, f))) (-9, r', f', va_up (va_up q' 3 0) 1 ((va_up q' 3 0) 1 + 1)) := by
          unfold D_X5_tellRefused
          dsimp only [bnd3]
          exact ok_no h
        by_cases e1 : r' (2 * n) = r' (2 * m)
        · rw [if_pos (congrArg nI e1), if_pos e1]
          by_cases e2 : r' (2 * n + 1) = r' (2 * m + 1)
          · rw [if_pos (congrArg nI e2), if_pos e2, crs hb.1 hb.2.1 hb.2.2.1 (by omega), rcp]
            dsimp only [bnd3]
            have hR : rs r 4 (r' (2 * n)) (r' (2 * n + 1)) (2 * n) = nI (r' (2 * n)) := (rs_R' (by omega)).trans hT.1.1
            have hC : rs r 4 (r' (2 * n)) (r' (2 * n + 1)) (2 * n + 1) = nI (r' (2 * n + 1)) := (rs_C' (by omega)).trans hT.1.2.1
            rw [hR, show gap (nI (r' (2 * n))) 0 = r' (2 * n) - 0 from gapN (b := 0) (by omega) (by omega)]
            have c1 := csu_out (r := rs r 4 (r' (2 * n)) (r' (2 * n + 1))) (q := q) (f := f) (p := p) (n := n) (m := m) (w := w) (u := zf 20 (f 4)) (by omega) (by omega) hR hC hb.2.1 hb.2.2.2 (r' (2 * n) - 0 + 1) 0 (by omega) (by omega)
            rw [tv00] at c1
            have c2 := rsu (r' := r') (f' := f') (q' := q') (p := p) (t := 0) (w := nI w) (u := gb r' f' n) hn hm (fun k hk => if_pos hk) (r' (2 * n) * 5 + 1 - 0 + 1) 0 (by omega) (by omega)
            rw [cp0] at c2
            rw [show (0 : Int32) = nI 0 from rfl, c1]
            rw [show (nI 0 : Int32) = 0 from rfl, c2]
            have hz : zo (r' (2 * n)) (r' (2 * n + 1)) (cp (r' (2 * n) * 5) (su p (f' n) (f' m)) (gb r' f' n)) := by
              intro k hk e
              show cp _ _ _ k = 0
              unfold cp
              by_cases e3 : k < r' (2 * n) * 5
              · rw [if_pos e3, su_at, hT.2.2.2 k e3 (by omega), hM.2.2.2 k (by omega) (by omega)]
                split
                · rfl
                · rfl
              · rw [if_neg e3]; exact if_neg e3
            refine form_ok (Rl_keep h (fun i hi => ro (by omega)) ⟨rfl, rfl, rfl⟩) hw rs_R rs_C hb (fun k hk => ?_) hz (fun k hk => ?_)
            · rw [vu_self]
              by_cases e3 : k / 5 < r' (2 * n) ∧ k % 5 < r' (2 * n + 1)
              · rw [tv_p e3, su_at, tb_v hT (by omega), tb_v hM (by omega)]
                exact ((if_pos (show k < r' (2 * n) * 5 by omega)).trans su_at).symm
              · rw [tv_n e3, hz k hk (by omega)]
                exact if_pos hk
            · rw [show cp (r' (2 * n) * 5) (su p (f' n) (f' m)) (gb r' f' n) k = su p (f' n) (f' m) k from if_pos hk]
              exact su_lo (hT.2.2.1 k hk) (hM.2.2.1 k (by omega))
          · rw [if_neg (fun e => e2 (nI_inj (by omega) (by omega) e)), if_neg e2]
            exact hno
        · rw [if_neg (fun e => e1 (nI_inj (by omega) (by omega) e)), if_neg e1]
          exact hno
      · rw [k1, k2]
        dsimp only
        rw [if_neg x1, if_pos rfl, x2]
        exact ok_e1 h
    · rw [g1, g2]
      dsimp only
      rw [if_neg x1, if_pos rfl, x2]
      exact ok_e1 h
  · rw [h1, h2]
    dsimp only [bnd2, bnd1]
    rw [if_neg x1, if_pos rfl, th1_1, x2]
    exact ok_e1 h
theorem dot_sm {g h : Nat → Int64} {N : Nat} (hN : N ≤ 4) (hg : ∀ k, k < N → sm (g (a * 5 + k))) (hh : ∀ k, k < N → sm (h (k * 5 + b))) : -(400 * N : Int) ≤ (dot N g h a b).toInt ∧ (dot N g h a b).toInt ≤ 400 * N := by
  have H : ∀ j, j ≤ N → -(400 * j : Int) ≤ (dot j g h a b).toInt ∧ (dot j g h a b).toInt ≤ 400 * j := by
    intro j
    induction j with
    | zero => intro _; exact ⟨by show -(400 * 0 : Int) ≤ 0; omega, by show (0 : Int) ≤ 400 * 0; omega⟩
    | succ j ih =>
      intro hj
      have ⟨i1, i2⟩ := ih (by omega)
      have h1 := sm_int (hg j (by omega))
      have h2 := sm_int (hh j (by omega))
      have p1 : -400 ≤ (g (a * 5 + j)).toInt * (h (j * 5 + b)).toInt ∧ (g (a * 5 + j)).toInt * (h (j * 5 + b)).toInt ≤ 400 := by
        have hb1 : (g (a * 5 + j)).toInt.natAbs ≤ 20 := by omega
        have hb2 : (h (j * 5 + b)).toInt.natAbs ≤ 20 := by omega
        have e := Nat.mul_le_mul hb1 hb2
        rw [← Int.natAbs_mul] at e
        omega
      rw [dot_s, Int64.toInt_add, Int64.toInt_mul]
      rw [Int.bmod_eq_of_le (n := (g (a * 5 + j)).toInt * (h (j * 5 + b)).toInt) (by omega) (by omega)]
      rw [Int.bmod_eq_of_le (by omega) (by omega)]
      omega
  exact H N (Nat.le_refl _)
theorem dot_cg {g h g2 h2 : Nat → Int64} : ∀ N : Nat, (∀ k, k < N → g (a * 5 + k) = g2 (a * 5 + k)) → (∀ k, k < N → h (k * 5 + b) = h2 (k * 5 + b)) → dot N g h a b = dot N g2 h2 a b := by
  intro N
  induction N with
  | zero => intro _ _; rfl
  | succ N ih =>
    intro e1 e2
    rw [dot_s, dot_s, ih (fun k hk => e1 k (by omega)) (fun k hk => e2 k (by omega)), e1 N (by omega), e2 N (by omega)]
theorem pd_p {g h u : Nat → Int64} {N k : Nat} (e : k / 5 < a ∧ k % 5 < c) : pd N a 0 c g h u k = dot N g h (k / 5) (k % 5) := if_pos (Or.inl e)
theorem pd_n {g h u : Nat → Int64} {N k : Nat} (e : ¬ (k / 5 < a ∧ k % 5 < c)) : pd N a 0 c g h u k = u k := if_neg (by omega)
theorem multiply_eq (h : Rl r q f r' f' q') {y z u : Int32} : Ok (D_X5_multiply r q f y z u) (D_X10_multiply r' f' q' y z u) := by
  unfold D_X5_multiply D_X10_multiply
  rcases ntb (r := r) (q := q) (f := f) (p := y) with ⟨n, hn, rfl, h1, h2, h3⟩ | ⟨E, x1, x2, h1, h2⟩
  · rw [h1, h2]
    dsimp only [bnd2, bnd1]
    rw [if_pos rfl, if_neg one0, th1_1]
    rcases ntb (r := r) (q := q) (f := f) (p := z) with ⟨m, hm, rfl, g1, g2, g3⟩ | ⟨E, x1, x2, g1, g2⟩
    · rw [g1, g2]
      dsimp only
      rw [if_pos rfl, if_neg one0]
      rcases ntb (r := r) (q := q) (f := f) (p := u) with ⟨w, hw, rfl, k1, k2, k3⟩ | ⟨E, x1, x2, k1, k2⟩
      · rw [k1, k2]
        dsimp only
        have hT := h.1 n hn
        have hb := hT.2.1
        have hM := h.1 m hm
        have hbm := hM.2.1
        rw [if_pos rfl, if_neg one0, th1_0, h3, g3, hT.1.2.1, hM.1.1]
        by_cases e1 : r' (2 * n + 1) = r' (2 * m)
        · rw [if_pos (congrArg nI e1), if_pos e1, cbp (by omega) (by omega) hT.1.1 hT.1.2.1 hM.1.2.1 hb.1 hb.2.1 hbm.2.2.1 (by omega) hb.2.2.2, rpd (by omega)]
          dsimp only [bnd3]
          refine form_ok (Rl_keep h (fun i hi => ro (by omega)) ⟨rfl, rfl, rfl⟩) hw rs_R rs_C ⟨hb.1, hb.2.1, hbm.2.2.1, hbm.2.2.2⟩ (fun k hk => ?_) (fun k hk e => pd_n (by omega)) (fun k hk => ?_)
          · rw [vu_self]
            by_cases e3 : k / 5 < r' (2 * n) ∧ k % 5 < r' (2 * m + 1)
            · rw [pd_p e3, pd_p e3]
              exact dot_cg _ (fun j hj => tb_v hT (by omega)) (fun j hj => tb_v hM (by omega))
            · rw [pd_n e3, pd_n e3]
              exact if_pos hk
          · by_cases e3 : k / 5 < r' (2 * n) ∧ k % 5 < r' (2 * m + 1)
            · rw [pd_p e3]
              have := (dot_sm (a := k / 5) (b := k % 5) (g := f' n) (h := f' m) hb.2.2.2 (fun j hj => hT.2.2.1 _ (by omega)) (fun j hj => hM.2.2.1 _ (by omega))).1
              omega
            · rw [pd_n e3]; decide
        · rw [if_neg (fun e => e1 (nI_inj (by omega) (by omega) e)), if_neg e1]
          unfold D_X5_tellRefused
          dsimp only [bnd3]
          exact ok_no h
      · rw [k1, k2]
        dsimp only
        rw [if_neg x1, if_pos rfl, x2]
        exact ok_e1 h
    · rw [g1, g2]
      dsimp only
      rw [if_neg x1, if_pos rfl, x2]
      exact ok_e1 h
  · rw [h1, h2]
    dsimp only [bnd2, bnd1]
    rw [if_neg x1, if_pos rfl, th1_1, x2]
    exact ok_e1 h
end PSM
end
section
-- 72.pactf
section PTK
variable {r q r1 q1 : Nat → Int32} {f f1 : Nat → Nat → Int64} {r' r1' : Nat → Nat} {f' f1' : Nat → Nat → Int64} {q' : Nat → Int32} {R C i n m R2 C2 a b c : Nat} {g G : Nat → Int64} {x x' y z p : Int32}
/-- what stands in a grid of the class is a form of the reference -/
def FG (r : Nat → Int32) (f : Nat → Nat → Int64) (i R C : Nat) (w : Nat → Int64) : Prop := r (2 * i) = nI R ∧ r (2 * i + 1) = nI C ∧ (1 ≤ R ∧ R ≤ 4 ∧ 1 ≤ C ∧ C ≤ 4) ∧ (∀ k, k < 20 → f i k = w k) ∧ zo R C w ∧ ∀ k, k < R * 5 → ng (w k)
theorem ng_lo {x : Int64} (h : ng x) : -9223372036854775807 ≤ x.toInt := by
  have := ng_int h
  omega
theorem Rl_walk (h : Rl r q f r' f' q') {w v : Nat → Int64} {s : Int32} : Rl (rs (rs r 6 R C) 7 R R) (va_up q 0 s) (cs f w v) r' f' q' := Rl_keep h (fun i hi => ⟨⟨(rs_R' (by omega)).trans (rs_R' (by omega)), (rs_C' (by omega)).trans (rs_C' (by omega))⟩, (vu_ne (show i ≠ 7 by omega)).trans (vu_ne (show i ≠ 6 by omega))⟩) ⟨vu_ne (by decide), vu_ne (by decide), vu_ne (by decide)⟩
theorem Rl_dwalk (h : Rl r q f r' f' q') {w v u : Nat → Int64} {s : Int32} : Rl (rs (rs (rs r 8 R C) 9 R R) 10 C C) (va_up q 1 s) (ds f w v u) r' f' q' := Rl_keep h (fun i hi => ⟨⟨(rs_R' (by omega)).trans ((rs_R' (by omega)).trans (rs_R' (by omega))), (rs_C' (by omega)).trans ((rs_C' (by omega)).trans (rs_C' (by omega)))⟩, (vu_ne (show i ≠ 10 by omega)).trans ((vu_ne (show i ≠ 9 by omega)).trans (vu_ne (show i ≠ 8 by omega)))⟩) ⟨vu_ne (by decide), vu_ne (by decide), vu_ne (by decide)⟩
theorem sw_of (h : TB r f i R C g) : Sw R g := fun k hk => sm_int (h.2.2.1 k hk)
/-- a form is found, or the steps are great -/
theorem form_eq (h : Rl r q f r' f' q') (hn : n < 4) (h0 : ¬ p < 0) (h4 : p ≤ 4) : (∃ i r1 q1 f1 R2 C2 w, i ≠ 15 ∧ 4 ≤ i ∧ D_X5_findForm r q f n p = (i, r1, q1, f1) ∧ D_X10_toldOf (r' (2 * n)) (r' (2 * n + 1)) (f' n) p = (1, R2, C2, w) ∧ Rl r1 q1 f1 r' f' q' ∧ FG r1 f1 i R2 C2 w) ∨ ∃ r1 q1 f1, D_X5_findForm r q f n p = (15, r1, q1, f1) ∧ D_X10_toldOf (r' (2 * n)) (r' (2 * n + 1)) (f' n) p = (0, 0, 0, fun _ => 0) ∧ Rl r1 q1 f1 r' f' q' := by
  have hT := h.1 n hn
  have hb := hT.2.1
  have hp5 : p = 0 ∨ p = 1 ∨ p = 2 ∨ p = 3 ∨ p = 4 := by
    obtain ⟨k, hk, rfl⟩ := nI_of h0
    have hk4 : k ≤ 4 := (nleP hk (by omega : 4 < 2 ^ 31)).mp h4
    rcases (show k = 0 ∨ k = 1 ∨ k = 2 ∨ k = 3 ∨ k = 4 by omega) with rfl | rfl | rfl | rfl | rfl
    · exact Or.inl rfl
    · exact Or.inr (Or.inl rfl)
    · exact Or.inr (Or.inr (Or.inl rfl))
    · exact Or.inr (Or.inr (Or.inr (Or.inl rfl)))
    · exact Or.inr (Or.inr (Or.inr (Or.inr rfl)))
  unfold D_X5_findForm D_X10_toldOf
  by_cases hp2 : p = 0 ∨ p = 1
  · obtain ⟨G, s1, w1, v1, w2, v2, hG, e1, e2, e3⟩ := walk_eq (q := q) hT.1 (show n ≠ 6 by omega) (show n ≠ 7 by omega) hb.1 hb.2.1 hb.2.2.1 (by omega) (fun k hk => sm_ng (hT.2.2.1 k hk)) hT.2.2.2
    have hle : ¬ (2 : Int32) ≤ p := by rcases hp2 with rfl | rfl <;> decide
    rw [if_neg hle, e1, e2]
    dsimp only [bnd3, bnd4]
    rcases hG with rfl | rfl
    · obtain ⟨rfl, rfl, hS⟩ := e3 rfl
      have hq : va_up q 0 0 0 = 0 := vu_self
      have hW : FG (rs (rs r 6 (r' (2 * n)) (r' (2 * n + 1))) 7 (r' (2 * n)) (r' (2 * n))) (cs f w2 v2) 6 (r' (2 * n)) (r' (2 * n + 1)) w2 := ⟨(rs_R' (by decide)).trans rs_R, (rs_C' (by decide)).trans rs_C, hb, fun k hk => by rw [cs6, cpl hk], hS.2.1, hS.1.1⟩
      have hV : FG (rs (rs r 6 (r' (2 * n)) (r' (2 * n + 1))) 7 (r' (2 * n)) (r' (2 * n))) (cs f w2 v2) 7 (r' (2 * n)) (r' (2 * n)) v2 := ⟨rs_R, rs_C, ⟨hb.1, hb.2.1, hb.1, hb.2.1⟩, fun k hk => by rw [cs7, cpl hk], hS.2.2, hS.1.2⟩
      refine Or.inl ?_
      by_cases hp : p = 0
      · rw [if_pos hp, if_pos hq, if_pos hp, if_pos rfl, if_pos hp]
        exact ⟨6, _, _, _, _, _, _, by decide, by decide, rfl, rfl, Rl_walk h, hW⟩
      · have hp1 : p = 1 := hp2.resolve_left hp
        rw [if_neg hp, if_pos hp1, if_pos hq, if_neg hp, if_pos rfl, if_neg hp]
        exact ⟨7, _, _, _, _, _, _, by decide, by decide, rfl, rfl, Rl_walk h, hV⟩
    · refine Or.inr ?_
      have hq : ¬ va_up q 0 1 0 = 0 := by rw [vu_self]; decide
      by_cases hp : p = 0
      · rw [if_pos hp, if_neg hq, if_neg one0]
        exact ⟨_, _, _, rfl, rfl, Rl_walk h⟩
      · have hp1 : p = 1 := hp2.resolve_left hp
        rw [if_neg hp, if_pos hp1, if_neg hq, if_neg one0]
        exact ⟨_, _, _, rfl, rfl, Rl_walk h⟩
  · obtain ⟨G, j1, j2, K, w1, v1, u1, w2, v2, u2, hG, e1, e2, e3⟩ := dwalk_eq (q := q) hT.1 (show n ≠ 8 by omega) (show n ≠ 9 by omega) (show n ≠ 10 by omega) hb.1 hb.2.1 hb.2.2.1 hb.2.2.2 (sw_of hT) hT.2.2.2
    have hp0 : ¬ p = 0 := fun e => hp2 (Or.inl e)
    have hp1 : ¬ p = 1 := fun e => hp2 (Or.inr e)
    have hle : (2 : Int32) ≤ p := by rcases hp5 with e | e | rfl | rfl | rfl
                                     · exact absurd e hp0
                                     · exact absurd e hp1
                                     · decide
                                     · decide
                                     · decide
    rw [if_neg hp0, if_neg hp1, if_pos hle, e1, e2]
    dsimp only [bnd3, bnd7]
    rcases hG with rfl | rfl
    · obtain ⟨rfl, rfl, rfl, hS, _⟩ := e3 rfl
      have hq : va_up q 1 0 1 = 0 := vu_self
      have hW : FG (rs (rs (rs r 8 (r' (2 * n)) (r' (2 * n + 1))) 9 (r' (2 * n)) (r' (2 * n))) 10 (r' (2 * n + 1)) (r' (2 * n + 1))) (ds f w2 v2 u2) 8 (r' (2 * n)) (r' (2 * n + 1)) w2 := ⟨(rs_R' (by decide)).trans ((rs_R' (by decide)).trans rs_R), (rs_C' (by decide)).trans ((rs_C' (by decide)).trans rs_C), hb, fun k hk => by rw [ds8, cpl hk], hS.2.1, hS.1.1⟩
      have hV : FG (rs (rs (rs r 8 (r' (2 * n)) (r' (2 * n + 1))) 9 (r' (2 * n)) (r' (2 * n))) 10 (r' (2 * n + 1)) (r' (2 * n + 1))) (ds f w2 v2 u2) 9 (r' (2 * n)) (r' (2 * n)) v2 := ⟨(rs_R' (by decide)).trans rs_R, (rs_C' (by decide)).trans rs_C, ⟨hb.1, hb.2.1, hb.1, hb.2.1⟩, fun k hk => by rw [ds9, cpl hk], hS.2.2.1, hS.1.2.1⟩
      have hU : FG (rs (rs (rs r 8 (r' (2 * n)) (r' (2 * n + 1))) 9 (r' (2 * n)) (r' (2 * n))) 10 (r' (2 * n + 1)) (r' (2 * n + 1))) (ds f w2 v2 u2) 10 (r' (2 * n + 1)) (r' (2 * n + 1)) u2 := ⟨rs_R, rs_C, ⟨hb.2.2.1, hb.2.2.2, hb.2.2.1, hb.2.2.2⟩, fun k hk => by rw [ds10, cpl hk], hS.2.2.2, hS.1.2.2⟩
      refine Or.inl ?_
      rw [if_pos hq, if_pos rfl]
      by_cases hp : p = 2
      · rw [if_pos hp, if_pos hp]
        exact ⟨8, _, _, _, _, _, _, by decide, by decide, rfl, rfl, Rl_dwalk h, hW⟩
      · by_cases hq : p = 3
        · rw [if_neg hp, if_pos hq, if_neg hp, if_pos hq]
          exact ⟨9, _, _, _, _, _, _, by decide, by decide, rfl, rfl, Rl_dwalk h, hV⟩
        · rw [if_neg hp, if_neg hq, if_neg hp, if_neg hq]
          exact ⟨10, _, _, _, _, _, _, by decide, by decide, rfl, rfl, Rl_dwalk h, hU⟩
    · refine Or.inr ?_
      have hq : ¬ va_up q 1 1 1 = 0 := by rw [vu_self]; decide
      rw [if_neg hq, if_neg one0]
      exact ⟨_, _, _, rfl, rfl, Rl_dwalk h⟩
theorem take_eq (h : Rl r q f r' f' q') {y p u : Int32} : Ok (D_X5_take r q f y p u) (D_X10_take r' f' q' y p u) := by
  unfold D_X5_take D_X10_take
  rcases ntb (r := r) (q := q) (f := f) (p := y) with ⟨n, hn, rfl, h1, h2, h3⟩ | ⟨E, x1, x2, h1, h2⟩
  · rw [h1, h2]
    dsimp only [bnd2, bnd1]
    rw [if_pos rfl, if_neg one0, th2_11, th2_10, th2_01, th2_00]
    dsimp only
    rw [ite_self, ite_self]
    rcases ntb (r := r) (q := q) (f := f) (p := u) with ⟨m, hm, rfl, g1, g2, g3⟩ | ⟨E, x1, x2, g1, g2⟩
    · rw [g1, g2]
      dsimp only
      rw [if_pos rfl, if_neg one0, h3]
      unfold D_X5_isForm
      by_cases p1 : p < 0
      · rw [if_pos p1, if_pos p1, ia0, if_neg e_ne2]
        exact ok_e2 h
      · rw [if_neg p1, if_neg p1]
        by_cases p2 : p ≤ 4
        · rw [if_neg (Int32.not_lt.mpr p2), if_pos p2, ia1, if_pos rfl]
          rcases form_eq h hn p1 p2 with ⟨i, r1, q1, f1, R2, C2, w, i1, i2, e1, e2, hR, hF⟩ | ⟨r1, q1, f1, e1, e2, hR⟩
          · rw [e1, e2]
            dsimp only [bnd4]
            rw [if_neg i1, if_neg one0]
            exact form_ok hR hm hF.1 hF.2.1 hF.2.2.1 hF.2.2.2.1 hF.2.2.2.2.1 (fun k hk => ng_lo (hF.2.2.2.2.2 k hk))
          · rw [e1, e2]
            dsimp only [bnd4]
            rw [if_pos rfl, if_pos rfl]
            unfold D_X5_tellRefused
            dsimp only [bnd3]
            exact ok_no hR
        · rw [if_pos (Int32.not_le.mp p2), if_neg p2, ia0, if_neg e_ne2]
          exact ok_e2 h
    · rw [g1, g2]
      dsimp only
      rw [if_neg x1, if_pos rfl, x2]
      exact ok_e1 h
  · rw [h1, h2]
    dsimp only [bnd2, bnd1]
    rw [if_neg x1, if_pos rfl, th2_10, th2_11, ite_self, ite_self, x2]
    exact ok_e1 h
end PTK
end
section
-- 73.pactg
section PSO
variable {r q r1 q1 : Nat → Int32} {f f1 : Nat → Nat → Int64} {r' r1' : Nat → Nat} {f' f1' : Nat → Nat → Int64} {q' : Nat → Int32} {R C i n m R2 C2 a b c K : Nat} {g G w v F u : Nat → Int64} {x x' y z p : Int32}
theorem cget0 (ha : a < 4) : D_X3_get r q f i (nI a) 0 = f i (a * 5 + 0) := cget (b := 0) ha (by decide)
theorem cset0 {x : Int64} (ha : a < 4) : D_X3_set r q f i (nI a) 0 x = va_up f i (vp_updL (f i) (a * 5 + 0) x) := cset (b := 0) ha (by decide)
/-- so many on the diagonal -/
theorem crk (h1 : r (2 * 8) = nI R) (h2 : r (2 * 8 + 1) = nI C) (hR : R ≤ 4) (hC : C ≤ 4) (hw : ∀ k, k < 20 → f 8 k = w k) (hk : Rk R C w K) : ∀ m y : Nat, y ≤ R → y ≤ C → R - y < m → D_X1_countRank_4 r q f m (nI y) (nI (min y K)) = nI K := by
  obtain ⟨k1, k2, k3, k4⟩ := hk
  intro m
  induction m with
  | zero => intro y _ _ h; omega
  | succ m ih =>
    intro y hy hyC hm
    rw [D_X1_countRank_4_s, h1, h2]
    by_cases e : R ≤ y
    · rw [if_pos (ile e (by omega)), show min y K = K by omega]
    · rw [if_neg (nile e (by omega))]
      by_cases e2 : C ≤ y
      · rw [if_pos (ile e2 (by omega)), show min y K = K by omega]
      · rw [if_neg (nile e2 (by omega))]
        dsimp only [bnd1]
        rw [cget (by omega) (by omega), hw _ (by omega)]
        by_cases e3 : y < K
        · rw [if_neg (fun z => k3 y e3 (lg0.mp z)), s1, s1, show min y K + 1 = min (y + 1) K by omega]
          exact ih (y + 1) (by omega) (by omega) (by omega)
        · rw [if_pos (lg0.mpr (k4 y (by omega) (by omega) (by omega))), s1, show min y K = min (y + 1) K by omega]
          exact ih (y + 1) (by omega) (by omega) (by omega)
theorem crank (h1 : r (2 * 8) = nI R) (h2 : r (2 * 8 + 1) = nI C) (hR : R ≤ 4) (hC : C ≤ 4) (hw : ∀ k, k < 20 → f 8 k = w k) (hk : Rk R C w K) : D_X1_countRank r q f = nI K := by
  unfold D_X1_countRank
  have e := crk (q := q) h1 h2 hR hC hw hk (R - 0 + 1) 0 (by omega) (by omega) (by omega)
  rw [show min 0 K = 0 by omega] at e
  rw [h1, show gap (nI R) 0 = R - 0 from gapN (b := 0) (by omega) (by omega)]
  exact e
/-- a row of the equation goes -/
def okw (w F : Nat → Int64) (K y : Nat) : Prop := if K ≤ y then F (y * 5 + 0) = 0 else F (y * 5 + 0) - F (y * 5 + 0) / w (y * 5 + y) * w (y * 5 + y) = 0
/-- the shares so far -/
def sd (w F : Nat → Int64) (K y : Nat) (u : Nat → Int64) : Nat → Int64 := fun k => if k % 5 = 0 ∧ k / 5 < y ∧ k / 5 < K then F (k / 5 * 5 + 0) / w (k / 5 * 5 + k / 5) else u k
theorem sd_s (hy : a < K) : vp_updL (sd w F K a u) (a * 5 + 0) (F (a * 5 + 0) / w (a * 5 + a)) = sd w F K (a + 1) u := by
  funext k
  unfold vp_updL sd
  by_cases e : k = a * 5 + 0
  · subst e; rw [if_pos rfl, if_pos (by omega), show (a * 5 + 0) / 5 = a by omega]
  · rw [if_neg e]
    by_cases h : k % 5 = 0 ∧ k / 5 < a ∧ k / 5 < K
    · rw [if_pos h, if_pos (by omega)]
    · rw [if_neg h, if_neg (by omega)]
theorem sd_k (hy : K ≤ a) : sd w F K a u = sd w F K (a + 1) u := by
  funext k
  unfold sd
  by_cases h : k % 5 = 0 ∧ k / 5 < a ∧ k / 5 < K
  · rw [if_pos h, if_pos (by omega)]
  · rw [if_neg h, if_neg (by omega)]
theorem sd0 : sd w F K 0 u = u := by funext k; unfold sd; rw [if_neg (by omega)]
theorem rgo_l : ∀ m y : Nat, y ≤ R → R - y < m → ((∀ j, y ≤ j → j < R → okw w F K j) ∧ D_X10_goes_2 w K R F m y = 1) ∨ ((∃ j, j < R ∧ ¬ okw w F K j) ∧ D_X10_goes_2 w K R F m y = 0) := by
  intro m
  induction m with
  | zero => intro y _ h; omega
  | succ m ih =>
    intro y hy hm
    rw [D_X10_goes_2_s]
    by_cases e : R ≤ y
    · rw [if_pos e]
      exact Or.inl ⟨fun j _ _ => by omega, rfl⟩
    · rw [if_neg e]
      have hstep : okw w F K y → ((∀ j, y ≤ j → j < R → okw w F K j) ∧ D_X10_goes_2 w K R F m (y + 1) = 1) ∨ ((∃ j, j < R ∧ ¬ okw w F K j) ∧ D_X10_goes_2 w K R F m (y + 1) = 0) := by
        intro hok
        rcases ih (y + 1) (by omega) (by omega) with ⟨h1, h2⟩ | h
        · refine Or.inl ⟨fun j h3 h4 => ?_, h2⟩
          by_cases ej : j = y
          · rw [ej]; exact hok
          · exact h1 j (by omega) h4
        · exact Or.inr h
      by_cases c : K ≤ y
      · rw [if_pos c]
        by_cases z : F (y * 5 + 0) = 0
        · rw [if_pos (lg0.mpr z)]
          exact hstep (by unfold okw; rw [if_pos c]; exact z)
        · rw [if_neg (fun h => z (lg0.mp h))]
          exact Or.inr ⟨⟨y, by omega, by unfold okw; rw [if_pos c]; exact z⟩, rfl⟩
      · rw [if_neg c]
        by_cases z : F (y * 5 + 0) - F (y * 5 + 0) / w (y * 5 + y) * w (y * 5 + y) = 0
        · rw [if_pos (lg0.mpr z)]
          exact hstep (by unfold okw; rw [if_neg c]; exact z)
        · rw [if_neg (fun h => z (lg0.mp h))]
          exact Or.inr ⟨⟨y, by omega, by unfold okw; rw [if_neg c]; exact z⟩, rfl⟩
theorem rgo {s t : Int32} {d : Int32} : ((∀ j, j < R → okw w F K j) ∧ D_X10_goes R C w K s t d R 1 F = 1) ∨ ((∃ j, j < R ∧ ¬ okw w F K j) ∧ D_X10_goes R C w K s t d R 1 F = 0) := by
  rcases rgo_l (R := R) (w := w) (F := F) (K := K) (R + 1 - 0 + 1) 0 (by omega) (by omega) with ⟨h1, h2⟩ | h
  · exact Or.inl ⟨fun j hj => h1 j (by omega) hj, h2⟩
  · exact Or.inr h
theorem fdv_ex {x y : Int64} (h : x - x / y * y = 0) : fdv x y = x / y := by
  have e : x / y * y = x := by
    have := congrArg (fun z => z + x / y * y) h
    simp only [Int64.sub_add_cancel, Int64.zero_add] at this
    exact this.symm
  unfold fdv
  split
  · rfl
  · rw [e, if_pos (lgE.mpr rfl)]
theorem div0 {o x : Int64} (ho : o = 0) : D_X5_divides o x = if lg_cmp x 0 = 0 then 1 else 0 := by
  unfold D_X5_divides
  exact if_pos (lg0.mpr ho)
theorem divz {o x : Int64} (ho : ¬ o = 0) : D_X5_divides o x = if lg_cmp (x - x / o * o) 0 = 0 then 1 else 0 := by
  unfold D_X5_divides
  exact if_neg (fun h => ho (lg0.mp h))
theorem bnd1_e {α β : Type} {p : α} {k : α → β} : bnd1 p k = k p := rfl
theorem cdv_l (h12 : r (2 * 12) = nI R) (hR : R ≤ 4) (hK : K ≤ 4) (hF : ∀ j, j < R → f 12 (j * 5 + 0) = F (j * 5 + 0)) (hw : ∀ j, j < R → f 8 (j * 5 + j) = w (j * 5 + j)) (hnz : ∀ j, j < K → ¬ w (j * 5 + j) = 0) : ∀ m y : Nat, y ≤ R → R - y < m → ((∀ j, y ≤ j → j < R → okw w F K j) ∧ D_X2_divide_48 r q (nI K) m (nI y) (va_up f 13 (sd w F K y u)) = (1, r, q, va_up f 13 (sd w F K R u))) ∨ ((∃ j, j < R ∧ ¬ okw w F K j) ∧ ∃ g, D_X2_divide_48 r q (nI K) m (nI y) (va_up f 13 (sd w F K y u)) = (0, r, q, va_up f 13 g)) := by
  intro m
  induction m with
  | zero => intro y _ h; omega
  | succ m ih =>
    intro y hy hm
    rw [D_X2_divide_48_s, h12]
    by_cases e : R ≤ y
    · rw [if_pos (ile e (by omega)), show y = R by omega]
      exact Or.inl ⟨fun j _ _ => by omega, rfl⟩
    · rw [if_neg (nile e (by omega))]
      have hstep : okw w F K y → ((∀ j, y ≤ j → j < R → okw w F K j) ∧ D_X2_divide_48 r q (nI K) m (nI (y + 1)) (va_up f 13 (sd w F K (y + 1) u)) = (1, r, q, va_up f 13 (sd w F K R u))) ∨ ((∃ j, j < R ∧ ¬ okw w F K j) ∧ ∃ g, D_X2_divide_48 r q (nI K) m (nI (y + 1)) (va_up f 13 (sd w F K (y + 1) u)) = (0, r, q, va_up f 13 g)) := by
        intro hok
        rcases ih (y + 1) (by omega) (by omega) with ⟨h1, h2⟩ | h
        · refine Or.inl ⟨fun j h3 h4 => ?_, h2⟩
          by_cases ej : j = y
          · rw [ej]; exact hok
          · exact h1 j (by omega) h4
        · exact Or.inr h
      by_cases c : K ≤ y
      · rw [if_pos (ile c (by omega))]
        unfold D_X2_divide_j82
        dsimp only [bnd1]
        rw [cget0 (show y < 4 by omega), vu_ne (show (12 : Nat) ≠ 13 by decide), hF y (by omega), div0 rfl]
        by_cases z : F (y * 5 + 0) = 0
        · rw [if_pos (lg0.mpr z), if_neg one0, if_pos (ile c (by omega)), s1, sd_k c]
          exact hstep (by unfold okw; rw [if_pos c]; exact z)
        · rw [if_neg (fun h => z (lg0.mp h)), if_pos rfl]
          exact Or.inr ⟨⟨y, by omega, by unfold okw; rw [if_pos c]; exact z⟩, _, rfl⟩
      · rw [if_neg (nile c (by omega))]
        have hn := hnz y (by omega)
        rw [bnd1_e, cget (show y < 4 by omega) (show y < 5 by omega), vu_ne (show (8 : Nat) ≠ 13 by decide), hw y (by omega)]
        unfold D_X2_divide_j82
        dsimp only [bnd1]
        rw [cget0 (show y < 4 by omega), vu_ne (show (12 : Nat) ≠ 13 by decide), hF y (by omega), divz hn]
        by_cases z : F (y * 5 + 0) - F (y * 5 + 0) / w (y * 5 + y) * w (y * 5 + y) = 0
        · rw [if_pos (lg0.mpr z), if_neg one0, if_neg (nile c (by omega)), cdd hn, fdv_ex z, cset0 (by omega), vu_self, vu2, sd_s (by omega), s1]
          exact hstep (by unfold okw; rw [if_neg c]; exact z)
        · rw [if_neg (fun h => z (lg0.mp h)), if_pos rfl]
          exact Or.inr ⟨⟨y, by omega, by unfold okw; rw [if_neg c]; exact z⟩, _, rfl⟩
/-- the equation of a table that stands in steps, and one column -/
theorem div_eq (hb : 1 ≤ R ∧ R ≤ 4 ∧ 1 ≤ C ∧ C ≤ 4) (h8 : r (2 * 8) = nI R ∧ r (2 * 8 + 1) = nI C) (h9 : r (2 * 9) = nI R ∧ r (2 * 9 + 1) = nI R) (hm : r (2 * m) = nI R) (hm4 : m < 4) (hw : ∀ k, k < 20 → f 8 k = w k) (hv : ∀ k, k < 20 → f 9 k = v k) (hg : ∀ k, k < R * 5 → f m k = g k) (hb5 : b < 5) (hk : Rk R C w K) :
    ∃ r4 f4, (∀ i, i < 11 → r4 (2 * i) = r (2 * i) ∧ r4 (2 * i + 1) = r (2 * i + 1)) ∧ (∀ i, i < 11 → f4 i = f i) ∧ (r4 (2 * 13) = nI C ∧ r4 (2 * 13 + 1) = nI 1) ∧ (((∀ j, j < R → okw w (pd R R 0 1 v (co R b g (fun _ => 0)) (fun _ => 0)) K j) ∧ D_X2_divide r q f m (nI b) = (1, r4, q, f4) ∧ ∀ k, k < 20 → f4 13 k = sd w (pd R R 0 1 v (co R b g (fun _ => 0)) (fun _ => 0)) K K (fun _ => 0) k) ∨ ((∃ j, j < R ∧ ¬ okw w (pd R R 0 1 v (co R b g (fun _ => 0)) (fun _ => 0)) K j) ∧ D_X2_divide r q f m (nI b) = (0, r4, q, f4))) := by
  unfold D_X2_divide
  rw [cbc (by omega) hm hb.1 hb.2.1 hb5]
  dsimp only [bnd3, bnd1]
  rw [cbp (Rj := R) (Cj := R) (Ck := 1) (by omega) (by omega) ((rs_R' (by decide)).trans h9.1) ((rs_C' (by decide)).trans h9.2) rs_C hb.1 hb.2.1 (by omega) (by omega) hb.2.1]
  dsimp only
  have e17 : (rs (rs r 11 R 1) 12 R 1) (2 * 8 + 1) = nI C := (rs_C' (by decide)).trans ((rs_C' (by decide)).trans h8.2)
  rw [e17, show (1 : Int32) = nI 1 from rfl, crs hb.2.2.1 hb.2.2.2 (by omega) (by omega)]
  dsimp only
  have hf8 : ∀ {A B D : Nat → Int64}, (va_up (va_up (va_up f 11 A) 12 B) 13 D) 8 = f 8 := fun {A B D} => (vu_ne (by decide)).trans ((vu_ne (by decide)).trans (vu_ne (by decide)))
  rw [crank (r := rs (rs (rs r 11 R 1) 12 R 1) 13 C 1) (K := K) (w := w) ((rs_R' (by decide)).trans ((rs_R' (by decide)).trans ((rs_R' (by decide)).trans h8.1))) ((rs_C' (by decide)).trans e17) hb.2.1 hb.2.2.2 (fun k hk => by rw [hf8]; exact hw k hk) hk]
  have h12 : (rs (rs (rs r 11 R 1) 12 R 1) 13 C 1) (2 * 12) = nI R := (rs_R' (by decide)).trans rs_R
  rw [h12, show gap (nI R) 0 = R - 0 from gapN (b := 0) (by omega) (by omega), vu_self, vu_ne (show (9 : Nat) ≠ 11 by decide)]
  have hF : ∀ j, j < R → (va_up (va_up f 11 (co R b (f m) (zf 20 (f 11)))) 12 (pd R R 0 1 (f 9) (co R b (f m) (zf 20 (f 11))) (zf 20 (va_up f 11 (co R b (f m) (zf 20 (f 11))) 12)))) 12 (j * 5 + 0) = pd R R 0 1 v (co R b g (fun _ => 0)) (fun _ => 0) (j * 5 + 0) := by
    intro j hj
    rw [vu_self, pd_p (by omega), pd_p (by omega)]
    refine dot_cg _ (fun k hk => hv _ (by omega)) (fun k hk => ?_)
    unfold co
    rw [if_pos (by omega), if_pos (by omega)]
    exact hg _ (by omega)
  have hL := cdv_l (r := rs (rs (rs r 11 R 1) 12 R 1) 13 C 1) (q := q) (K := K) (w := w) (F := pd R R 0 1 v (co R b g (fun _ => 0)) (fun _ => 0)) (u := zf 20 ((va_up (va_up f 11 (co R b (f m) (zf 20 (f 11)))) 12 (pd R R 0 1 (f 9) (co R b (f m) (zf 20 (f 11))) (zf 20 (va_up f 11 (co R b (f m) (zf 20 (f 11))) 12)))) 13)) h12 hb.2.1 (by have := hk.1; omega) hF (fun j hj => by rw [vu_ne (show (8 : Nat) ≠ 12 by decide), vu_ne (show (8 : Nat) ≠ 11 by decide)]; exact hw _ (by omega)) hk.2.2.1 (R - 0 + 1) 0 (by omega) (by omega)
  rw [sd0] at hL
  rcases hL with ⟨l1, l2⟩ | ⟨l1, g2, l2⟩
  · refine ⟨_, _, fun i hi => ⟨(rs_R' (by omega)).trans ((rs_R' (by omega)).trans (rs_R' (by omega))), (rs_C' (by omega)).trans ((rs_C' (by omega)).trans (rs_C' (by omega)))⟩, ?_, ⟨rs_R, rs_C⟩, Or.inl ⟨fun j hj => l1 j (by omega) hj, l2, ?_⟩⟩
    · intro i hi
      rw [vu_ne (by omega), vu_ne (by omega), vu_ne (by omega)]
    · intro k hk2
      rw [vu_self]
      unfold sd
      have := hk.1
      by_cases e : k % 5 = 0 ∧ k / 5 < K
      · rw [if_pos (by omega), if_pos (by omega)]
      · rw [if_neg (by omega), if_neg (by omega)]
        exact if_pos hk2
  · refine ⟨_, _, fun i hi => ⟨(rs_R' (by omega)).trans ((rs_R' (by omega)).trans (rs_R' (by omega))), (rs_C' (by omega)).trans ((rs_C' (by omega)).trans (rs_C' (by omega)))⟩, ?_, ⟨rs_R, rs_C⟩, Or.inr ⟨l1, l2⟩⟩
    intro i hi
    rw [vu_ne (by omega), vu_ne (by omega), vu_ne (by omega)]
end PSO
end
section
-- 74.pacth
section PSV
variable {r q r1 q1 : Nat → Int32} {f f1 : Nat → Nat → Int64} {r' r1' : Nat → Nat} {f' f1' : Nat → Nat → Int64} {q' : Nat → Int32} {R C i n m R2 C2 a b c K : Nat} {g G w v F u : Nat → Int64} {x x' y z p : Int32}
theorem dot_ng {g h : Nat → Int64} {N : Nat} (hN : N ≤ 4) (hg : ∀ k, k < N → ng (g (a * 5 + k))) (hh : ∀ k, k < N → ng (h (k * 5 + b))) : -(1000000000000000000 * N : Int) ≤ (dot N g h a b).toInt ∧ (dot N g h a b).toInt ≤ 1000000000000000000 * N := by
  have H : ∀ j, j ≤ N → -(1000000000000000000 * j : Int) ≤ (dot j g h a b).toInt ∧ (dot j g h a b).toInt ≤ 1000000000000000000 * j := by
    intro j
    induction j with
    | zero => intro _; exact ⟨by show -(1000000000000000000 * 0 : Int) ≤ 0; omega, by show (0 : Int) ≤ 1000000000000000000 * 0; omega⟩
    | succ j ih =>
      intro hj
      have ⟨i1, i2⟩ := ih (by omega)
      have h1 := ng_int (hg j (by omega))
      have h2 := ng_int (hh j (by omega))
      have p1 : -1000000000000000000 ≤ (g (a * 5 + j)).toInt * (h (j * 5 + b)).toInt ∧ (g (a * 5 + j)).toInt * (h (j * 5 + b)).toInt ≤ 1000000000000000000 := by
        have hb1 : (g (a * 5 + j)).toInt.natAbs ≤ 1000000000 := by omega
        have hb2 : (h (j * 5 + b)).toInt.natAbs ≤ 1000000000 := by omega
        have e := Nat.mul_le_mul hb1 hb2
        rw [← Int.natAbs_mul] at e
        omega
      rw [dot_s, Int64.toInt_add, Int64.toInt_mul]
      rw [Int.bmod_eq_of_le (n := (g (a * 5 + j)).toInt * (h (j * 5 + b)).toInt) (by omega) (by omega)]
      rw [Int.bmod_eq_of_le (by omega) (by omega)]
      omega
  exact H N (Nat.le_refl _)
theorem quo_lo {x y : Int64} (hx : -9223372036854775807 ≤ x.toInt) : -9223372036854775807 ≤ (x / y).toInt := by
  have h0 := Int64.toInt_lt x
  have h1 : (x.toInt.tdiv y.toInt).natAbs ≤ x.toInt.natAbs := by
    rw [Int.natAbs_tdiv]
    exact Nat.div_le_self _ _
  rw [Int64.toInt_div, Int.bmod_eq_of_le (by omega) (by omega)]
  omega
/-- the shares and what follows on the reference's side -/
theorem rso {t : Int32} (hn : n < 4) : ∀ k y : Nat, y ≤ K → K - y < k → D_X10_solve_141 r' f' q' (nI n) z t u w K F k y (sd w F K y (fun _ => 0)) = bnd1 (D_X7_isGreat (r' (2 * n + 1)) 1 (sd w F K K (fun _ => 0))) (fun x => if x = 0 then bnd1 (D_X7_product (r' (2 * n + 1)) (r' (2 * n + 1)) u (r' (2 * n + 1)) 1 (sd w F K K (fun _ => 0))) (fun P => bnd4 (D_X10_become r' f' (va_up q' 3 t) z (r' (2 * n + 1)) 1 P) (fun x r f q => (x, r, f, q))) else (-9, r', f', va_up (va_up q' 3 t) 1 (((va_up q' 3 t) 1) + 1))) := by
  intro k
  induction k with
  | zero => intro y _ h; omega
  | succ k ih =>
    intro y hy hk
    rw [D_X10_solve_141_s, nI_clamp (show n < 2 ^ 31 by omega)]
    by_cases e : K ≤ y
    · rw [if_pos e, show y = K by omega]
    · rw [if_neg e, sd_s (by omega)]
      exact ih (y + 1) (by omega) (by omega)
/-- shares and solution of the class -/
theorem fsol (h13 : r (2 * 13) = nI C ∧ r (2 * 13 + 1) = nI 1) (h10 : r (2 * 10) = nI C ∧ r (2 * 10 + 1) = nI C) (h1 : 1 ≤ C) (hC : C ≤ 4) (hs : ∀ k, k < 20 → f 13 k = w k) (hz : zo C 1 w) (hlo : ∀ k, k < C * 5 → -9223372036854775807 ≤ (w k).toInt) (hu : ∀ k, k < 20 → f 10 k = u k) (hun : ∀ k, k < C * 5 → ng (u k)) :
    (¬ (∀ k, k < C * 5 → ng (w k)) ∧ D_X2_findSolution r q f = (0, r, q, f)) ∨ ((∀ k, k < C * 5 → ng (w k)) ∧ ((∀ k, k < 20 → pd C C 0 1 (f 10) (f 13) (zf 20 (f 14)) k = pd C C 0 1 u w (fun _ => 0) k) ∧ ∀ k, -9223372036854775807 ≤ (pd C C 0 1 u w (fun _ => 0) k).toInt) ∧ (((∀ k, k < C * 5 → ng (pd C C 0 1 u w (fun _ => 0) k)) ∧ D_X2_findSolution r q f = (1, rs r 14 C 1, q, va_up f 14 (pd C C 0 1 (f 10) (f 13) (zf 20 (f 14))))) ∨ (¬ (∀ k, k < C * 5 → ng (pd C C 0 1 u w (fun _ => 0) k)) ∧ D_X2_findSolution r q f = (0, rs r 14 C 1, q, va_up f 14 (pd C C 0 1 (f 10) (f 13) (zf 20 (f 14))))))) := by
  have ng0 : ng 0 := sm_ng sm0
  have hA := wt_all (R := C) (C := 1) (w := f 13) (by decide) (fun k hk => by rw [hs k (by omega)]; exact hlo k hk) (fun k hk e => by rw [hs k (by omega), hz k (by omega) (Or.inr e)]; exact ng0)
  unfold D_X2_findSolution
  rcases ciw (r := r) (q := q) (f := f) (i := 13) (p := 1000000000) h13.1 h13.2 hC (by omega) with ⟨a1, a2⟩ | ⟨⟨a, b, a1, a2, a3⟩, a4⟩
  · have hw : ∀ k, k < C * 5 → ng (w k) := fun k hk => by rw [← hs k (by omega)]; exact hA.mp (fun a b ha hb => a1 a b ha hb) k hk
    have hP : ∀ k, k < 20 → pd C C 0 1 (f 10) (f 13) (zf 20 (f 14)) k = pd C C 0 1 u w (fun _ => 0) k := fun k hk => by
      by_cases e : k / 5 < C ∧ k % 5 < 1
      · rw [pd_p e, pd_p e]
        exact dot_cg _ (fun j hj => hu _ (by omega)) (fun j hj => hs _ (by omega))
      · rw [pd_n e, pd_n e]
        exact if_pos hk
    have hlo2 : ∀ k, -9223372036854775807 ≤ (pd C C 0 1 u w (fun _ => 0) k).toInt := fun k => by
      by_cases e : k / 5 < C ∧ k % 5 < 1
      · rw [pd_p e]
        have := (dot_ng (a := k / 5) (b := k % 5) (g := u) (h := w) hC (fun j hj => hun _ (by omega)) (fun j hj => hw _ (by omega))).1
        omega
      · rw [pd_n e]; decide
    refine Or.inr ⟨hw, ⟨hP, hlo2⟩, ?_⟩
    rw [a2, bnd1_e, if_neg one0, cbp (Rj := C) (Cj := C) (Ck := 1) (by decide) (by decide) h10.1 h10.2 h13.2 h1 hC (by omega) (by omega) hC]
    dsimp only [bnd3]
    have hB := wt_all (R := C) (C := 1) (w := (va_up f 14 (pd C C 0 1 (f 10) (f 13) (zf 20 (f 14)))) 14) (by decide) (fun k hk => by rw [vu_self, hP k (by omega)]; exact hlo2 k) (fun k hk e => by rw [vu_self, hP k (by omega), pd_n (by omega)]; exact ng0)
    rcases ciw (r := rs r 14 C 1) (q := q) (f := va_up f 14 (pd C C 0 1 (f 10) (f 13) (zf 20 (f 14)))) (i := 14) (p := 1000000000) rs_R rs_C hC (by omega) with ⟨b1, b2⟩ | ⟨⟨a, b, b1, b2, b3⟩, b4⟩
    · refine Or.inl ⟨fun k hk => ?_, ?_⟩
      · have := hB.mp (fun a b ha hb => b1 a b ha hb) k hk
        rw [vu_self, hP k (by omega)] at this
        exact this
      · rw [b2, bnd1_e]
    · refine Or.inr ⟨fun hall => b3 (hB.mpr (fun k hk => ?_) a b b1 b2), ?_⟩
      · rw [vu_self, hP k (by omega)]; exact hall k hk
      · rw [b4, bnd1_e]
  · refine Or.inl ⟨fun hall => a3 (hA.mpr (fun k hk => by rw [hs k (by omega)]; exact hall k hk) a b a1 a2), ?_⟩
    rw [a4, bnd1_e, if_pos rfl]
theorem solve_eq (h : Rl r q f r' f' q') {y z p u : Int32} : Ok (D_X5_solve r q f y z p u) (D_X10_solve r' f' q' y z p u) := by
  unfold D_X5_solve D_X10_solve
  rcases ntb (r := r) (q := q) (f := f) (p := y) with ⟨n, hn, rfl, h1, h2, h3⟩ | ⟨E, x1, x2, h1, h2⟩
  · rw [h1, h2]
    dsimp only [bnd2, bnd1]
    rw [if_pos rfl, if_neg one0, th1_1, th1_0]
    rcases ntb (r := r) (q := q) (f := f) (p := z) with ⟨m, hm, rfl, g1, g2, g3⟩ | ⟨E, x1, x2, g1, g2⟩
    · rw [g1]
      dsimp only
      rw [if_pos rfl]
      rcases ntb (r := r) (q := q) (f := f) (p := u) with ⟨t, ht, rfl, k1, k2, k3⟩ | ⟨E, x1, x2, k1, k2⟩
      · rw [k1, k2]
        dsimp only
        rw [if_pos rfl, if_neg one0]
        rcases hcol h hm (c := 1) (by decide) (k := p) with ⟨b, rfl, b1, b2, b3, b4, b5⟩ | ⟨b3, b4⟩
        · have hT := h.1 n hn
          have hb := hT.2.1
          have hM := h.1 m hm
          have hbm := hM.2.1
          rw [b3, b4, nx1, if_pos rfl, if_neg one0, h3, g3, b5, hT.1.1, hM.1.1]
          by_cases e1 : r' (2 * n) = r' (2 * m)
          · rw [if_pos (congrArg nI e1), if_pos e1]
            obtain ⟨G, j1, j2, K, w1, v1, u1, w2, v2, u2, hG, d1, d2, d3⟩ := dwalk_eq (q := q) hT.1 (show n ≠ 8 by omega) (show n ≠ 9 by omega) (show n ≠ 10 by omega) hb.1 hb.2.1 hb.2.2.1 hb.2.2.2 (sw_of hT) hT.2.2.2
            rw [d1, d2]
            dsimp only [bnd3, bnd7]
            have hRd : ∀ s, Rl (rs (rs (rs r 8 (r' (2 * n)) (r' (2 * n + 1))) 9 (r' (2 * n)) (r' (2 * n))) 10 (r' (2 * n + 1)) (r' (2 * n + 1))) (va_up q 1 s) (ds f w1 v1 u1) r' f' q' := fun s => Rl_dwalk h
            rcases hG with rfl | rfl
            · obtain ⟨rfl, rfl, rfl, hS, hK⟩ := d3 rfl
              have hq : va_up q 1 0 1 = 0 := vu_self
              rw [if_pos hq, if_pos rfl, rco, rpd (by omega)]
              rw [← e1]
              have hRd0 := hRd 0
              obtain ⟨r4, f4, q1, q2, q3, q4⟩ := div_eq (r := rs (rs (rs r 8 (r' (2 * n)) (r' (2 * n + 1))) 9 (r' (2 * n)) (r' (2 * n))) 10 (r' (2 * n + 1)) (r' (2 * n + 1))) (q := va_up q 1 0) (f := ds f w2 v2 u2) (R := r' (2 * n)) (C := r' (2 * n + 1)) (m := m) (w := w2) (v := v2) (g := f' m) (b := b) (K := K) hb ⟨(rs_R' (by decide)).trans ((rs_R' (by decide)).trans rs_R), (rs_C' (by decide)).trans ((rs_C' (by decide)).trans rs_C)⟩ ⟨(rs_R' (by decide)).trans rs_R, (rs_C' (by decide)).trans rs_C⟩ ((hRd0.1 m hm).1.1.trans (congrArg nI e1.symm)) hm (fun k hk => by rw [ds8, cpl hk]) (fun k hk => by rw [ds9, cpl hk]) (fun k hk => tb_v (hRd0.1 m hm) (by omega)) (by omega) hK
              have hR4 : Rl r4 (va_up q 1 0) f4 r' f' q' := Rl_keep hRd0 (fun i hi => ⟨q1 i (by omega), q2 i (by omega)⟩) ⟨rfl, rfl, rfl⟩
              rcases q4 with ⟨o1, o2, o3⟩ | ⟨o1, o2⟩
              · rcases rgo (R := r' (2 * n)) (C := r' (2 * n + 1)) (w := w2) (F := pd (r' (2 * n)) (r' (2 * n)) 0 1 v2 (co (r' (2 * n)) b (f' m) (fun _ => 0)) (fun _ => 0)) (K := K) (s := j1) (t := j2) (d := 0) with ⟨_, l2⟩ | ⟨⟨j, l1, l2⟩, _⟩
                · rw [o2, l2, if_neg one0]
                  dsimp only [bnd4]
                  rw [if_neg one0]
                  have hrs := rso (r' := r') (f' := f') (q' := q') (n := n) (z := nI t) (t := 0) (u := u2) (w := w2) (F := pd (r' (2 * n)) (r' (2 * n)) 0 1 v2 (co (r' (2 * n)) b (f' m) (fun _ => 0)) (fun _ => 0)) (K := K) hn (K + 1 - 0 + 1) 0 (by omega) (by omega)
                  rw [sd0] at hrs
                  rw [hrs]
                  have hzs : zo (r' (2 * n + 1)) 1 (sd w2 (pd (r' (2 * n)) (r' (2 * n)) 0 1 v2 (co (r' (2 * n)) b (f' m) (fun _ => 0)) (fun _ => 0)) K K (fun _ => 0)) := fun k hk e => if_neg (by have := hK.2.1; omega)
                  have hFlo : ∀ k, -9223372036854775807 ≤ (pd (r' (2 * n)) (r' (2 * n)) 0 1 v2 (co (r' (2 * n)) b (f' m) (fun _ => 0)) (fun _ => 0) k).toInt := fun k => by
                    by_cases e : k / 5 < r' (2 * n) ∧ k % 5 < 1
                    · rw [pd_p e]
                      have := (dot_ng (a := k / 5) (b := k % 5) (g := v2) (h := co (r' (2 * n)) b (f' m) (fun _ => 0)) hb.2.1 (fun j hj => hS.1.2.1 _ (by omega)) (fun j hj => by
                        unfold co
                        split
                        · exact sm_ng (hM.2.2.1 _ (by omega))
                        · exact sm_ng sm0)).1
                      omega
                    · rw [pd_n e]; decide
                  have hslo : ∀ k, k < r' (2 * n + 1) * 5 → -9223372036854775807 ≤ (sd w2 (pd (r' (2 * n)) (r' (2 * n)) 0 1 v2 (co (r' (2 * n)) b (f' m) (fun _ => 0)) (fun _ => 0)) K K (fun _ => 0) k).toInt := fun k _ => by
                    unfold sd
                    split
                    · exact quo_lo (hFlo _)
                    · exact (by decide : (-9223372036854775807 : Int) ≤ (0 : Int64).toInt)
                  rcases fsol (r := r4) (q := va_up q 1 0) (f := f4) (C := r' (2 * n + 1)) (w := sd w2 (pd (r' (2 * n)) (r' (2 * n)) 0 1 v2 (co (r' (2 * n)) b (f' m) (fun _ => 0)) (fun _ => 0)) K K (fun _ => 0)) (u := u2) q3 ⟨(q1 10 (by decide)).1.trans rs_R, (q1 10 (by decide)).2.trans rs_C⟩ hb.2.2.1 hb.2.2.2 o3 hzs hslo (fun k hk => by rw [q2 10 (by decide), ds10, cpl hk]) hS.1.2.2 with ⟨s1, s2⟩ | ⟨s1, ⟨s2, s3⟩, s4⟩
                  · rcases rig (R := r' (2 * n + 1)) (C := 1) (f := sd w2 (pd (r' (2 * n)) (r' (2 * n)) 0 1 v2 (co (r' (2 * n)) b (f' m) (fun _ => 0)) (fun _ => 0)) K K (fun _ => 0)) with ⟨c1, _⟩ | ⟨_, c2⟩
                    · exact absurd c1 s1
                    · rw [s2, c2, bnd1_e, if_neg one0]
                      dsimp only
                      rw [if_pos rfl]
                      unfold D_X5_tellRefused
                      dsimp only [bnd3]
                      exact ok_no hR4
                  · rcases rig (R := r' (2 * n + 1)) (C := 1) (f := sd w2 (pd (r' (2 * n)) (r' (2 * n)) 0 1 v2 (co (r' (2 * n)) b (f' m) (fun _ => 0)) (fun _ => 0)) K K (fun _ => 0)) with ⟨_, c2⟩ | ⟨⟨k, c1, c2⟩, _⟩
                    · rw [c2, bnd1_e, if_pos rfl, bnd1_e, rpd (by omega)]
                      have hR5 : Rl (rs r4 14 (r' (2 * n + 1)) 1) (va_up q 1 0) (va_up f4 14 (pd (r' (2 * n + 1)) (r' (2 * n + 1)) 0 1 (f4 10) (f4 13) (zf 20 (f4 14)))) r' f' q' := Rl_keep hR4 (fun i hi => ro (by omega)) ⟨rfl, rfl, rfl⟩
                      rcases s4 with ⟨t1, t2⟩ | ⟨t1, t2⟩
                      · rw [t2]
                        dsimp only
                        rw [if_neg one0]
                        exact form_ok hR5 ht rs_R rs_C ⟨hb.2.2.1, hb.2.2.2, by omega, by omega⟩ (fun k hk => by rw [vu_self]; exact s2 k hk) (fun k hk e => pd_n (by omega)) (fun k _ => s3 k)
                      · rw [t2]
                        dsimp only
                        rw [if_pos rfl]
                        unfold D_X5_tellRefused D_X10_become
                        dsimp only [bnd3]
                        rcases ril (R := r' (2 * n + 1)) (C := 1) (f := pd (r' (2 * n + 1)) (r' (2 * n + 1)) 0 1 u2 (sd w2 (pd (r' (2 * n)) (r' (2 * n)) 0 1 v2 (co (r' (2 * n)) b (f' m) (fun _ => 0)) (fun _ => 0)) K K (fun _ => 0)) (fun _ => 0)) with ⟨c1, _⟩ | ⟨_, c2⟩
                        · exact absurd (fun k hk => sm_ng (c1 k hk)) t1
                        · rw [c2, bnd1_e, if_pos rfl]
                          exact ok_no hR5
                    · exact absurd (s1 k c1) c2
                · exact absurd (o1 j l1) l2
              · rcases rgo (R := r' (2 * n)) (C := r' (2 * n + 1)) (w := w2) (F := pd (r' (2 * n)) (r' (2 * n)) 0 1 v2 (co (r' (2 * n)) b (f' m) (fun _ => 0)) (fun _ => 0)) (K := K) (s := j1) (t := j2) (d := 0) with ⟨l1, _⟩ | ⟨_, l2⟩
                · obtain ⟨j, l3, l4⟩ := o1
                  exact absurd (l1 j l3) l4
                · rw [o2, l2, if_pos rfl]
                  dsimp only [bnd4]
                  rw [if_pos rfl]
                  unfold D_X5_tellRefused
                  dsimp only [bnd3]
                  exact ok_no hR4
            · have hq : ¬ va_up q 1 1 1 = 0 := by rw [vu_self]; decide
              rw [if_neg hq, if_neg one0]
              unfold D_X5_tellRefused
              dsimp only [bnd3]
              exact ok_no (hRd 1)
          · rw [if_neg (fun e => e1 (nI_inj (by omega) (by omega) e)), if_neg e1]
            unfold D_X5_tellRefused
            dsimp only [bnd3]
            exact ok_no h
        · rw [b3, b4, nx0, if_neg e_ne, if_pos rfl]
          exact ok_e1 h
      · rw [k1, k2]
        dsimp only
        rw [if_neg x1, if_pos rfl, ite_self, x2]
        exact ok_e1 h
    · rw [g1, (isT_0 g2).2.1]
      dsimp only
      rw [if_neg x1, if_pos rfl, x2]
      exact ok_e1 h
  · rw [h1, h2]
    dsimp only [bnd2, bnd1]
    rw [if_neg x1, if_pos rfl, th1_1, x2]
    exact ok_e1 h
end PSV
end
section
-- 75.pkeep
/-! ===== What is asked leaves the tables as they are ===== -/
/-- behind it both sides stand alike -/
def RA (r' : Nat → Nat) (f' : Nat → Nat → Int64) (q' : Nat → Int32) (X : CRs) : Prop := Rl X.2.2.1 X.2.2.2.1 X.2.2.2.2 r' f' q'
def RB (r' : Nat → Nat) (f' : Nat → Nat → Int64) (q' : Nat → Int32) (X : Int32 × (Nat → Int32) × (Nat → Int32) × (Nat → Nat → Int64)) : Prop := Rl X.2.1 X.2.2.1 X.2.2.2 r' f' q'
def RC (r' : Nat → Nat) (f' : Nat → Nat → Int64) (q' : Nat → Int32) (X : Int64 × (Nat → Int32) × (Nat → Int32) × (Nat → Nat → Int64)) : Prop := Rl X.2.1 X.2.2.1 X.2.2.2 r' f' q'
def RN (r' : Nat → Nat) (f' : Nat → Nat → Int64) (q' : Nat → Int32) (X : Nat × (Nat → Int32) × (Nat → Int32) × (Nat → Nat → Int64)) : Prop := Rl X.2.1 X.2.2.1 X.2.2.2 r' f' q'
section PKP
variable {r q r1 q1 : Nat → Int32} {f f1 : Nat → Nat → Int64} {r' : Nat → Nat} {f' : Nat → Nat → Int64} {q' : Nat → Int32} {R C i n m a b : Nat} {x y z p u v : Int32}
theorem P_ite {α : Type} {P : α → Prop} {c : Prop} {d : Decidable c} {a b : α} (ha : c → P a) (hb : ¬ c → P b) : P (@ite α c d a b) := by
  by_cases e : c
  · rw [if_pos e]; exact ha e
  · rw [if_neg e]; exact hb e
theorem RA_ite {c : Prop} {d : Decidable c} {a b : CRs} (ha : RA r' f' q' a) (hb : RA r' f' q' b) : RA r' f' q' (@ite CRs c d a b) := P_ite (fun _ => ha) (fun _ => hb)
theorem RB_ite {c : Prop} {d : Decidable c} {a b : Int32 × (Nat → Int32) × (Nat → Int32) × (Nat → Nat → Int64)} (ha : RB r' f' q' a) (hb : RB r' f' q' b) : RB r' f' q' (@ite (Int32 × (Nat → Int32) × (Nat → Int32) × (Nat → Nat → Int64)) c d a b) := P_ite (fun _ => ha) (fun _ => hb)
theorem RC_ite {c : Prop} {d : Decidable c} {a b : Int64 × (Nat → Int32) × (Nat → Int32) × (Nat → Nat → Int64)} (ha : RC r' f' q' a) (hb : RC r' f' q' b) : RC r' f' q' (@ite (Int64 × (Nat → Int32) × (Nat → Int32) × (Nat → Nat → Int64)) c d a b) := P_ite (fun _ => ha) (fun _ => hb)
theorem RN_ite {c : Prop} {d : Decidable c} {a b : Nat × (Nat → Int32) × (Nat → Int32) × (Nat → Nat → Int64)} (ha : RN r' f' q' a) (hb : RN r' f' q' b) : RN r' f' q' (@ite (Nat × (Nat → Int32) × (Nat → Int32) × (Nat → Nat → Int64)) c d a b) := P_ite (fun _ => ha) (fun _ => hb)
theorem RA_need (h : Rl r q f r' f' q') {A : Nat → CRs} (hA : ∀ n, n < 4 → RA r' f' q' (A n)) : RA r' f' q' (bnd2 (D_X5_needTable r q f p) (fun E x5 => if E = "" then A x5 else (E, 0, r, q, f))) := by
  rcases ntb (r := r) (q := q) (f := f) (p := p) with ⟨n, hn, rfl, h1, h2, h3⟩ | ⟨E, x1, x2, h1, h2⟩
  · rw [h1]
    show RA r' f' q' (if "" = "" then A n else ("", 0, r, q, f))
    rw [if_pos rfl]
    exact hA n hn
  · rw [h1]
    show RA r' f' q' (if E = "" then A 0 else (E, 0, r, q, f))
    rw [if_neg x1]
    exact h
theorem P_RN {α : Type} {P : α → Prop} {X : Nat × (Nat → Int32) × (Nat → Int32) × (Nat → Nat → Int64)} {k : Nat → (Nat → Int32) → (Nat → Int32) → (Nat → Nat → Int64) → α} (hX : RN r' f' q' X) (hk : ∀ i r1 q1 f1, Rl r1 q1 f1 r' f' q' → P (k i r1 q1 f1)) : P (bnd4 X k) := hk _ _ _ _ hX
theorem P_RB {α : Type} {P : α → Prop} {X : Int32 × (Nat → Int32) × (Nat → Int32) × (Nat → Nat → Int64)} {k : Int32 → (Nat → Int32) → (Nat → Int32) → (Nat → Nat → Int64) → α} (hX : RB r' f' q' X) (hk : ∀ i r1 q1 f1, Rl r1 q1 f1 r' f' q' → P (k i r1 q1 f1)) : P (bnd4 X k) := hk _ _ _ _ hX
theorem P_walk {α : Type} {P : α → Prop} (h : Rl r q f r' f' q') (hn : n < 4) {k : (Nat → Int32) → (Nat → Int32) → (Nat → Nat → Int64) → α} (hk : ∀ r1 q1 f1, Rl r1 q1 f1 r' f' q' → (r1 (2 * 7) = nI (r' (2 * n)) ∧ r1 (2 * 7 + 1) = nI (r' (2 * n))) → P (k r1 q1 f1)) : P (bnd3 (D_X4_walk r q f n) k) := by
  have hT := h.1 n hn
  have hb := hT.2.1
  obtain ⟨G, s1, w1, v1, w2, v2, hG, e1, e2, e3⟩ := walk_eq (q := q) hT.1 (show n ≠ 6 by omega) (show n ≠ 7 by omega) hb.1 hb.2.1 hb.2.2.1 (by omega) (fun k hk => sm_ng (hT.2.2.1 k hk)) hT.2.2.2
  rw [e1]
  exact hk (rs (rs r 6 (r' (2 * n)) (r' (2 * n + 1))) 7 (r' (2 * n)) (r' (2 * n))) (va_up q 0 G) (cs f w1 v1) (Rl_walk h) ⟨rs_R, rs_C⟩
/-- the steps, when they are not great -/
def Dg (r1 : Nat → Int32) (f1 : Nat → Nat → Int64) (R C : Nat) : Prop := ∃ (K : Nat) (w v u : Nat → Int64), (∀ k, k < 20 → f1 8 k = w k) ∧ (∀ k, k < 20 → f1 9 k = v k) ∧ (∀ k, k < 20 → f1 10 k = u k) ∧ Sd R C w v u ∧ Rk R C w K
theorem P_dwalk {α : Type} {P : α → Prop} (h : Rl r q f r' f' q') (hn : n < 4) {k : (Nat → Int32) → (Nat → Int32) → (Nat → Nat → Int64) → α} (hk : ∀ r1 q1 f1, Rl r1 q1 f1 r' f' q' → DH r1 (r' (2 * n)) (r' (2 * n + 1)) → (q1 1 = 0 → Dg r1 f1 (r' (2 * n)) (r' (2 * n + 1))) → P (k r1 q1 f1)) : P (bnd3 (D_X1_walk r q f n) k) := by
  have hT := h.1 n hn
  have hb := hT.2.1
  obtain ⟨G, j1, j2, K, w1, v1, u1, w2, v2, u2, hG, e1, e2, e3⟩ := dwalk_eq (q := q) hT.1 (show n ≠ 8 by omega) (show n ≠ 9 by omega) (show n ≠ 10 by omega) hb.1 hb.2.1 hb.2.2.1 hb.2.2.2 (sw_of hT) hT.2.2.2
  rw [e1]
  refine hk (rs (rs (rs r 8 (r' (2 * n)) (r' (2 * n + 1))) 9 (r' (2 * n)) (r' (2 * n))) 10 (r' (2 * n + 1)) (r' (2 * n + 1))) (va_up q 1 G) (ds f w1 v1 u1) (Rl_dwalk h) ⟨⟨(rs_R' (by decide)).trans ((rs_R' (by decide)).trans rs_R), (rs_C' (by decide)).trans ((rs_C' (by decide)).trans rs_C)⟩, ⟨(rs_R' (by decide)).trans rs_R, (rs_C' (by decide)).trans rs_C⟩, rs_R, rs_C⟩ (fun e => ?_)
  rw [vu_self] at e
  obtain ⟨rfl, rfl, rfl, hS, hK⟩ := e3 e
  exact ⟨K, w2, v2, u2, fun k hk => by rw [ds8, cpl hk], fun k hk => by rw [ds9, cpl hk], fun k hk => by rw [ds10, cpl hk], hS, hK⟩
theorem kp_shape (h : Rl r q f r' f' q') : RA r' f' q' (D_X5_shape r q f y z) := by
  unfold D_X5_shape
  exact RA_need h (fun n hn => h)
theorem kp_at (h : Rl r q f r' f' q') : RA r' f' q' (D_X5_at r q f y z u) := by
  have hj : ∀ (n : Nat) (w : Int32), RA r' f' q' (D_X5_at_j32 r q f z u n w) := fun n w => by
    unfold D_X5_at_j32
    exact RA_ite h h
  unfold D_X5_at
  exact RA_need h (fun n hn => RA_ite (hj _ _) (RA_ite (hj _ _) (hj _ _)))
theorem kp_isSame (h : Rl r q f r' f' q') : RA r' f' q' (D_X5_isSame r q f y z) := by
  unfold D_X5_isSame
  exact RA_need h (fun n hn => RA_need h (fun m hm => h))
theorem kp_determinant (h : Rl r q f r' f' q') : RA r' f' q' (D_X5_determinant r q f y z) := by
  have h1 : ∀ (r1 q1 : Nat → Int32) (f1 : Nat → Nat → Int64) (w : Int32), Rl r1 q1 f1 r' f' q' → RA r' f' q' (D_X5_determinant_j88 r1 q1 f1 w) := fun r1 q1 f1 w h1 => by
    unfold D_X5_determinant_j88
    exact RA_ite h1 h1
  have h2 : ∀ (n : Nat) (w : Int32), n < 4 → RA r' f' q' (D_X5_determinant_j39 r q f z n w) := fun n w hn => by
    unfold D_X5_determinant_j39
    exact RA_ite (RA_ite h (RA_ite h (P_walk h hn (fun r1 q1 f1 g1 _ => RA_ite (h1 _ _ _ _ g1) (h1 _ _ _ _ g1))))) h
  have h3 : ∀ (n : Nat) (w : Int32), n < 4 → RA r' f' q' (D_X5_determinant_j20 r q f z n w) := fun n w hn => by
    unfold D_X5_determinant_j20
    exact RA_ite (RA_ite (h2 _ _ hn) (h2 _ _ hn)) h
  unfold D_X5_determinant
  exact RA_need h (fun n hn => RA_ite (h3 _ _ hn) (RA_ite (h3 _ _ hn) (h3 _ _ hn)))
theorem kp_minor (h : Rl r q f r' f' q') : RA r' f' q' (D_X5_minor r q f y z u) := by
  have h1 : ∀ (n : Nat) (w : Int32), RA r' f' q' (D_X5_minor_j63 r q f z u n w) := fun n w => by
    unfold D_X5_minor_j63
    exact RA_ite h h
  have h2 : ∀ (n : Nat) (w : Int32), RA r' f' q' (D_X5_minor_j44 r q f z u n w) := fun n w => by
    unfold D_X5_minor_j44
    exact RA_ite (RA_ite (h1 _ _) (h1 _ _)) h
  unfold D_X5_minor
  exact RA_need h (fun n hn => RA_ite (h2 _ _) (RA_ite (h2 _ _) (RA_ite (h2 _ _) (RA_ite (h2 _ _) (h2 _ _)))))
theorem kp_divisor (h : Rl r q f r' f' q') : RA r' f' q' (D_X5_divisor r q f y z) := by
  have h1 : ∀ (n : Nat) (w : Int32), RA r' f' q' (D_X5_divisor_j31 r q f z n w) := fun n w => by
    unfold D_X5_divisor_j31
    exact RA_ite h h
  unfold D_X5_divisor
  exact RA_need h (fun n hn => RA_ite (h1 _ _) (RA_ite (h1 _ _) (RA_ite (h1 _ _) (h1 _ _))))
theorem kp_rank (h : Rl r q f r' f' q') : RA r' f' q' (D_X5_rank r q f y z) := by
  have h1 : ∀ (r1 q1 : Nat → Int32) (f1 : Nat → Nat → Int64) (w : Int32), Rl r1 q1 f1 r' f' q' → RA r' f' q' (D_X5_rank_j55 r1 q1 f1 w) := fun r1 q1 f1 w h1 => by
    unfold D_X5_rank_j55
    exact RA_ite h1 h1
  have h2 : ∀ (n : Nat) (w : Int32), n < 4 → RA r' f' q' (D_X5_rank_j20 r q f z n w) := fun n w hn => by
    unfold D_X5_rank_j20
    exact RA_ite (RA_ite h (P_walk h hn (fun r1 q1 f1 g1 _ => RA_ite (h1 _ _ _ _ g1) (h1 _ _ _ _ g1)))) h
  unfold D_X5_rank
  exact RA_need h (fun n hn => RA_ite (h2 _ _ hn) (RA_ite (h2 _ _ hn) (h2 _ _ hn)))
theorem kp_form (h : Rl r q f r' f' q') (hn : n < 4) : RN r' f' q' (D_X5_findForm r q f n p) := by
  unfold D_X5_findForm
  exact RN_ite (P_walk h hn (fun r1 q1 f1 g1 _ => RN_ite (RN_ite g1 g1) g1)) (RN_ite (P_walk h hn (fun r1 q1 f1 g1 _ => RN_ite (RN_ite g1 g1) g1)) (P_dwalk h hn (fun r1 q1 f1 g1 _ _ => RN_ite (RN_ite g1 (RN_ite g1 g1)) g1)))
theorem kp_told (h : Rl r q f r' f' q') : RA r' f' q' (D_X5_told r q f y z u v) := by
  have h1 : ∀ (n : Nat) (w : Int32), n < 4 → RA r' f' q' (D_X5_told_j86 r q f z u v n w) := fun n w hn => by
    unfold D_X5_told_j86
    exact RA_ite (P_RN (kp_form h hn) (fun i r1 q1 f1 g1 => RA_ite g1 g1)) h
  have h2 : ∀ (n : Nat) (w w2 : Int32), n < 4 → RA r' f' q' (D_X5_told_j57 r q f z u v n w w2) := fun n w w2 hn => by
    unfold D_X5_told_j57
    exact RA_ite (h1 _ _ hn) (RA_ite (h1 _ _ hn) (RA_ite (h1 _ _ hn) (RA_ite (h1 _ _ hn) (h1 _ _ hn))))
  have h3 : ∀ (n : Nat) (w : Int32), n < 4 → RA r' f' q' (D_X5_told_j32 r q f z u v n w) := fun n w hn => by
    unfold D_X5_told_j32
    exact RA_ite (h2 _ _ _ hn) (RA_ite (h2 _ _ _ hn) (h2 _ _ _ hn))
  unfold D_X5_told
  exact RA_need h (fun n hn => RA_ite (RA_ite (h3 _ _ hn) (h3 _ _ hn)) h)
theorem kp_change (h : Rl r q f r' f' q') : RA r' f' q' (D_X5_change r q f y z) := by
  have h1 : ∀ (n : Nat) (w : Int32), n < 4 → RA r' f' q' (D_X5_change_j101 r q f n w) := fun n w hn => by
    unfold D_X5_change_j101
    exact P_RN (kp_form h hn) (fun i r1 q1 f1 g1 => RA_ite g1 g1)
  have h2 : ∀ (n : Nat) (w : Int32), n < 4 → RA r' f' q' (D_X5_change_j20 r q f z n w) := fun n w hn => by
    unfold D_X5_change_j20
    exact RA_ite (RA_ite (P_walk h hn (fun r1 q1 f1 g1 _ => RA_ite g1 g1)) (RA_ite (P_dwalk h hn (fun r1 q1 f1 g1 _ _ => RA_ite g1 g1)) (RA_ite (h1 _ _ hn) (RA_ite (h1 _ _ hn) (h1 _ _ hn))))) h
  unfold D_X5_change
  exact RA_need h (fun n hn => RA_ite (h2 _ _ hn) (RA_ite (h2 _ _ hn) (h2 _ _ hn)))
theorem kp_house (h : Rl r q f r' f' q') : RA r' f' q' (D_X5_house r q f y) := by
  have h1 : ∀ (w : Int32), RA r' f' q' (D_X5_house_j14 r q f y w) := fun w => by
    unfold D_X5_house_j14
    exact RA_ite h h
  unfold D_X5_house
  exact RA_ite (h1 _) (RA_ite (h1 _) (h1 _))
theorem kp_restColumn (h : Rl r q f r' f' q') : RA r' f' q' (D_X5_restColumn r q f y z u) := by
  have h1 : ∀ (r1 q1 : Nat → Int32) (f1 : Nat → Nat → Int64) (t w : Int32), Rl r1 q1 f1 r' f' q' → RA r' f' q' (D_X5_restColumn_j77 z u r1 q1 f1 t w) := fun r1 q1 f1 t w h1 => by
    unfold D_X5_restColumn_j77
    exact RA_ite h1 h1
  have h2 : ∀ (n : Nat) (r1 q1 : Nat → Int32) (f1 : Nat → Nat → Int64) (w : Int32), Rl r1 q1 f1 r' f' q' → RA r' f' q' (D_X5_restColumn_j31 z u n r1 q1 f1 w) := fun n r1 q1 f1 w g => by
    unfold D_X5_restColumn_j31
    exact RA_ite (RA_ite (h1 _ _ _ _ _ g) (RA_ite (h1 _ _ _ _ _ g) (RA_ite (h1 _ _ _ _ _ g) (RA_ite (h1 _ _ _ _ _ g) (h1 _ _ _ _ _ g))))) g
  unfold D_X5_restColumn
  exact RA_need h (fun n hn => P_dwalk h hn (fun r1 q1 f1 g1 _ _ => RA_ite (h2 _ _ _ _ _ g1) (h2 _ _ _ _ _ g1)))
/-- divided -/
theorem kp_divide (h : Rl r q f r' f' q') (hn : n < 4) (hm : m < 4) (hD : DH r (r' (2 * n)) (r' (2 * n + 1))) (hG : Dg r f (r' (2 * n)) (r' (2 * n + 1))) (hs : r (2 * m) = nI (r' (2 * n))) (hb5 : b < 5) : RB r' f' q' (D_X2_divide r q f m (nI b)) := by
  obtain ⟨K, w, v, u, g1, g2, g3, g4, g5⟩ := hG
  have hb := (h.1 n hn).2.1
  obtain ⟨r4, f4, q1, q2, q3, q4⟩ := div_eq (q := q) (g := f m) hb hD.1 hD.2.1 hs hm g1 g2 (fun _ _ => rfl) hb5 g5
  have hR : Rl r4 q f4 r' f' q' := Rl_keep h (fun i hi => ⟨q1 i (by omega), q2 i (by omega)⟩) ⟨rfl, rfl, rfl⟩
  rcases q4 with ⟨_, e, _⟩ | ⟨_, e⟩
  · rw [e]; exact hR
  · rw [e]; exact hR
theorem kp_solv (h : Rl r q f r' f' q') (hn : n < 4) : ∀ (k y : Nat) (g : Nat → Int64), y ≤ r' (2 * n) → r' (2 * n) - y < k → RA r' f' q' (D_X5_isSolvable_134 p n m (rs r 4 a b) q k (nI y) (va_up f 4 g)) := by
  have hT := h.1 n hn
  have hb := hT.2.1
  have hR : ∀ g, Rl (rs r 4 a b) q (va_up f 4 g) r' f' q' := fun g => Rl_keep h (fun i hi => ro (by omega)) ⟨rfl, rfl, rfl⟩
  intro k
  induction k with
  | zero => intro y g _ h; omega
  | succ k ih =>
    intro y g hy hk
    rw [D_X5_isSolvable_134_s, (rs_R' (by omega)).trans hT.1.1, (rs_C' (by omega)).trans hT.1.2.1]
    by_cases e : r' (2 * n) ≤ y
    · rw [if_pos (ile e (by omega))]
      exact RA_ite (RA_ite (hR g) (hR g)) (hR g)
    · rw [if_neg (nile e (by omega)), bnd1_e, bnd1_e, cset (by omega) (by omega), vu2, s1]
      exact ih (y + 1) _ (by omega) (by omega)
theorem bnd2_e {α α2 β : Type} {a : α} {b : α2} {k : α → α2 → β} : bnd2 (a, b) k = k a b := rfl
theorem bnd3_e {α α2 α3 β : Type} {a : α} {b : α2} {c : α3} {k : α → α2 → α3 → β} : bnd3 (a, b, c) k = k a b c := rfl
theorem bnd4_e {α α2 α3 α4 β : Type} {a : α} {b : α2} {c : α3} {d : α4} {k : α → α2 → α3 → α4 → β} : bnd4 (a, b, c, d) k = k a b c d := rfl
theorem is1 : D_X5_needState r q f 1 = "" := if_neg (by decide)
theorem is0 : D_X5_needState r q f 0 = "java/lang/IllegalStateException" := if_pos rfl
theorem e_ne3 : ¬ ("java/lang/IllegalStateException" = "") := by decide
theorem kp_isSolvable (h : Rl r q f r' f' q') : RA r' f' q' (D_X5_isSolvable r q f y z u v) := by
  unfold D_X5_isSolvable
  refine RA_need h (fun n hn => RA_need h (fun m hm => ?_))
  have hT := h.1 n hn
  have hb := hT.2.1
  have hM := h.1 m hm
  have hbm := hM.2.1
  rcases hcol h hm (c := 1) (by decide) (k := u) with ⟨b, rfl, b1, b2, b3, b4, b5⟩ | ⟨b3, b4⟩
  · rw [b3]
    have hj0 : RA r' f' q' (D_X5_isSolvable_j53 r q f (nI b) v n m 0) := by
      unfold D_X5_isSolvable_j53
      rw [bnd1_e, ia0, if_neg e_ne2]
      exact h
    have hj1 : r' (2 * n) = r' (2 * m) → RA r' f' q' (D_X5_isSolvable_j53 r q f (nI b) v n m 1) := by
      intro hs
      unfold D_X5_isSolvable_j53
      rw [bnd1_e, ia1, if_pos rfl]
      refine P_ite (fun _ => P_dwalk h hn (fun r1 q1 f1 g1 D1 G1 => P_ite (fun e => ?_) (fun _ => ?_))) (fun _ => ?_)
      · unfold D_X5_isSolvable_j85
        rw [bnd1_e, is1, if_pos rfl]
        exact P_RB (P := RA r' f' q') (kp_divide g1 hn hm D1 (G1 e) ((g1.1 m hm).1.1.trans (congrArg nI hs.symm)) (by omega)) (fun i r1 q1 f1 g => g)
      · unfold D_X5_isSolvable_j85
        rw [bnd1_e, is0, if_neg e_ne3]
        exact g1
      · rw [hT.1.1, hT.1.2.1, s1, crs hb.1 hb.2.1 (by omega) (by omega)]
        rw [bnd3_e]
        rw [cto (i := 4) (j := n) (R := r' (2 * n)) (C := r' (2 * n + 1) + 1) (Rj := r' (2 * n)) (Cj := r' (2 * n + 1)) (by omega) rs_R ((rs_R' (by omega)).trans hT.1.1) rs_C ((rs_C' (by omega)).trans hT.1.2.1) hb.2.1 hb.2.1 (by omega) (by omega), bnd1_e, vu2, (rs_R' (by omega)).trans hT.1.1, show gap (nI (r' (2 * n))) 0 = r' (2 * n) - 0 from gapN (b := 0) (by omega) (by omega)]
        exact kp_solv h hn _ 0 _ (by omega) (by omega)
    rw [bnd1_e, bnd1_e, nx1, if_pos rfl]
    refine P_ite (fun e => ?_) (fun _ => hj0)
    have hs : r' (2 * n) = r' (2 * m) := nI_inj (by omega) (by omega) (hT.1.1.symm.trans (e.trans hM.1.1))
    exact RA_ite (hj1 hs) (RA_ite (hj1 hs) hj0)
  · rw [b3, bnd1_e, bnd1_e, nx0, if_neg e_ne]
    exact h
theorem srn {g : Nat → Nat → Int64} {t : Int64} (hi : i < 4) : D_X5_setRowNumber r q g p t i = g i := by
  unfold D_X5_setRowNumber
  exact P_ite (P := fun (z : Nat → Nat → Int64) => z i = g i) (fun _ => rfl) (fun _ => P_ite (P := fun (z : Nat → Nat → Int64) => z i = g i) (fun _ => rfl) (fun _ => vu_ne (by omega)))
theorem Rl_srn {t : Int64} (h : Rl r q f r' f' q') : Rl r q (D_X5_setRowNumber r1 q1 f p t) r' f' q' := Rl_keep h (fun i hi => ⟨⟨rfl, rfl⟩, srn hi⟩) ⟨rfl, rfl, rfl⟩
theorem kp_leaves (h : Rl r q f r' f' q') (hn : n < 4) : RB r' f' q' (D_X5_leavesRests r q f n) := by
  unfold D_X5_leavesRests
  exact RB_ite (RB_ite h (P_walk h hn (fun r1 q1 f1 g1 _ => RB_ite g1 g1))) h
theorem kp_r136 (hn : n < 4) {lb : Int32 → Int64 → (Nat → Nat → Int64) → CRs} {a C : Nat} {s t e : Int64} (hC : r (2 * n + 1) = nI C) (hC4 : C ≤ 4) (hk : ∀ s f, Rl r q f r' f' q' → RA r' f' q' (lb (nI (a + 1)) s f)) : ∀ (k y : Nat) (f : Nat → Nat → Int64), y ≤ C → C - y < k → Rl r q f r' f' q' → RA r' f' q' (D_X5_restOf_136 n r q lb (nI a) s t e k (nI y) f) := by
  intro k
  induction k with
  | zero => intro y f _ h; omega
  | succ k ih =>
    intro y f hy hk2 h
    rw [D_X5_restOf_136_s, hC]
    by_cases e1 : C ≤ y
    · rw [if_pos (ile e1 (by omega)), bnd1_e, s1]
      exact hk _ _ h
    · rw [if_neg (nile e1 (by omega)), bnd1_e, bnd1_e, bnd1_e, s1]
      exact ih (y + 1) _ (by omega) (by omega) (Rl_srn h)
theorem kp_r93 (hn : n < 4) {C : Nat} (hC : r (2 * n + 1) = nI C) (hC4 : C ≤ 4) : ∀ (k y : Nat) (s : Int64) (f : Nat → Nat → Int64), y ≤ C → C - y < k → Rl r q f r' f' q' → RA r' f' q' (D_X5_restOf_93 n r q k (nI y) s f) := by
  intro k
  induction k with
  | zero => intro y s f _ h; omega
  | succ k ih =>
    intro y s f hy hk2 h
    rw [D_X5_restOf_93_s, hC]
    by_cases e1 : C ≤ y
    · rw [if_pos (ile e1 (by omega))]
      exact h
    · rw [if_neg (nile e1 (by omega)), bnd1_e, bnd1_e, bnd1_e, gapN (by omega) (by omega)]
      exact kp_r136 hn hC hC4 (fun s f h => ih (y + 1) s f (by omega) (by omega) h) _ y f hy (by omega) h
theorem kp_r57 (hn : n < 4) {C : Nat} (hC : r (2 * n + 1) = nI C) (hC4 : C ≤ 4) : ∀ (k y : Nat) (f : Nat → Nat → Int64), y ≤ C → C - y < k → Rl r q f r' f' q' → RA r' f' q' (D_X5_restOf_57 p n m r q k (nI y) f) := by
  intro k
  induction k with
  | zero => intro y f _ h; omega
  | succ k ih =>
    intro y f hy hk2 h
    rw [D_X5_restOf_57_s, hC]
    by_cases e1 : C ≤ y
    · rw [if_pos (ile e1 (by omega)), show gap (nI C) 0 = C - 0 from gapN (b := 0) (by omega) (by omega)]
      exact kp_r93 hn hC hC4 _ 0 _ f (by omega) (by omega) h
    · rw [if_neg (nile e1 (by omega)), bnd1_e, bnd1_e, s1]
      exact ih (y + 1) _ (by omega) (by omega) (Rl_srn h)
theorem kp_restOf (h : Rl r q f r' f' q') : RA r' f' q' (D_X5_restOf r q f y z u) := by
  unfold D_X5_restOf
  refine RA_need h (fun n hn => RA_need h (fun m hm => RA_ite (P_RB (kp_leaves h hn) (fun i r1 q1 f1 g1 => RA_ite (RA_ite ?_ ?_) g1)) h))
  · unfold D_X5_restOf_j51
    have hT := g1.1 n hn
    rw [bnd1_e]
    refine RA_ite ?_ g1
    rw [hT.1.2.1, show gap (nI (r' (2 * n + 1))) 0 = r' (2 * n + 1) - 0 from gapN (b := 0) (by have := hT.2.1; omega) (by omega)]
    exact kp_r57 hn hT.1.2.1 (by have := hT.2.1; omega) _ 0 f1 (by omega) (by omega) g1
  · unfold D_X5_restOf_j51
    have hT := g1.1 n hn
    rw [bnd1_e]
    refine RA_ite ?_ g1
    rw [hT.1.2.1, show gap (nI (r' (2 * n + 1))) 0 = r' (2 * n + 1) - 0 from gapN (b := 0) (by have := hT.2.1; omega) (by omega)]
    exact kp_r57 hn hT.1.2.1 (by have := hT.2.1; omega) _ 0 f1 (by omega) (by omega) g1
theorem kp_sRow (h : Rl r q f r' f' q') (hn : n < 4) (hs : r (2 * 7) = nI (r' (2 * n)) ∧ r (2 * 7 + 1) = nI (r' (2 * n))) : RB r' f' q' (D_X5_isSoundByRowSteps r q f n) := by
  have hT := h.1 n hn
  have hb := hT.2.1
  unfold D_X5_isSoundByRowSteps
  rw [cbp (by decide) (by omega) hs.1 hs.2 hT.1.2.1 hb.1 hb.2.1 hb.2.2.1 (by omega) hb.2.1]
  have hR : ∀ g, Rl (rs r 5 (r' (2 * n)) (r' (2 * n + 1))) q (va_up f 5 g) r' f' q' := fun g => Rl_keep h (fun i hi => ro (by omega)) ⟨rfl, rfl, rfl⟩
  rw [bnd3_e, bnd1_e]
  refine RB_ite (hR _) ?_
  rw [bnd1_e, bnd1_e]
  refine RB_ite (RB_ite ?_ (hR _)) (hR _)
  rw [bnd1_e, bnd1_e]
  exact RB_ite (hR _) (hR _)
theorem kp_s54 (h : Rl r q f r' f' q') (hn : n < 4) : ∀ k y : Nat, y ≤ r' (2 * n) → r' (2 * n) - y < k → RB r' f' q' (D_X5_isSoundBySteps_54 n r q f k (nI y)) := by
  have hT := h.1 n hn
  have hb := hT.2.1
  intro k
  induction k with
  | zero => intro y _ h; omega
  | succ k ih =>
    intro y hy hk
    rw [D_X5_isSoundBySteps_54_s, hT.1.1]
    by_cases e : r' (2 * n) ≤ y
    · rw [if_pos (ile e (by omega))]
      exact h
    · rw [if_neg (nile e (by omega)), s1]
      exact RB_ite h (RB_ite (ih (y + 1) (by omega) (by omega)) h)
theorem kp_sStep (h : Rl r q f r' f' q') (hn : n < 4) (hD : DH r (r' (2 * n)) (r' (2 * n + 1))) : RB r' f' q' (D_X5_isSoundBySteps r q f n) := by
  have hT := h.1 n hn
  have hb := hT.2.1
  unfold D_X5_isSoundBySteps
  rw [cbp (by decide) (by omega) hD.2.1.1 hD.2.1.2 hT.1.2.1 hb.1 hb.2.1 hb.2.2.1 (by omega) hb.2.1]
  have h1 : ∀ g, Rl (rs r 4 (r' (2 * n)) (r' (2 * n + 1))) q (va_up f 4 g) r' f' q' := fun g => Rl_keep h (fun i hi => ro (by omega)) ⟨rfl, rfl, rfl⟩
  generalize pd (r' (2 * n)) (r' (2 * n)) 0 (r' (2 * n + 1)) (f 9) (f n) (zf 20 (f 4)) = g
  rw [bnd3_e, cbp (by decide) (by decide) rs_R rs_C ((rs_C' (by decide)).trans hD.2.2.2) hb.1 hb.2.1 hb.2.2.1 (by omega) hb.2.2.2]
  have h2 : ∀ k, Rl (rs (rs r 4 (r' (2 * n)) (r' (2 * n + 1))) 5 (r' (2 * n)) (r' (2 * n + 1))) q (va_up (va_up f 4 g) 5 k) r' f' q' := fun k => Rl_keep (h1 g) (fun i hi => ro (by omega)) ⟨rfl, rfl, rfl⟩
  rw [bnd3_e, bnd1_e]
  refine RB_ite (h2 _) ?_
  have h3 : (rs (rs r 4 (r' (2 * n)) (r' (2 * n + 1))) 5 (r' (2 * n)) (r' (2 * n + 1))) (2 * n) = nI (r' (2 * n)) := (rs_R' (by omega)).trans ((rs_R' (by omega)).trans hT.1.1)
  rw [h3, show gap (nI (r' (2 * n))) 0 = r' (2 * n) - 0 from gapN (b := 0) (by omega) (by omega)]
  exact kp_s54 (h2 _) hn _ 0 (by omega) (by omega)
theorem kp_first (h : Rl r q f r' f' q') : RB r' f' q' (D_X5_isFirstSound r q f) := by
  have hst : ∀ (r1 q1 : Nat → Int32) (f1 : Nat → Nat → Int64), Rl r1 q1 f1 r' f' q' → RB r' f' q' (bnd3 (D_X1_walk r1 q1 f1 0) (fun r2 q2 f2 => if q2 1 = 0 then bnd4 (D_X5_isSoundBySteps r2 q2 f2 0) (fun x r3 q3 f3 => if x = 0 then (0, r3, q3, f3) else (1, r3, q3, f3)) else (1, r2, q2, f2))) := fun r1 q1 f1 g1 => P_dwalk g1 (by decide) (fun r2 q2 f2 g2 D2 _ => RB_ite (P_RB (kp_sStep g2 (by decide) D2) (fun i r3 q3 f3 g3 => RB_ite g3 g3)) g2)
  have hrow : RB r' f' q' (bnd3 (D_X4_walk r q f 0) (fun r1 q1 f1 => if q1 0 = 0 then bnd4 (D_X5_isSoundByRowSteps r1 q1 f1 0) (fun x r2 q2 f2 => if x = 0 then (0, r2, q2, f2) else bnd3 (D_X1_walk r2 q2 f2 0) (fun r2 q2 f2 => if q2 1 = 0 then bnd4 (D_X5_isSoundBySteps r2 q2 f2 0) (fun x r3 q3 f3 => if x = 0 then (0, r3, q3, f3) else (1, r3, q3, f3)) else (1, r2, q2, f2))) else bnd3 (D_X1_walk r1 q1 f1 0) (fun r2 q2 f2 => if q2 1 = 0 then bnd4 (D_X5_isSoundBySteps r2 q2 f2 0) (fun x r3 q3 f3 => if x = 0 then (0, r3, q3, f3) else (1, r3, q3, f3)) else (1, r2, q2, f2)))) := P_walk h (by decide) (fun r1 q1 f1 g1 s1 => RB_ite (P_RB (kp_sRow g1 (by decide) s1) (fun i r2 q2 f2 g2 => RB_ite g2 (hst _ _ _ g2))) (hst _ _ _ g1))
  unfold D_X5_isFirstSound
  exact RB_ite h (RB_ite (RB_ite (RB_ite hrow h) hrow) h)
theorem kp_isSound (h : Rl r q f r' f' q') : RB r' f' q' (D_X5_isSound r q f) := by
  unfold D_X5_isSound
  exact P_RB (kp_first h) (fun i r1 q1 f1 g => g)
theorem kp_d30 (h : Rl r q f r' f' q') : ∀ (k y : Nat) (s : Int64), y ≤ 4 → 4 - y < k → RC r' f' q' (D_X5_digest_30 r q f k (nI y) s) := by
  intro k
  induction k with
  | zero => intro y s _ h; omega
  | succ k ih =>
    intro y s hy hk
    rw [D_X5_digest_30_s]
    by_cases e : 3 < y
    · rw [if_pos (show (3 : Int32) < nI y from nI_lt (a := 3) e (by omega))]
      exact P_RB (kp_first h) (fun i r1 q1 f1 g => RC_ite g g)
    · rw [if_neg (show ¬ (3 : Int32) < nI y from nI_nlt (a := 3) (b := y) (by omega) (by omega)), bnd1_e, s1]
      exact ih (y + 1) _ (by omega) (by omega)
theorem kp_d6 (h : Rl r q f r' f' q') : ∀ (k y : Nat) (s : Int64), y ≤ 4 → 4 - y < k → RC r' f' q' (D_X5_digest_6 r q f k (nI y) s) := by
  intro k
  induction k with
  | zero => intro y s _ h; omega
  | succ k ih =>
    intro y s hy hk
    rw [D_X5_digest_6_s]
    by_cases e : 4 ≤ y
    · rw [if_pos (show (4 : Int32) ≤ nI y from ile (a := 4) e (by omega))]
      exact kp_d30 h _ 0 _ (by omega) (by decide)
    · rw [if_neg (show ¬ (4 : Int32) ≤ nI y from nile (a := 4) e (by omega)), bnd1_e, s1]
      exact ih (y + 1) _ (by omega) (by omega)
theorem kp_digest (h : Rl r q f r' f' q') : RC r' f' q' (D_X5_digest r q f) := by
  unfold D_X5_digest
  exact kp_d6 h _ 0 _ (by omega) (by decide)
/-! ===== What is answered, for what needs no more than the tables ===== -/
theorem an_shape (h : Rl r q f r' f' q') : An (D_X5_shape r q f y z).1 (D_X5_shape r q f y z).2.1 ((D_X10_shape r' f' q' y z).2 3) (D_X10_shape r' f' q' y z).1 := by
  unfold D_X5_shape D_X10_shape
  rcases ntb (r := r) (q := q) (f := f) (p := y) with ⟨n, hn, rfl, h1, h2, h3⟩ | ⟨E, x1, x2, h1, h2⟩
  · rw [h1, h2]
    dsimp only [bnd2, bnd1]
    have hT := h.1 n hn
    rw [if_pos rfl, if_neg one0, th1_0, h3]
    unfold D_X3_countLines
    by_cases hp : z = 0
    · rw [if_pos hp, if_pos hp]
      exact Or.inl ⟨rfl, (vu_self : va_up q' 3 0 3 = 0), hT.1.1⟩
    · rw [if_neg hp, if_neg hp]
      exact Or.inl ⟨rfl, (vu_self : va_up q' 3 0 3 = 0), hT.1.2.1⟩
  · rw [h1, h2]
    dsimp only [bnd2, bnd1]
    rw [if_neg x1, if_pos rfl, th1_1, x2]
    exact Or.inr (Or.inl ⟨rfl, (vu_self : va_up q' 3 1 3 = 1)⟩)
theorem an_at (h : Rl r q f r' f' q') : An (D_X5_at r q f y z u).1 (D_X5_at r q f y z u).2.1 ((D_X10_at r' f' q' y z u).2 3) (D_X10_at r' f' q' y z u).1 := by
  unfold D_X5_at D_X10_at
  rcases ntb (r := r) (q := q) (f := f) (p := y) with ⟨n, hn, rfl, h1, h2, h3⟩ | ⟨E, x1, x2, h1, h2⟩
  · rw [h1]
    dsimp only [bnd2, bnd1]
    have hT := h.1 n hn
    have hb := hT.2.1
    rw [if_pos rfl, th1_1, th1_0]
    rcases hrow h hn (k := z) with ⟨a, rfl, a1, a2, a3, a4, a5⟩ | ⟨a3, a4⟩
    · rw [a3, a4, if_neg one0, if_neg one0]
      rcases hcol h hn (c := 1) (by decide) (k := u) with ⟨b, rfl, b1, b2, b3, b4, b5⟩ | ⟨b3, b4⟩
      · rw [b3, b4, if_neg one0, if_neg one0, a5, b5, h3]
        unfold D_X5_at_j32
        dsimp only [bnd1]
        rw [nx1, if_pos rfl, cget a2 (by omega), tb_v hT (by omega)]
        exact Or.inl ⟨rfl, (vu_self : va_up q' 3 0 3 = 0), rfl⟩
      · rw [b3, b4, if_pos rfl, if_pos rfl]
        unfold D_X5_at_j32
        dsimp only [bnd1]
        rw [nx0, if_neg e_ne]
        exact Or.inr (Or.inl ⟨rfl, (vu_self : va_up q' 3 1 3 = 1)⟩)
    · rw [a3, a4, if_pos rfl, if_pos rfl]
      unfold D_X5_at_j32
      dsimp only [bnd1]
      rw [nx0, if_neg e_ne]
      exact Or.inr (Or.inl ⟨rfl, (vu_self : va_up q' 3 1 3 = 1)⟩)
  · rw [h1]
    dsimp only [bnd2, bnd1]
    rw [if_neg x1, (isT_0 h2).1, if_pos rfl, th1_1, x2]
    exact Or.inr (Or.inl ⟨rfl, (vu_self : va_up q' 3 1 3 = 1)⟩)
theorem an_isSame (h : Rl r q f r' f' q') : An (D_X5_isSame r q f y z).1 (D_X5_isSame r q f y z).2.1 ((D_X10_isSame r' f' q' y z).2 3) (D_X10_isSame r' f' q' y z).1 := by
  unfold D_X5_isSame D_X10_isSame
  rcases ntb (r := r) (q := q) (f := f) (p := y) with ⟨n, hn, rfl, h1, h2, h3⟩ | ⟨E, x1, x2, h1, h2⟩
  · rw [h1, h2]
    dsimp only [bnd2, bnd1]
    rw [if_pos rfl, if_neg one0, th1_1, th1_0, h3]
    rcases ntb (r := r) (q := q) (f := f) (p := z) with ⟨m, hm, rfl, g1, g2, g3⟩ | ⟨E, x1, x2, g1, g2⟩
    · rw [g1, g2]
      dsimp only
      rw [if_pos rfl, if_neg one0, g3]
      rcases like_eq (q := q) (h.1 n hn) (h.1 m hm) with ⟨a1, a2, a3⟩ | ⟨a1, a2, a3⟩
      · rw [a1, a2, if_neg one0]
        exact Or.inl ⟨rfl, (vu_self : va_up q' 3 0 3 = 0), rfl⟩
      · rw [a1, a2, if_pos rfl]
        exact Or.inl ⟨rfl, (vu_self : va_up q' 3 0 3 = 0), rfl⟩
    · rw [g1, g2]
      dsimp only
      rw [if_neg x1, if_pos rfl, x2]
      exact Or.inr (Or.inl ⟨rfl, (vu_self : va_up q' 3 1 3 = 1)⟩)
  · rw [h1, h2]
    dsimp only [bnd2, bnd1]
    rw [if_neg x1, if_pos rfl, th1_1, x2]
    exact Or.inr (Or.inl ⟨rfl, (vu_self : va_up q' 3 1 3 = 1)⟩)
end PKP
end
section
-- 76.adap
/-! ===== Contracts of the trunk, said as the texts' walks want them ===== -/
theorem te2 {A B : Type} (p : A × B) : p = (p.1, p.2) := rfl
theorem te4 {A B C D : Type} (p : A × B × C × D) : p = (p.1, p.2.1, p.2.2.1, p.2.2.2) := rfl
theorem te5 {A B C D E : Type} (p : A × B × C × D × E) : p = (p.1, p.2.1, p.2.2.1, p.2.2.2.1, p.2.2.2.2) := rfl
/-- where both sides stood alike, they stand alike -/
def Ks (r q : Nat → Int32) (f : Nat → Nat → Int64) (r1 q1 : Nat → Int32) (f1 : Nat → Nat → Int64) : Prop := ∀ (R : Nat → Nat) (F : Nat → Nat → Int64) (Q : Nat → Int32), Rl r q f R F Q → Rl r1 q1 f1 R F Q
theorem Ks_rf {r q : Nat → Int32} {f : Nat → Nat → Int64} : Ks r q f r q f := fun _ _ _ h => h
theorem Ks_tr {r q r1 q1 r2 q2 : Nat → Int32} {f f1 f2 : Nat → Nat → Int64} (h2 : Ks r1 q1 f1 r2 q2 f2) (h1 : Ks r q f r1 q1 f1) : Ks r q f r2 q2 f2 := fun R F Q h => h2 R F Q (h1 R F Q h)
theorem Rl_q {r q : Nat → Int32} {f : Nat → Nat → Int64} {R : Nat → Nat} {F : Nat → Nat → Int64} {Q Q1 : Nat → Int32} (h : Rl r q f R F Q) (e : Q1 2 = Q 2 ∧ Q1 0 = Q 0 ∧ Q1 1 = Q 1) : Rl r q f R F Q1 := ⟨h.1, h.2.1.trans e.2.1.symm, h.2.2.1.trans e.2.2.symm, h.2.2.2.trans e.1.symm⟩
/-- the wrapper's answer -/
def Wc (cs : List (String × Int32)) (E : String) (x k : Int32) (n : Int64) : Prop := (E = "" ∧ k = 0 ∧ n = x.toInt64) ∨ ∃ c ∈ cs, E = c.1 ∧ k = c.2
theorem t640 : (0 : Int32).toInt64 = 0 := by decide +kernel
theorem Wc_an {cs : List (String × Int32)} {E : String} {x k t x' : Int32} {n : Int64} (hc : ∀ c ∈ cs, c.1 ≠ "" ∧ (c.1 = "java/lang/IndexOutOfBoundsException" → c.2 = 1) ∧ (c.1 = "java/lang/IllegalArgumentException" → c.2 = 2) ∧ c.2 ≠ 0) (h : Wc cs E x k n) (hA : An E x t x') : t = k ∧ (k = 0 → n = x'.toInt64) := by
  rcases h with ⟨h1, h2, h3⟩ | ⟨c, hm, h1, h2⟩
  · rcases hA with ⟨_, a2, a3⟩ | ⟨a1, _⟩ | ⟨a1, _⟩
    · exact ⟨a2.trans h2.symm, fun _ => by rw [h3, a3]⟩
    · exact absurd (a1.symm.trans h1) e_ne
    · exact absurd (a1.symm.trans h1) e_ne2
  · obtain ⟨c1, c2, c3, c4⟩ := hc c hm
    rcases hA with ⟨a1, _, _⟩ | ⟨a1, a2⟩ | ⟨a1, a2⟩
    · exact absurd (h1.symm.trans a1) c1
    · exact ⟨by rw [a2, h2, c2 (h1.symm.trans a1)], fun z => absurd (h2.symm.trans z) c4⟩
    · exact ⟨by rw [a2, h2, c3 (h1.symm.trans a1)], fun z => absurd (h2.symm.trans z) c4⟩
theorem e_ne4 : ¬ ("java/lang/IndexOutOfBoundsException" = "java/lang/IllegalArgumentException") := by decide
theorem wc1 : ∀ c ∈ ([("java/lang/IndexOutOfBoundsException", 1)] : List (String × Int32)), c.1 ≠ "" ∧ (c.1 = "java/lang/IndexOutOfBoundsException" → c.2 = 1) ∧ (c.1 = "java/lang/IllegalArgumentException" → c.2 = 2) ∧ c.2 ≠ 0 := by
  intro c hc
  rcases List.mem_cons.mp hc with rfl | hc
  · exact ⟨e_ne, fun _ => rfl, fun h => absurd h e_ne4, (by decide : (1 : Int32) ≠ 0)⟩
  · exact absurd hc List.not_mem_nil
theorem wc2 : ∀ c ∈ ([("java/lang/IndexOutOfBoundsException", 1), ("java/lang/IllegalArgumentException", 2)] : List (String × Int32)), c.1 ≠ "" ∧ (c.1 = "java/lang/IndexOutOfBoundsException" → c.2 = 1) ∧ (c.1 = "java/lang/IllegalArgumentException" → c.2 = 2) ∧ c.2 ≠ 0 := by
  intro c hc
  rcases List.mem_cons.mp hc with rfl | hc
  · exact ⟨e_ne, fun _ => rfl, fun h => absurd h e_ne4, (by decide : (1 : Int32) ≠ 0)⟩
  · rcases List.mem_cons.mp hc with rfl | hc
    · exact ⟨e_ne2, fun h => absurd h.symm e_ne4, fun _ => rfl, (by decide : (2 : Int32) ≠ 0)⟩
    · exact absurd hc List.not_mem_nil
theorem CM_mono {κ : Kt} {l : Launch} {y : MethodName} {cc : ByteArray} {n : Nat} {ret : Option FieldType} {fr lo mc ms : Nat} {av : List Value} {w : va_W} {post post2 : Option Value → va_W → Prop} (h : CM κ l y cc n ret fr lo mc ms av w post) (hp : ∀ o w', post o w' → post2 o w') : CM κ l y cc n ret fr lo mc ms av w post2 := by
  intro sz
  refine MetFree.mono (h sz) (fun a s hp => hp) (fun _ _ _ _ _ _ => trivial) (fun a st oc t _ hq => ?_)
  obtain ⟨⟨⟨r, w', ho, hpo, hP, hD⟩, hF⟩, L, hE, hL⟩ := hq
  exact ⟨⟨⟨r, w', ho, hp _ _ hpo, hP, hD⟩, hF⟩, L, hE, hL⟩
theorem CX_mono {κ : Kt} {l : Launch} {y : MethodName} {cc : ByteArray} {n : Nat} {ret : Option FieldType} {fr lo mc ms : Nat} {av : List Value} {w : va_W} {post post2 : Option Value → va_W → Prop} {postX postX2 : String → va_W → Prop} (h : CX κ l y cc n ret fr lo mc ms av w post postX) (hp : ∀ o w', post o w' → post2 o w') (hx : ∀ E w', postX E w' → postX2 E w') : CX κ l y cc n ret fr lo mc ms av w post2 postX2 := by
  intro sz
  refine MetFree.mono (h sz) (fun a s hp => hp) (fun _ _ _ _ _ _ => trivial) (fun a st oc t _ hq => ?_)
  rcases hq with ⟨⟨⟨r, w', ho, hpo, hP, hD⟩, hF⟩, L, hE, hL⟩ | ⟨q, ho, hT⟩
  · exact Or.inl ⟨⟨⟨r, w', ho, hp _ _ hpo, hP, hD⟩, hF⟩, L, hE, hL⟩
  · refine Or.inr ⟨q, ho, ?_⟩
    obtain ⟨E, ce, L, ⟨⟨w', hpo, hP, hD⟩, hF⟩, t1, t2, t3, t4, t5, tL⟩ := hT
    exact ⟨E, ce, L, ⟨⟨w', hx _ _ hpo, hP, hD⟩, hF⟩, t1, t2, t3, t4, t5, tL⟩
theorem o_X5_needTable (κ : Kt) (l : Launch) (hst : l.stackTraces = false) (a : Nat → Nat) (r q : Nat → Int32) (f : Nat → Nat → Int64) (p0 : Int32) : CX κ l yX5_needTable cX5_needTable 2 (some (.object "Gridmender$Grid")) 6 90 1 6 [.ref (a 0), .int p0] (cw κ a r q f) (fun o w' => ∃ i : Nat, i < 4 ∧ o = some (.ref (a (6 + 2 * i))) ∧ w' = cw κ a r q f) (fun E w' => E ∈ (["java/lang/IndexOutOfBoundsException"] : List String) ∧ w' = cw κ a r q f) :=
  CX_mono (k_X5_needTable κ l hst a r q f p0 _ _ (te2 _)) (fun o w' h => ⟨_, h.2⟩) (fun E w' h => ⟨h.1 ▸ h.2.1, h.2.2⟩)
theorem o_X5_needState (κ : Kt) (l : Launch) (hst : l.stackTraces = false) (a : Nat → Nat) (r q : Nat → Int32) (f : Nat → Nat → Int64) (p0 : Int32) : CX κ l yX5_needState cX5_needState 1 (none) 6 90 1 6 [.int p0] (cw κ a r q f) (fun o w' => o = none ∧ w' = cw κ a r q f) (fun E w' => E ∈ (["java/lang/IllegalStateException"] : List String) ∧ w' = cw κ a r q f) :=
  CX_mono (k_X5_needState κ l hst a r q f p0 _ rfl) (fun o w' h => h.2) (fun E w' h => ⟨h.1 ▸ h.2.1, h.2.2⟩)
theorem o_X5_needArgument (κ : Kt) (l : Launch) (hst : l.stackTraces = false) (a : Nat → Nat) (r q : Nat → Int32) (f : Nat → Nat → Int64) (p0 : Int32) : CX κ l yX5_needArgument cX5_needArgument 1 (none) 6 90 1 6 [.int p0] (cw κ a r q f) (fun o w' => o = none ∧ w' = cw κ a r q f) (fun E w' => E ∈ (["java/lang/IllegalArgumentException"] : List String) ∧ w' = cw κ a r q f) :=
  CX_mono (k_X5_needArgument κ l hst a r q f p0 _ rfl) (fun o w' h => h.2) (fun E w' h => ⟨h.1 ▸ h.2.1, h.2.2⟩)
section ADP
variable (κ : Kt) (l : Launch) (a : Nat → Nat) (r q : Nat → Int32) (f : Nat → Nat → Int64)
theorem o_X3_get (i : Nat) (p0 : Int32) (p1 : Int32) (hi : i < 15) : CM κ l yX3_get cX3_get 3 (some .long) 0 0 0 0 [.ref (a (6 + 2 * i)), .int p0, .int p1] (cw κ a r q f) (fun o w' => ∃ x : Int64, o = some (.long x) ∧ w' = cw κ a r q f) :=
  CM_mono (k_X3_get κ l a r q f i p0 p1 hi _ rfl) (fun o w' h => ⟨_, h⟩)
theorem o_X5_leavesRests (i : Nat) (hi : i < 4) : CM κ l yX5_leavesRests cX5_leavesRests 2 (some .boolean) 6 165 0 0 [.ref (a 0), .ref (a (6 + 2 * i))] (cw κ a r q f) (fun o w' => ∃ x : Int32, ∃ (r' q' : Nat → Int32) (f' : Nat → Nat → Int64), o = some (.int x) ∧ (x = 0 ∨ x = 1) ∧ (okr r → okr r') ∧ q' 4 = q 4 ∧ Ks r q f r' q' f' ∧ w' = cw κ a r' q' f') :=
  CM_mono (k_X5_leavesRests κ l a r q f i (by omega) _ _ _ _ (te4 _)) (fun o w' h => ⟨_, _, _, _, h.1, h.2.1, h.2.2.1, h.2.2.2.1, fun R F Q hr => kp_leaves hr hi, h.2.2.2.2⟩)
theorem o_X5_rowNumber (p0 : Int32) : CM κ l yX5_rowNumber cX5_rowNumber 2 (some .long) 0 0 0 0 [.ref (a 0), .int p0] (cw κ a r q f) (fun o w' => ∃ x : Int64, o = some (.long x) ∧ w' = cw κ a r q f) :=
  CM_mono (k_X5_rowNumber κ l a r q f p0 _ rfl) (fun o w' h => ⟨_, h⟩)
theorem o_X5_setRowNumber (p0 : Int32) (p1 : Int64) : CM κ l yX5_setRowNumber cX5_setRowNumber 4 (none) 0 0 0 0 [.ref (a 0), .int p0, .long p1] (cw κ a r q f) (fun o w' => ∃ f' : Nat → Nat → Int64, o = none ∧ Ks r q f r q f' ∧ w' = cw κ a r q f') :=
  CM_mono (k_X5_setRowNumber κ l a r q f p0 p1 _ rfl) (fun o w' h => ⟨_, h.1, fun R F Q hr => Rl_srn hr, h.2⟩)
theorem o_X5_remainder (w : va_W) (x : Int64) (y : Int64) : CM κ l yX5_remainder cX5_remainder 4 (some .long) 1 25 0 0 [.long x, .long y] (w) (fun o w' => ∃ x : Int64, o = some (.long x) ∧ w' = w) :=
  CM_mono (k_X5_remainder κ l w x y _ rfl) (fun o w' h => ⟨_, h⟩)
theorem o_X5_divideDown (w : va_W) (x : Int64) (y : Int64) : CM κ l yX5_divideDown cX5_divideDown 4 (some .long) 1 25 0 0 [.long x, .long y] (w) (fun o w' => ∃ x : Int64, o = some (.long x) ∧ w' = w) :=
  CM_mono (k_X5_divideDown κ l w x y _ rfl) (fun o w' h => ⟨_, h⟩)
theorem o_X10_isTable (w : va_W) (x : Int32) : CM κ l yX10_isTable cX10_isTable 1 (some .boolean) 0 0 0 0 [.int x] (w) (fun o w' => ∃ (z : Int32), o = some (.int z) ∧ (z = 0 ∨ z = 1 ∧ 0 ≤ x ∧ x.toNatClampNeg < 4) ∧ w' = w) :=
  CM_mono (k_X10_isTable κ l w x _ rfl) (fun o w' h => ⟨_, h⟩)
theorem o_X10_isThrown (w : va_W) (k0 x0 t0 : Nat) (i1 i2 i3 i4 : Int32) (b1 : Int32) (b2 : Int32) (b3 : Int32) (h0 : w[k0]? = some (x0, .inr (11, [.ref t0, .int i1, .int i2, .int i3, .int i4]))) : CM κ l yX10_isThrown cX10_isThrown 4 (some .boolean) 0 0 0 0 [.ref x0, .int b1, .int b2, .int b3] (w) (fun o w' => ∃ (x : Int32) (tv : Int32), o = some (.int x) ∧ (x = thr b1 b2 b3) ∧ w' = w.set k0 (x0, .inr (11, [.ref t0, .int i1, .int i2, .int i3, .int tv]))) :=
  CM_mono (k_X10_isThrown κ l w k0 x0 t0 i1 i2 i3 i4 b1 b2 b3 h0 _ _ (te2 _)) (fun o w' h => ⟨_, _, h⟩)
theorem o_X10_isThrown__ (w : va_W) (k0 x0 t0 : Nat) (i1 i2 i3 i4 : Int32) (b1 : Int32) (h0 : w[k0]? = some (x0, .inr (11, [.ref t0, .int i1, .int i2, .int i3, .int i4]))) : CM κ l yX10_isThrown__ cX10_isThrown__ 2 (some .boolean) 1 23 0 0 [.ref x0, .int b1] (w) (fun o w' => ∃ (x : Int32) (tv : Int32), o = some (.int x) ∧ (x = thr b1 0 0) ∧ w' = w.set k0 (x0, .inr (11, [.ref t0, .int i1, .int i2, .int i3, .int tv]))) :=
  CM_mono (k_X10_isThrown__ κ l w k0 x0 t0 i1 i2 i3 i4 b1 h0 _ _ (te2 _)) (fun o w' h => ⟨_, _, h⟩)
theorem o_X10_leaving (w : va_W) (k_o j_o g_o b_o R_o C_o : Nat) (f_o : Nat → Int64) (h_o : w[k_o]? = some (gO g_o R_o C_o b_o)) (i_o : w[j_o]? = some (lA κ b_o (R_o * 5) f_o)) (s_o : shp R_o C_o) (hC4 : C_o ≤ 4) (hng : ∀ k, k < R_o * 5 → ng (f_o k)) : CM κ l yX10_leaving cX10_leaving 2 (some (.object "GridmenderModel$Grid")) 7 188 5 50 [.ref g_o] (w) (fun o w' => (o = some .null ∧ w' = w) ∨ ∃ (q1 q2 R C : Nat) (F : Nat → Int64), o = some (.ref q1) ∧ (R = R_o ∧ C = C_o ∧ R_o = C_o ∧ ∀ j, j < R → ¬ F (j * 5 + j) = 0) ∧ w' = lA κ q2 (R * 5) F :: gO q1 R C q2 :: w) :=
  CM_mono (k_X10_leaving κ l w k_o j_o g_o b_o R_o C_o f_o h_o i_o s_o hC4 hng _ _ _ _ (te4 _)) (fun o w' h => h.elim (fun h => Or.inl h.2) (fun h => by
    obtain ⟨_, q1, q2, h⟩ := h
    exact Or.inr ⟨q1, q2, _, _, _, h⟩))
end ADP
end
