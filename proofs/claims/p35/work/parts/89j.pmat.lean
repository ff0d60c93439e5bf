/-! ===== Tables of whole numbers of any size: minors, and what row and column changes leave ===== -/
abbrev Mi : Type := Nat → Nat → Int
/-- minors of two rows and two columns; the determinant of three -/
def mnr2 (A : Mi) (a b c d : Nat) : Int := A a c * A b d - A a d * A b c
def mnr3 (A : Mi) : Int := A 0 0 * (A 1 1 * A 2 2 - A 1 2 * A 2 1) - A 0 1 * (A 1 0 * A 2 2 - A 1 2 * A 2 0) + A 0 2 * (A 1 0 * A 2 1 - A 1 1 * A 2 0)
/-- z divides all of them -/
def zd1 (A : Mi) (z : Int) : Prop := ∀ a b, z ∣ A a b
def zd2 (A : Mi) (z : Int) : Prop := ∀ a b c d, z ∣ mnr2 A a b c d
/-- changes -/
def swo (i j : Nat) (A : Mi) : Mi := fun a b => A (if a = i then j else if a = j then i else a) b
def ngr (i : Nat) (A : Mi) : Mi := fun a b => if a = i then -A a b else A a b
def adr (i j : Nat) (x : Int) (A : Mi) : Mi := fun a b => if a = i then A a b + x * A j b else A a b
def tpm (A : Mi) : Mi := fun a b => A b a
section PMX
variable {A B D : Mi} {i j a b c d : Nat} {x z : Int}
theorem dv_lin {p q : Int} (h1 : z ∣ p) (h2 : z ∣ q) : z ∣ p + x * q := by
  obtain ⟨u, rfl⟩ := h1
  obtain ⟨v, rfl⟩ := h2
  exact ⟨u + x * v, by grind⟩
theorem swo_swo : swo i j (swo i j A) = A := by
  funext a b
  unfold swo
  congr 1
  (repeat' split) <;> omega
theorem ngr_ngr : ngr i (ngr i A) = A := by
  funext a b
  unfold ngr
  by_cases e : a = i
  · rw [if_pos e, if_pos e]; omega
  · rw [if_neg e, if_neg e]
theorem adr_adr (h : i ≠ j) : adr i j (-x) (adr i j x A) = A := by
  funext a b
  unfold adr
  rw [if_neg (show ¬ j = i from fun e => h e.symm)]
  by_cases e : a = i
  · rw [if_pos e, if_pos e]; grind
  · rw [if_neg e, if_neg e]
theorem zd1_sw (h : zd1 A z) : zd1 (swo i j A) z := fun a b => h _ _
theorem zd1_ng (h : zd1 A z) : zd1 (ngr i A) z := fun a b => by
  unfold ngr
  split
  · exact Int.dvd_neg.mpr (h a b)
  · exact h a b
theorem zd1_ad (h : zd1 A z) : zd1 (adr i j x A) z := fun a b => by
  unfold adr
  split
  · exact dv_lin (h a b) (h j b)
  · exact h a b
theorem zd1_tp (h : zd1 A z) : zd1 (tpm A) z := fun a b => h b a
theorem zd2_sw (h : zd2 A z) : zd2 (swo i j A) z := fun a b c d => h _ _ c d
theorem zd2_ng (h : zd2 A z) : zd2 (ngr i A) z := fun a b c d => by
  obtain ⟨k, hk⟩ := h a b c d
  unfold mnr2 at hk
  unfold mnr2 ngr
  by_cases e1 : a = i
  · by_cases e2 : b = i
    · rw [if_pos e1, if_pos e2, if_pos e1, if_pos e2]
      exact ⟨k, by grind⟩
    · rw [if_pos e1, if_neg e2, if_pos e1, if_neg e2]
      exact ⟨-k, by grind⟩
  · by_cases e2 : b = i
    · rw [if_neg e1, if_pos e2, if_neg e1, if_pos e2]
      exact ⟨-k, by grind⟩
    · rw [if_neg e1, if_neg e2, if_neg e1, if_neg e2]
      exact ⟨k, hk⟩
theorem zd2_ad (h : zd2 A z) : zd2 (adr i j x A) z := fun a b c d => by
  have h1 := h a b c d
  unfold mnr2 at h1
  unfold mnr2 adr
  by_cases e1 : a = i
  · by_cases e2 : b = i
    · rw [if_pos e1, if_pos e2, if_pos e1, if_pos e2, e1, e2]
      exact ⟨0, by grind⟩
    · have h2 := dv_lin (x := x) h1 (h j b c d)
      unfold mnr2 at h2
      rw [if_pos e1, if_neg e2, if_pos e1, if_neg e2]
      obtain ⟨k, hk⟩ := h2
      exact ⟨k, by grind⟩
  · by_cases e2 : b = i
    · have h2 := dv_lin (x := x) h1 (h a j c d)
      unfold mnr2 at h2
      rw [if_neg e1, if_pos e2, if_neg e1, if_pos e2]
      obtain ⟨k, hk⟩ := h2
      exact ⟨k, by grind⟩
    · rw [if_neg e1, if_neg e2, if_neg e1, if_neg e2]
      exact h1
theorem zd2_tp (h : zd2 A z) : zd2 (tpm A) z := fun a b c d => by
  have h1 := h c d a b
  unfold mnr2 at h1
  unfold mnr2 tpm
  obtain ⟨k, hk⟩ := h1
  exact ⟨k, by grind⟩
theorem l3 {i : Nat} (h : i < 3) : i = 0 ∨ i = 1 ∨ i = 2 := by omega
theorem m3_sw (hi : i < 3) (hj : j < 3) (h : i ≠ j) : mnr3 (swo i j A) = -mnr3 A := by
  rcases l3 hi with rfl | rfl | rfl <;> rcases l3 hj with rfl | rfl | rfl <;> first | (exfalso; omega) | (simp [mnr3, swo]; grind)
theorem m3_ng (hi : i < 3) : mnr3 (ngr i A) = -mnr3 A := by
  rcases l3 hi with rfl | rfl | rfl <;> (simp [mnr3, ngr]; grind)
theorem m3_ad (hi : i < 3) (hj : j < 3) (h : i ≠ j) : mnr3 (adr i j x A) = mnr3 A := by
  rcases l3 hi with rfl | rfl | rfl <;> rcases l3 hj with rfl | rfl | rfl <;> first | (exfalso; omega) | (simp [mnr3, adr]; grind)
theorem m3_tp : mnr3 (tpm A) = mnr3 A := by
  unfold mnr3 tpm
  grind
/-- what divides the minors is the same; the determinant is, but for its sign -/
def Zq (B A : Mi) : Prop := (∀ z, zd1 A z ↔ zd1 B z) ∧ (∀ z, zd2 A z ↔ zd2 B z) ∧ (mnr3 A = mnr3 B ∨ mnr3 A = -mnr3 B)
theorem Zq_rf : Zq A A := ⟨fun _ => Iff.rfl, fun _ => Iff.rfl, Or.inl rfl⟩
theorem Zq_tr (h1 : Zq B A) (h2 : Zq A D) : Zq B D := ⟨fun z => (h2.1 z).trans (h1.1 z), fun z => (h2.2.1 z).trans (h1.2.1 z), by
  rcases h1.2.2 with e1 | e1 <;> rcases h2.2.2 with e2 | e2 <;> rw [e2, e1] <;> first | exact Or.inl rfl | exact Or.inr rfl | (left; omega)⟩
theorem Zq_sw (hi : i < 3) (hj : j < 3) (h : i ≠ j) : Zq A (swo i j A) := ⟨fun z => ⟨fun h => by have := zd1_sw (i := i) (j := j) h; rw [swo_swo] at this; exact this, zd1_sw⟩, fun z => ⟨fun h => by have := zd2_sw (i := i) (j := j) h; rw [swo_swo] at this; exact this, zd2_sw⟩, Or.inr (m3_sw hi hj h)⟩
theorem Zq_ng (hi : i < 3) : Zq A (ngr i A) := ⟨fun z => ⟨fun h => by have := zd1_ng (i := i) h; rw [ngr_ngr] at this; exact this, zd1_ng⟩, fun z => ⟨fun h => by have := zd2_ng (i := i) h; rw [ngr_ngr] at this; exact this, zd2_ng⟩, Or.inr (m3_ng hi)⟩
theorem Zq_ad (hi : i < 3) (hj : j < 3) (h : i ≠ j) : Zq A (adr i j x A) := ⟨fun z => ⟨fun g => by have := zd1_ad (i := i) (j := j) (x := -x) g; rw [adr_adr h] at this; exact this, zd1_ad⟩, fun z => ⟨fun g => by have := zd2_ad (i := i) (j := j) (x := -x) g; rw [adr_adr h] at this; exact this, zd2_ad⟩, Or.inl (m3_ad hi hj h)⟩
theorem Zq_tp (h : Zq B A) : Zq (tpm B) (tpm A) := by
  have t : ∀ M : Mi, tpm (tpm M) = M := fun _ => rfl
  refine ⟨fun z => ⟨fun g => zd1_tp ((h.1 z).mp (by have := zd1_tp g; rw [t] at this; exact this)), fun g => zd1_tp ((h.1 z).mpr (by have := zd1_tp g; rw [t] at this; exact this))⟩, fun z => ⟨fun g => zd2_tp ((h.2.1 z).mp (by have := zd2_tp g; rw [t] at this; exact this)), fun g => zd2_tp ((h.2.1 z).mpr (by have := zd2_tp g; rw [t] at this; exact this))⟩, ?_⟩
  rw [m3_tp, m3_tp]
  exact h.2.2
theorem Zq_tt (h : Zq (tpm B) A) : Zq B (tpm A) := Zq_tp h
end PMX
/-- a table's numbers; 0 beyond it -/
def mxi (R C : Nat) (w : Nat → Int64) : Mi := fun a b => if a < R ∧ b < C then (w (a * 5 + b)).toInt else 0
section PMY
variable {R C i j : Nat} {w : Nat → Int64} {x : Int64}
theorem mxi_p {a b : Nat} (h : a < R ∧ b < C) : mxi R C w a b = (w (a * 5 + b)).toInt := if_pos h
theorem mxi_n {a b : Nat} (h : ¬ (a < R ∧ b < C)) : mxi R C w a b = 0 := if_neg h
theorem mxi_xr (hC : C ≤ 5) (hi : i < R) (hj : j < R) : mxi R C (xr C i j w) = swo i j (mxi R C w) := by
  funext a b
  unfold swo
  by_cases h : a < R ∧ b < C
  · rw [mxi_p h, mxi_p (by (repeat' split) <;> omega)]
    unfold xr
    by_cases e1 : a = i
    · rw [if_pos (by omega), if_pos e1]; congr 2; omega
    · by_cases e2 : a = j
      · rw [if_neg (by omega), if_pos (by omega), if_neg e1, if_pos e2]; congr 2; omega
      · rw [if_neg (by omega), if_neg (by omega), if_neg e1, if_neg e2]
  · rw [mxi_n h, mxi_n (by (repeat' split) <;> omega)]
theorem mxi_tr (hC : C ≤ 5) (hw : ∀ k, k < R * 5 → ng (w k)) : mxi R C (tr C i w) = ngr i (mxi R C w) := by
  funext a b
  unfold ngr
  by_cases h : a < R ∧ b < C
  · rw [mxi_p h, mxi_p h]
    unfold tr
    by_cases e1 : a = i
    · rw [if_pos (by omega), if_pos e1, neg_int (hw _ (by omega))]
    · rw [if_neg (by omega), if_neg e1]
  · rw [mxi_n h, mxi_n h]
    split <;> rfl
theorem mad_t {y z : Int64} (hy : ng y) (hz : ng z) (hx : tb9 x) : (y + x * z).toInt = y.toInt + x.toInt * z.toInt := (mad_int hy hz hx.1 hx.2).1
theorem mxi_ar (hC : C ≤ 5) (hi : i < R) (hj : j < R) (hw : ∀ k, k < R * 5 → ng (w k)) (hx : tb9 x) : mxi R C (ar C i j x w) = adr i j x.toInt (mxi R C w) := by
  funext a b
  unfold adr
  by_cases h : a < R ∧ b < C
  · rw [mxi_p h, mxi_p h]
    unfold ar
    by_cases e1 : a = i
    · rw [if_pos (by omega), if_pos e1, mxi_p ⟨hj, h.2⟩, show (a * 5 + b) % 5 = b by omega, mad_t (hw _ (by omega)) (hw _ (by omega)) hx]
    · rw [if_neg (by omega), if_neg e1]
  · rw [mxi_n h, mxi_n h]
    by_cases e1 : a = i
    · rw [if_pos e1, mxi_n (a := j) (b := b) (fun z => h ⟨by omega, z.2⟩)]; omega
    · rw [if_neg e1]
theorem mxi_xc (hC : C ≤ 5) (hi : i < C) (hj : j < C) : mxi R C (xc R i j w) = tpm (swo i j (tpm (mxi R C w))) := by
  funext a b
  show mxi R C (xc R i j w) a b = mxi R C w a (if b = i then j else if b = j then i else b)
  by_cases h : a < R ∧ b < C
  · rw [mxi_p h, mxi_p (by (repeat' split) <;> omega)]
    unfold xc
    by_cases e1 : b = i
    · rw [if_pos (by omega), if_pos e1]; congr 2; omega
    · by_cases e2 : b = j
      · rw [if_neg (by omega), if_pos (by omega), if_neg e1, if_pos e2]; congr 2; omega
      · rw [if_neg (by omega), if_neg (by omega), if_neg e1, if_neg e2]
  · rw [mxi_n h, mxi_n (by (repeat' split) <;> omega)]
theorem mxi_ac (hC : C ≤ 5) (hi : i < C) (hj : j < C) (hw : ∀ k, k < R * 5 → ng (w k)) (hx : tb9 x) : mxi R C (ac R i j x w) = tpm (adr i j x.toInt (tpm (mxi R C w))) := by
  funext a b
  show mxi R C (ac R i j x w) a b = if b = i then mxi R C w a b + x.toInt * mxi R C w a j else mxi R C w a b
  by_cases h : a < R ∧ b < C
  · rw [mxi_p h, mxi_p h]
    unfold ac
    by_cases e1 : b = i
    · rw [if_pos (by omega), if_pos e1, mxi_p ⟨h.1, hj⟩, show (a * 5 + b) / 5 = a by omega, mad_t (hw _ (by omega)) (hw _ (by omega)) hx]
    · rw [if_neg (by omega), if_neg e1]
  · rw [mxi_n h, mxi_n h]
    by_cases e1 : b = i
    · rw [if_pos e1, mxi_n (a := a) (b := j) (fun z => h ⟨z.1, by omega⟩)]; omega
    · rw [if_neg e1]
/-- the changes of both kinds of steps -/
theorem Zq_xr (hR : R ≤ 3) (hC : C ≤ 5) (hi : i < R) (hj : j < R) (h : i ≠ j) : Zq (mxi R C w) (mxi R C (xr C i j w)) := by
  rw [mxi_xr hC hi hj]; exact Zq_sw (by omega) (by omega) h
theorem Zq_tr' (hR : R ≤ 3) (hC : C ≤ 5) (hi : i < R) (hw : ∀ k, k < R * 5 → ng (w k)) : Zq (mxi R C w) (mxi R C (tr C i w)) := by
  rw [mxi_tr hC hw]; exact Zq_ng (by omega)
theorem Zq_ar (hR : R ≤ 3) (hC : C ≤ 5) (hi : i < R) (hj : j < R) (h : i ≠ j) (hw : ∀ k, k < R * 5 → ng (w k)) (hx : tb9 x) : Zq (mxi R C w) (mxi R C (ar C i j x w)) := by
  rw [mxi_ar hC hi hj hw hx]; exact Zq_ad (by omega) (by omega) h
theorem Zq_xc (hC : C ≤ 3) (hi : i < C) (hj : j < C) (h : i ≠ j) : Zq (mxi R C w) (mxi R C (xc R i j w)) := by
  rw [mxi_xc (by omega) hi hj]; exact Zq_tt (Zq_sw (by omega) (by omega) h)
theorem Zq_ac (hC : C ≤ 3) (hi : i < C) (hj : j < C) (h : i ≠ j) (hw : ∀ k, k < R * 5 → ng (w k)) (hx : tb9 x) : Zq (mxi R C w) (mxi R C (ac R i j x w)) := by
  rw [mxi_ac (by omega) hi hj hw hx]; exact Zq_tt (Zq_ad (by omega) (by omega) h)
end PMY
