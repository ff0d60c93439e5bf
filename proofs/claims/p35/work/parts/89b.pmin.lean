/-! ===== Minors of both sides are the same ===== -/
section PMN
variable {r q : Nat → Int32} {f : Nat → Nat → Int64} {i R C x y ρ : Nat} {F G rec rec' : Nat → Int64}
theorem mf_cg {n : Nat} (h0 : ∀ j, j < n → F (ρ * 5 + j) = G (ρ * 5 + j)) (h : ∀ j, j < n → ¬ y / 2 ^ j % 2 = 0 → rec (y - 2 ^ j) = rec' (y - 2 ^ j)) : mfold F rec ρ y n = mfold G rec' ρ y n := by
  induction n with
  | zero => rfl
  | succ n ih =>
    rw [mf_s, mf_s, ih (fun j hj => h0 j (by omega)) (fun j hj => h j (by omega))]
    by_cases e : y / 2 ^ n % 2 = 0
    · rw [if_pos e, if_pos e]
    · rw [if_neg e, if_neg e, h n (by omega) e, h0 n (by omega)]
theorem mf_ext {n m : Nat} (hnm : n ≤ m) (h : ∀ j, n ≤ j → j < m → y / 2 ^ j % 2 = 0) : mfold F rec ρ y m = mfold F rec ρ y n := by
  induction m with
  | zero => rw [show n = 0 by omega]
  | succ m ih =>
    by_cases e : n = m + 1
    · rw [e]
    · rw [mf_s, if_pos (h m (by omega) (by omega))]
      exact ih (by omega) (fun j h1 h2 => h j h1 (by omega))
/-- the class's minors: so many rows are left -/
def oR (F : Nat → Int64) : Nat → Nat → Nat → Int64
  | 0, _, _ => 1
  | k + 1, x, y => if x / 2 ^ (3 - k) % 2 = 0 then oR F k x y else (mfold F (oR F k x) (3 - k) y 5).1
theorem bit1 {b : Nat} (h : ¬ b % 2 = 0) : ¬ nI (b % 2) = 0 := by
  rw [show b % 2 = 1 by omega]; decide
theorem bit0 {b : Nat} (h : b % 2 = 0) : nI (b % 2) = 0 := by
  rw [h]; rfl
theorem ofr_0 : D_X0_ofRest_0 r q f i (nI x) (nI y) (nI 4) = oR (f i) 0 x y := by
  unfold D_X0_ofRest_0
  rw [if_neg (show ¬ nI 4 < (4 : Int32) by decide)]
  rfl
theorem ofl_1 (hr : ∀ y', y' < 32 → D_X0_ofRest_0 r q f i (nI x) (nI y') (nI 3 + 1) = oR (f i) 0 x y') (hy : y < 32) : ∀ n j : Nat, j ≤ 5 → 5 - j < n → ∀ (d : Int32) (s : Int64), s = (mfold (f i) (oR (f i) 0 x) 3 y j).1 → (d = 0 ∧ (mfold (f i) (oR (f i) 0 x) 3 y j).2 = 1 ∨ d = 1 ∧ (mfold (f i) (oR (f i) 0 x) 3 y j).2 = -1) → D_X0_ofRest_1_34 r q f i (nI x) (nI y) (nI 3) n (nI j) d s = (mfold (f i) (oR (f i) 0 x) 3 y 5).1 := by
  intro n
  induction n with
  | zero => intro j _ h; omega
  | succ n ih =>
    intro j hj hn d s hs hd
    rw [D_X0_ofRest_1_34_s]
    by_cases e : 5 ≤ j
    · rw [if_pos (show (5 : Int32) ≤ nI j from ile (a := 5) e (by omega)), hs, show j = 5 by omega]
    · rw [if_neg (nile5 (by omega)), fmb y hy j (by omega)]
      by_cases c : y / 2 ^ j % 2 = 0
      · rw [if_pos (bit0 c), s1]
        exact ih (j + 1) (by omega) (by omega) d s (by rw [mf_s, if_pos c]; exact hs) (by rw [mf_s, if_pos c]; exact hd)
      · rw [if_neg (bit1 c), bnd1_e, bnd1_e, cget (show 3 < 4 by decide) (show j < 5 by omega), fmc y hy j (by omega) c, hr (y - 2 ^ j) (Nat.lt_of_le_of_lt (Nat.sub_le _ _) hy)]
        have h3 := mf_s (f := f i) (rec := oR (f i) 0 x) (r := 3) (y := y) (j := j)
        rw [if_neg c] at h3
        rcases hd with ⟨rfl, hd⟩ | ⟨rfl, hd⟩
        · rw [if_pos rfl, D_X0_ofRest_1_j90_s, if_pos rfl, s1]
          refine ih (j + 1) (by omega) (by omega) 1 _ ?_ (Or.inr ⟨rfl, ?_⟩)
          · rw [h3, hd, t64a, hs]
            grind
          · rw [h3, hd]
        · rw [if_neg one0, D_X0_ofRest_1_j90_s, if_neg one0, s1]
          refine ih (j + 1) (by omega) (by omega) 0 _ ?_ (Or.inl ⟨rfl, ?_⟩)
          · rw [h3, hd, t64b, hs]
            grind
          · rw [h3, hd]
            exact (by decide : -(-1 : Int32) = 1)
theorem ofr_1 (hx : x < 16) (hy : y < 32) : D_X0_ofRest_1 r q f i (nI x) (nI y) (nI 3) = oR (f i) 1 x y := by
  unfold D_X0_ofRest_1
  have hr : ∀ y', y' < 32 → D_X0_ofRest_0 r q f i (nI x) (nI y') (nI 3 + 1) = oR (f i) 0 x y' := fun y' h' => by
    rw [s1]; exact ofr_0
  rw [if_pos (show nI 3 < (4 : Int32) by decide), fmb x (by omega) 3 (by decide)]
  show _ = if x / 2 ^ 3 % 2 = 0 then oR (f i) 0 x y else (mfold (f i) (oR (f i) 0 x) 3 y 5).1
  by_cases c : x / 2 ^ 3 % 2 = 0
  · rw [if_pos (bit0 c), if_pos c, bnd1_e]
    exact hr y hy
  · rw [if_neg (bit1 c), if_neg c, show gap 5 0 = 5 from gapN (a := 5) (b := 0) (by omega) (by omega)]
    exact ofl_1 hr hy (5 + 1) 0 (by omega) (by omega) 0 0 rfl (Or.inl ⟨rfl, rfl⟩)
theorem ofl_2 (hr : ∀ y', y' < 32 → D_X0_ofRest_1 r q f i (nI x) (nI y') (nI 2 + 1) = oR (f i) 1 x y') (hy : y < 32) : ∀ n j : Nat, j ≤ 5 → 5 - j < n → ∀ (d : Int32) (s : Int64), s = (mfold (f i) (oR (f i) 1 x) 2 y j).1 → (d = 0 ∧ (mfold (f i) (oR (f i) 1 x) 2 y j).2 = 1 ∨ d = 1 ∧ (mfold (f i) (oR (f i) 1 x) 2 y j).2 = -1) → D_X0_ofRest_2_34 r q f i (nI x) (nI y) (nI 2) n (nI j) d s = (mfold (f i) (oR (f i) 1 x) 2 y 5).1 := by
  intro n
  induction n with
  | zero => intro j _ h; omega
  | succ n ih =>
    intro j hj hn d s hs hd
    rw [D_X0_ofRest_2_34_s]
    by_cases e : 5 ≤ j
    · rw [if_pos (show (5 : Int32) ≤ nI j from ile (a := 5) e (by omega)), hs, show j = 5 by omega]
    · rw [if_neg (nile5 (by omega)), fmb y hy j (by omega)]
      by_cases c : y / 2 ^ j % 2 = 0
      · rw [if_pos (bit0 c), s1]
        exact ih (j + 1) (by omega) (by omega) d s (by rw [mf_s, if_pos c]; exact hs) (by rw [mf_s, if_pos c]; exact hd)
      · rw [if_neg (bit1 c), bnd1_e, bnd1_e, cget (show 2 < 4 by decide) (show j < 5 by omega), fmc y hy j (by omega) c, hr (y - 2 ^ j) (Nat.lt_of_le_of_lt (Nat.sub_le _ _) hy)]
        have h3 := mf_s (f := f i) (rec := oR (f i) 1 x) (r := 2) (y := y) (j := j)
        rw [if_neg c] at h3
        rcases hd with ⟨rfl, hd⟩ | ⟨rfl, hd⟩
        · rw [if_pos rfl, D_X0_ofRest_2_j90_s, if_pos rfl, s1]
          refine ih (j + 1) (by omega) (by omega) 1 _ ?_ (Or.inr ⟨rfl, ?_⟩)
          · rw [h3, hd, t64a, hs]
            grind
          · rw [h3, hd]
        · rw [if_neg one0, D_X0_ofRest_2_j90_s, if_neg one0, s1]
          refine ih (j + 1) (by omega) (by omega) 0 _ ?_ (Or.inl ⟨rfl, ?_⟩)
          · rw [h3, hd, t64b, hs]
            grind
          · rw [h3, hd]
            exact (by decide : -(-1 : Int32) = 1)
theorem ofr_2 (hx : x < 16) (hy : y < 32) : D_X0_ofRest_2 r q f i (nI x) (nI y) (nI 2) = oR (f i) 2 x y := by
  unfold D_X0_ofRest_2
  have hr : ∀ y', y' < 32 → D_X0_ofRest_1 r q f i (nI x) (nI y') (nI 2 + 1) = oR (f i) 1 x y' := fun y' h' => by
    rw [s1]; exact ofr_1 hx h'
  rw [if_pos (show nI 2 < (4 : Int32) by decide), fmb x (by omega) 2 (by decide)]
  show _ = if x / 2 ^ 2 % 2 = 0 then oR (f i) 1 x y else (mfold (f i) (oR (f i) 1 x) 2 y 5).1
  by_cases c : x / 2 ^ 2 % 2 = 0
  · rw [if_pos (bit0 c), if_pos c, bnd1_e]
    exact hr y hy
  · rw [if_neg (bit1 c), if_neg c, show gap 5 0 = 5 from gapN (a := 5) (b := 0) (by omega) (by omega)]
    exact ofl_2 hr hy (5 + 1) 0 (by omega) (by omega) 0 0 rfl (Or.inl ⟨rfl, rfl⟩)
theorem ofl_3 (hr : ∀ y', y' < 32 → D_X0_ofRest_2 r q f i (nI x) (nI y') (nI 1 + 1) = oR (f i) 2 x y') (hy : y < 32) : ∀ n j : Nat, j ≤ 5 → 5 - j < n → ∀ (d : Int32) (s : Int64), s = (mfold (f i) (oR (f i) 2 x) 1 y j).1 → (d = 0 ∧ (mfold (f i) (oR (f i) 2 x) 1 y j).2 = 1 ∨ d = 1 ∧ (mfold (f i) (oR (f i) 2 x) 1 y j).2 = -1) → D_X0_ofRest_3_34 r q f i (nI x) (nI y) (nI 1) n (nI j) d s = (mfold (f i) (oR (f i) 2 x) 1 y 5).1 := by
  intro n
  induction n with
  | zero => intro j _ h; omega
  | succ n ih =>
    intro j hj hn d s hs hd
    rw [D_X0_ofRest_3_34_s]
    by_cases e : 5 ≤ j
    · rw [if_pos (show (5 : Int32) ≤ nI j from ile (a := 5) e (by omega)), hs, show j = 5 by omega]
    · rw [if_neg (nile5 (by omega)), fmb y hy j (by omega)]
      by_cases c : y / 2 ^ j % 2 = 0
      · rw [if_pos (bit0 c), s1]
        exact ih (j + 1) (by omega) (by omega) d s (by rw [mf_s, if_pos c]; exact hs) (by rw [mf_s, if_pos c]; exact hd)
      · rw [if_neg (bit1 c), bnd1_e, bnd1_e, cget (show 1 < 4 by decide) (show j < 5 by omega), fmc y hy j (by omega) c, hr (y - 2 ^ j) (Nat.lt_of_le_of_lt (Nat.sub_le _ _) hy)]
        have h3 := mf_s (f := f i) (rec := oR (f i) 2 x) (r := 1) (y := y) (j := j)
        rw [if_neg c] at h3
        rcases hd with ⟨rfl, hd⟩ | ⟨rfl, hd⟩
        · rw [if_pos rfl, D_X0_ofRest_3_j90_s, if_pos rfl, s1]
          refine ih (j + 1) (by omega) (by omega) 1 _ ?_ (Or.inr ⟨rfl, ?_⟩)
          · rw [h3, hd, t64a, hs]
            grind
          · rw [h3, hd]
        · rw [if_neg one0, D_X0_ofRest_3_j90_s, if_neg one0, s1]
          refine ih (j + 1) (by omega) (by omega) 0 _ ?_ (Or.inl ⟨rfl, ?_⟩)
          · rw [h3, hd, t64b, hs]
            grind
          · rw [h3, hd]
            exact (by decide : -(-1 : Int32) = 1)
theorem ofr_3 (hx : x < 16) (hy : y < 32) : D_X0_ofRest_3 r q f i (nI x) (nI y) (nI 1) = oR (f i) 3 x y := by
  unfold D_X0_ofRest_3
  have hr : ∀ y', y' < 32 → D_X0_ofRest_2 r q f i (nI x) (nI y') (nI 1 + 1) = oR (f i) 2 x y' := fun y' h' => by
    rw [s1]; exact ofr_2 hx h'
  rw [if_pos (show nI 1 < (4 : Int32) by decide), fmb x (by omega) 1 (by decide)]
  show _ = if x / 2 ^ 1 % 2 = 0 then oR (f i) 2 x y else (mfold (f i) (oR (f i) 2 x) 1 y 5).1
  by_cases c : x / 2 ^ 1 % 2 = 0
  · rw [if_pos (bit0 c), if_pos c, bnd1_e]
    exact hr y hy
  · rw [if_neg (bit1 c), if_neg c, show gap 5 0 = 5 from gapN (a := 5) (b := 0) (by omega) (by omega)]
    exact ofl_3 hr hy (5 + 1) 0 (by omega) (by omega) 0 0 rfl (Or.inl ⟨rfl, rfl⟩)
theorem ofl_4 (hr : ∀ y', y' < 32 → D_X0_ofRest_3 r q f i (nI x) (nI y') (nI 0 + 1) = oR (f i) 3 x y') (hy : y < 32) : ∀ n j : Nat, j ≤ 5 → 5 - j < n → ∀ (d : Int32) (s : Int64), s = (mfold (f i) (oR (f i) 3 x) 0 y j).1 → (d = 0 ∧ (mfold (f i) (oR (f i) 3 x) 0 y j).2 = 1 ∨ d = 1 ∧ (mfold (f i) (oR (f i) 3 x) 0 y j).2 = -1) → D_X0_ofRest_4_34 r q f i (nI x) (nI y) (nI 0) n (nI j) d s = (mfold (f i) (oR (f i) 3 x) 0 y 5).1 := by
  intro n
  induction n with
  | zero => intro j _ h; omega
  | succ n ih =>
    intro j hj hn d s hs hd
    rw [D_X0_ofRest_4_34_s]
    by_cases e : 5 ≤ j
    · rw [if_pos (show (5 : Int32) ≤ nI j from ile (a := 5) e (by omega)), hs, show j = 5 by omega]
    · rw [if_neg (nile5 (by omega)), fmb y hy j (by omega)]
      by_cases c : y / 2 ^ j % 2 = 0
      · rw [if_pos (bit0 c), s1]
        exact ih (j + 1) (by omega) (by omega) d s (by rw [mf_s, if_pos c]; exact hs) (by rw [mf_s, if_pos c]; exact hd)
      · rw [if_neg (bit1 c), bnd1_e, bnd1_e, cget (show 0 < 4 by decide) (show j < 5 by omega), fmc y hy j (by omega) c, hr (y - 2 ^ j) (Nat.lt_of_le_of_lt (Nat.sub_le _ _) hy)]
        have h3 := mf_s (f := f i) (rec := oR (f i) 3 x) (r := 0) (y := y) (j := j)
        rw [if_neg c] at h3
        rcases hd with ⟨rfl, hd⟩ | ⟨rfl, hd⟩
        · rw [if_pos rfl, D_X0_ofRest_4_j90_s, if_pos rfl, s1]
          refine ih (j + 1) (by omega) (by omega) 1 _ ?_ (Or.inr ⟨rfl, ?_⟩)
          · rw [h3, hd, t64a, hs]
            grind
          · rw [h3, hd]
        · rw [if_neg one0, D_X0_ofRest_4_j90_s, if_neg one0, s1]
          refine ih (j + 1) (by omega) (by omega) 0 _ ?_ (Or.inl ⟨rfl, ?_⟩)
          · rw [h3, hd, t64b, hs]
            grind
          · rw [h3, hd]
            exact (by decide : -(-1 : Int32) = 1)
theorem ofr_4 (hx : x < 16) (hy : y < 32) : D_X0_ofRest_4 r q f i (nI x) (nI y) (nI 0) = oR (f i) 4 x y := by
  unfold D_X0_ofRest_4
  have hr : ∀ y', y' < 32 → D_X0_ofRest_3 r q f i (nI x) (nI y') (nI 0 + 1) = oR (f i) 3 x y' := fun y' h' => by
    rw [s1]; exact ofr_3 hx h'
  rw [if_pos (show nI 0 < (4 : Int32) by decide), fmb x (by omega) 0 (by decide)]
  show _ = if x / 2 ^ 0 % 2 = 0 then oR (f i) 3 x y else (mfold (f i) (oR (f i) 3 x) 0 y 5).1
  by_cases c : x / 2 ^ 0 % 2 = 0
  · rw [if_pos (bit0 c), if_pos c, bnd1_e]
    exact hr y hy
  · rw [if_neg (bit1 c), if_neg c, show gap 5 0 = 5 from gapN (a := 5) (b := 0) (by omega) (by omega)]
    exact ofl_4 hr hy (5 + 1) 0 (by omega) (by omega) 0 0 rfl (Or.inl ⟨rfl, rfl⟩)
/-- the rows that are left, of a set -/
def xk (k x : Nat) : Nat := x / 2 ^ (4 - k) * 2 ^ (4 - k)
theorem xk_n : ∀ k, k < 4 → ∀ x, x < 16 → x / 2 ^ (3 - k) % 2 = 0 → xk (k + 1) x = xk k x := by decide +kernel
theorem xk_y : ∀ k, k < 4 → ∀ x, x < 16 → ¬ x / 2 ^ (3 - k) % 2 = 0 → tz (xk (k + 1) x) = 3 - k ∧ lb (xk (k + 1) x) = xk k x ∧ pc5 (xk (k + 1) x) = pc5 (xk k x) + 1 ∧ ¬ xk (k + 1) x = 0 := by decide +kernel
theorem xk_4 : ∀ x, x < 16 → xk 4 x = x := by decide +kernel
theorem xk_0 : ∀ x, x < 16 → xk 0 x = 0 := by decide +kernel
theorem pc1 : ∀ y, y < 32 → pc5 y = 1 → y = 1 ∨ y = 2 ∨ y = 4 ∨ y = 8 ∨ y = 16 := by decide +kernel
theorem or_0 : ∀ k, k ≤ 4 → ∀ x y, x < 16 → xk k x = 0 → oR F k x y = 1 := by
  intro k
  induction k with
  | zero => intro _ x y _ _; rfl
  | succ k ih =>
    intro hk x y hx h
    show (if x / 2 ^ (3 - k) % 2 = 0 then oR F k x y else (mfold F (oR F k x) (3 - k) y 5).1) = 1
    by_cases c : x / 2 ^ (3 - k) % 2 = 0
    · rw [if_pos c]
      exact ih (by omega) x y hx ((xk_n k (by omega) x hx c).symm.trans h)
    · exact absurd h (xk_y k (by omega) x hx c).2.2.2
theorem mf_one (hy : y < 32) (h : pc5 y = 1) : (mfold F (fun _ => 1) ρ y 5).1 = F (ρ * 5 + tz y) := by
  rcases pc1 y hy h with rfl | rfl | rfl | rfl | rfl <;> simp [mf_s, mf_0, tz, t64a]
theorem bits0 (hC : C ≤ 5) (hy : y < 2 ^ C) : ∀ j, C ≤ j → j < 5 → y / 2 ^ j % 2 = 0 := by
  intro j h1 _
  rw [Nat.div_eq_of_lt (Nat.lt_of_lt_of_le hy (Nat.pow_le_pow_right (by decide) h1))]
theorem or_mn (hC : C ≤ 5) : ∀ k, k ≤ 4 → ∀ x y, x < 16 → y < 2 ^ C → ¬ xk k x = 0 → pc5 (xk k x) = pc5 y → oR F k x y = mnv F C (pc5 (xk k x)) (xk k x) y := by
  intro k
  induction k with
  | zero => intro _ x y hx _ h; exact absurd (xk_0 x hx) h
  | succ k ih =>
    intro hk x y hx hy h hp
    show (if x / 2 ^ (3 - k) % 2 = 0 then oR F k x y else (mfold F (oR F k x) (3 - k) y 5).1) = _
    have y32 := p32 hC hy
    by_cases c : x / 2 ^ (3 - k) % 2 = 0
    · have e := xk_n k (by omega) x hx c
      rw [e] at h hp ⊢
      rw [if_pos c]
      exact ih (by omega) x y hx hy h hp
    · obtain ⟨t1, t2, t3, t4⟩ := xk_y k (by omega) x hx c
      rw [if_neg c, t3]
      show _ = if lb (xk (k + 1) x) = 0 then F (tz (xk (k + 1) x) * 5 + tz y) else (mfold F (mnv F C (pc5 (xk k x)) (lb (xk (k + 1) x))) (tz (xk (k + 1) x)) y C).1
      rw [t1, t2]
      by_cases z : xk k x = 0
      · rw [if_pos z, mf_cg (G := F) (rec' := fun _ => 1) (fun _ _ => rfl) (fun j _ _ => or_0 k (by omega) x _ hx z)]
        refine mf_one y32 ?_
        rw [← hp, t3, z]
        rfl
      · rw [if_neg z, mf_ext hC (bits0 hC hy)]
        refine congrArg Prod.fst (mf_cg (fun _ _ => rfl) (fun j hj hb => ?_))
        have e := fpy y y32 j (by omega) hb
        exact ih (by omega) x (y - 2 ^ j) hx (Nat.lt_of_le_of_lt (Nat.sub_le _ _) hy) z (by omega)
theorem tz_le {y : Nat} : tz y ≤ 4 := by
  unfold tz
  (repeat' split) <;> omega
theorem mnv_cg (hR : R ≤ 4) (hC : C ≤ 5) (h : ∀ k, k < R * 5 → F k = G k) : ∀ n x y, 0 < x → x < 2 ^ R → mnv F C n x y = mnv G C n x y := by
  intro n
  induction n with
  | zero => intro x y _ _; rfl
  | succ n ih =>
    intro x y h0 hx
    show (if lb x = 0 then F (tz x * 5 + tz y) else (mfold F (mnv F C n (lb x)) (tz x) y C).1) = if lb x = 0 then G (tz x * 5 + tz y) else (mfold G (mnv G C n (lb x)) (tz x) y C).1
    have t1 := fzt R (by omega) x (p32 (by omega) hx) hx h0
    by_cases e : lb x = 0
    · rw [if_pos e, if_pos e]
      have := tz_le (y := y)
      exact h _ (by omega)
    · rw [if_neg e, if_neg e]
      refine congrArg Prod.fst (mf_cg (fun j hj => h _ (by omega)) (fun j hj hb => ?_))
      exact ih _ _ (Nat.pos_of_ne_zero e) (Nat.lt_of_le_of_lt (Nat.sub_le _ _) hx)
/-- a minor of the class is one of the reference -/
theorem min_eq (hR : R ≤ 4) (hC : C ≤ 5) (h : ∀ k, k < R * 5 → f i k = G k) (h0 : 0 < x) (hx : x < 2 ^ R) (hy : y < 2 ^ C) (hp : pc5 x = pc5 y) : D_X0_ofRest_4 r q f i (nI x) (nI y) 0 = mnv G C (pc5 x) x y := by
  have x16 : x < 16 := Nat.lt_of_lt_of_le hx (Nat.pow_le_pow_right (by decide) hR : 2 ^ R ≤ 2 ^ 4)
  have e := xk_4 x x16
  have h1 := or_mn (F := f i) hC 4 (Nat.le_refl _) x y x16 hy (by rw [e]; omega) (by rw [e]; exact hp)
  rw [e] at h1
  rw [show (0 : Int32) = nI 0 from rfl, ofr_4 x16 (p32 hC hy), h1]
  exact mnv_cg hR hC h _ x y h0 hx
/-- nothing but the empty minor -/
theorem min_0 (hy : y < 32) : D_X0_ofRest_4 r q f i (nI 0) (nI y) 0 = 1 := by
  rw [show (0 : Int32) = nI 0 from rfl, ofr_4 (by decide) hy]
  exact or_0 4 (Nat.le_refl _) 0 y (by decide) (by decide)
theorem shz0 : ∀ R, R < 6 → ∀ x, x < 32 → x < 2 ^ R → (nI x) >>> ((nI R) &&& 31) = 0 := by decide +kernel
theorem shq {z : Int32} (hR : R < 6) (h1 : ¬ z < 1) : (z >>> ((nI R) &&& 31) = 0 ∧ ¬ nI (2 ^ R) ≤ z ∧ ∃ x, 0 < x ∧ x < 2 ^ R ∧ z = nI x) ∨ (¬ z >>> ((nI R) &&& 31) = 0 ∧ nI (2 ^ R) ≤ z) := by
  have p1 : 2 ^ R ≤ 2 ^ 5 := Nat.pow_le_pow_right (by decide) (by omega)
  have p2 : (2 : Nat) ^ 5 = 32 := rfl
  have h0 : ¬ z < 0 := fun h => h1 (by rw [i32_lt] at h ⊢; have : (0 : Int32).toInt = 0 := rfl; have : (1 : Int32).toInt = 1 := rfl; omega)
  obtain ⟨x, hx, rfl⟩ := nI_of h0
  by_cases e : x < 2 ^ R
  · have e2 : ¬ x = 0 := fun e => h1 (by rw [e]; decide)
    exact Or.inl ⟨shz0 R hR x (by omega) e, nile (by omega) (by omega), x, by omega, e, rfl⟩
  · refine Or.inr ⟨fun h => ?_, ile (by omega) hx⟩
    obtain ⟨k, k1, k2, k3⟩ := shr0 hR h1 h
    have := nI_inj hx (by omega) k3
    omega
end PMN
