section
-- 40.rmodel
/-! ===== The reference's object: its cells ===== -/
abbrev tb (a : Nat → Nat) : Nat → Option Nat := fun j => some (a (2 + 2 * j))
def mwE (a : Nat → Nat) (cy : Nat → ClassId) (r : Nat → Nat) (f : Nat → Nat → Int64) (q : Nat → Int32) (T : Nat → Option Nat) (k : Nat) : va_E :=
  if k = 0 then .inr (11, [.ref (a 1), .int (q 0), .int (q 1), .int (q 2), .int (q 3)])
  else if k = 1 then .inl (cy 2, 4, .inr (.inr (.inr (.inr T))))
  else if k % 2 = 0 then .inr (8, [.int (nI (r (k - 2))), .int (nI (r (k - 1))), .ref (a (k + 1))])
  else .inl (cy 0, r (k - 3) * 5, .inr (.inl (f ((k - 3) / 2))))
/-- 0 the object, 1 its tables, 2 + 2 i and 3 + 2 i the grid i -/
def mw (κ : Kt) (a : Nat → Nat) (r : Nat → Nat) (f : Nat → Nat → Int64) (q : Nat → Int32) (T : Nat → Option Nat) (w : va_W) : va_W := (List.range 10).map (fun k => (a k, mwE a κ.2.1 r f q T k)) ++ w
section MWS
variable {κ : Kt} {a r : Nat → Nat} {f f' : Nat → Nat → Int64} {q q' : Nat → Int32} {T T' : Nat → Option Nat} {w : va_W} {i : Nat}
theorem mw_at {k : Nat} (hk : k < 10) {e : va_E} (he : mwE a κ.2.1 r f q T k = e) : (mw κ a r f q T w)[k]? = some (a k, e) := by
  subst he
  unfold mw
  rw [List.getElem?_append_left (by simp; omega)]
  simp [hk]
theorem mw_tl {k : Nat} : (mw κ a r f q T w)[10 + k]? = w[k]? := by
  unfold mw
  rw [List.getElem?_append_right (by simp)]
  simp
theorem mw_set {k : Nat} (hk : k < 10) {e : va_E} (h : ∀ j, j < 10 → (if j = k then e else mwE a κ.2.1 r f q T j) = mwE a κ.2.1 r f' q' T' j) : (mw κ a r f q T w).set k (a k, e) = mw κ a r f' q' T' w := by
  unfold mw
  rw [List.set_append_left _ _ (by simp; omega)]
  congr 1
  apply List.ext_getElem?
  intro j
  simp only [List.getElem?_set, List.length_map, List.length_range, List.getElem?_map, List.getElem?_range]
  by_cases hj : j < 10
  · have h1 := h j hj
    by_cases e1 : k = j
    · subst e1
      simp only [if_true, hj] at h1 ⊢
      simp [h1, List.getElem?_range hj]
    · rw [if_neg (fun h => e1 h.symm)] at h1
      simp [e1, hj, h1]
  · by_cases e1 : k = j
    · subst e1; simp [hj]
    · simp [e1, hj]
theorem mwE_G (i : Nat) {cy : Nat → ClassId} : mwE a cy r f q T (2 + 2 * i) = .inr (8, [.int (nI (r (2 * i))), .int (nI (r (2 * i + 1))), .ref (a (3 + 2 * i))]) := by
  unfold mwE
  rw [if_neg (by omega), if_neg (by omega), if_pos (by omega), show 2 + 2 * i - 2 = 2 * i by omega, show 2 + 2 * i - 1 = 2 * i + 1 by omega, show 2 + 2 * i + 1 = 3 + 2 * i by omega]
theorem mwE_A (i : Nat) {cy : Nat → ClassId} : mwE a cy r f q T (3 + 2 * i) = .inl (cy 0, r (2 * i) * 5, .inr (.inl (f i))) := by
  unfold mwE
  rw [if_neg (by omega), if_neg (by omega), if_neg (by omega), show 3 + 2 * i - 3 = 2 * i by omega, show 2 * i / 2 = i by omega]
theorem mwG (hi : i < 4) : (mw κ a r f q T w)[2 + 2 * i]? = some (gO (a (2 + 2 * i)) (r (2 * i)) (r (2 * i + 1)) (a (3 + 2 * i))) := mw_at (by omega) (mwE_G i)
theorem mwA (hi : i < 4) : (mw κ a r f q T w)[3 + 2 * i]? = some (lA κ (a (3 + 2 * i)) (r (2 * i) * 5) (f i)) := mw_at (by omega) (mwE_A i)
theorem mw0 : (mw κ a r f q T w)[0]? = some (a 0, .inr (11, [.ref (a 1), .int (q 0), .int (q 1), .int (q 2), .int (q 3)])) := mw_at (by decide) rfl
theorem mw1 : (mw κ a r f q T w)[1]? = some (a 1, .inl (κ.2.1 2, 4, .inr (.inr (.inr (.inr T))))) := mw_at (by decide) rfl
theorem mwUL (hi : i < 4) (g : Nat → Int64) : wU κ (mw κ a r f q T w) (3 + 2 * i) (a (3 + 2 * i)) (r (2 * i) * 5) g = mw κ a r (va_up f i g) q T w := by
  refine mw_set (by omega) (fun j hj => ?_)
  by_cases e1 : j = 3 + 2 * i
  · subst e1; rw [if_pos rfl, mwE_A]; simp [va_up]
  · rw [if_neg e1]
    unfold mwE va_up
    repeat' split
    all_goals first | rfl | omega | (simp; omega)
theorem mwQ0 (x : Int32) : (mw κ a r f q T w).set 0 (a 0, .inr (11, [.ref (a 1), .int x, .int (q 1), .int (q 2), .int (q 3)])) = mw κ a r f (va_up q 0 x) T w := by
  refine mw_set (by decide) (fun j hj => ?_)
  unfold mwE va_up
  repeat' split
  all_goals first | rfl | omega
theorem mwQ1 (x : Int32) : (mw κ a r f q T w).set 0 (a 0, .inr (11, [.ref (a 1), .int (q 0), .int x, .int (q 2), .int (q 3)])) = mw κ a r f (va_up q 1 x) T w := by
  refine mw_set (by decide) (fun j hj => ?_)
  unfold mwE va_up
  repeat' split
  all_goals first | rfl | omega
theorem mwQ2 (x : Int32) : (mw κ a r f q T w).set 0 (a 0, .inr (11, [.ref (a 1), .int (q 0), .int (q 1), .int x, .int (q 3)])) = mw κ a r f (va_up q 2 x) T w := by
  refine mw_set (by decide) (fun j hj => ?_)
  unfold mwE va_up
  repeat' split
  all_goals first | rfl | omega
theorem mwQ3 (x : Int32) : (mw κ a r f q T w).set 0 (a 0, .inr (11, [.ref (a 1), .int (q 0), .int (q 1), .int (q 2), .int x])) = mw κ a r f (va_up q 3 x) T w := by
  refine mw_set (by decide) (fun j hj => ?_)
  unfold mwE va_up
  repeat' split
  all_goals first | rfl | omega
theorem mwST (T1 : Nat → Option Nat) : (mw κ a r f q T w).set 1 (a 1, .inl (κ.2.1 2, 4, .inr (.inr (.inr (.inr T1))))) = mw κ a r f q T1 w := by
  refine mw_set (by decide) (fun j hj => ?_)
  unfold mwE
  repeat' split
  all_goals first | rfl | omega
end MWS
section MWB
variable {s : State} {H : Heap} {locs : List Loc} {A : Nat → Prop} {κ : Kt} {a r : Nat → Nat} {f : Nat → Nat → Int64} {q : Nat → Int32} {w : va_W} {t u g b R C : Nat} {F : Nat → Int64}
theorem Bd_del (n : Nat) (hB : Bd κ A s w H locs) : Bd κ A s (w.eraseIdx n) H locs := by
  refine Bd_pick (fun k => if k < n then k else k + 1) (fun i j h => ?_) (fun k x h => ?_) hB
  · repeat' split at h
    all_goals omega
  · rw [List.getElem?_eraseIdx] at h
    by_cases e : k < n
    · rw [if_pos e] at h ⊢; exact h
    · rw [if_neg e] at h ⊢; exact h
/-- a new grid has come to the table t -/
theorem Bd_repl (ht : t < 4) (hB : Bd κ A s (lA κ b (R * 5) F :: gO g R C b :: mw κ a r f q (va_up (tb a) t (some g)) w) H locs) : Bd κ A s (mw κ (va_up (va_up a (2 + 2 * t) g) (3 + 2 * t) b) (va_up (va_up r (2 * t) R) (2 * t + 1) C) (va_up f t F) q (tb (va_up (va_up a (2 + 2 * t) g) (3 + 2 * t) b)) w) H locs := by
  refine Bd_pick (fun k => if k = 2 + 2 * t then 1 else if k = 3 + 2 * t then 0 else k + 2) (fun i j h => ?_) (fun k x h => ?_) hB
  · repeat' split at h
    all_goals omega
  · by_cases hk : k < 10
    · rw [mw_at hk rfl] at h
      by_cases e1 : k = 2 + 2 * t
      · subst e1
        rw [if_pos rfl]
        rw [mwE_G] at h
        show some (gO g R C b) = some x
        rw [← h]
        simp [va_up]
      · by_cases e2 : k = 3 + 2 * t
        · subst e2
          rw [if_neg (by omega), if_pos rfl]
          rw [mwE_A] at h
          show some (lA κ b (R * 5) F) = some x
          rw [← h]
          simp [va_up]
        · rw [if_neg e1, if_neg e2]
          show (mw κ a r f q (va_up (tb a) t (some g)) w)[k]? = some x
          rw [mw_at hk rfl, ← h]
          have hT : va_up (tb a) t (some g) = tb (va_up (va_up a (2 + 2 * t) g) (3 + 2 * t) b) := by
            funext j
            by_cases ej : j = t
            · subst ej; simp [va_up]
            · simp [va_up, ej]
              rw [if_neg (by omega), if_neg (by omega)]
          rw [hT]
          congr 2
          · simp [va_up, e1, e2]
          · unfold mwE
            have z1 : (1 : Nat) ≠ 2 + 2 * t := by omega
            have z2 : (1 : Nat) ≠ 3 + 2 * t := by omega
            by_cases k0 : k = 0
            · rw [if_pos k0, if_pos k0]; simp [va_up, z1, z2]
            · rw [if_neg k0, if_neg k0]
              by_cases k1 : k = 1
              · rw [if_pos k1, if_pos k1]
              · rw [if_neg k1, if_neg k1]
                by_cases k2 : k % 2 = 0
                · rw [if_pos k2, if_pos k2]
                  have z3 : k + 1 ≠ 2 + 2 * t := by omega
                  have z4 : k + 1 ≠ 3 + 2 * t := by omega
                  have z5 : k - 2 ≠ 2 * t + 1 := by omega
                  have z6 : k - 2 ≠ 2 * t := by omega
                  have z7 : k - 1 ≠ 2 * t + 1 := by omega
                  have z8 : k - 1 ≠ 2 * t := by omega
                  simp [va_up, z3, z4, z5, z6, z7, z8]
                · rw [if_neg k2, if_neg k2]
                  have z5 : k - 3 ≠ 2 * t + 1 := by omega
                  have z6 : k - 3 ≠ 2 * t := by omega
                  have z7 : (k - 3) / 2 ≠ t := by omega
                  simp [va_up, z5, z6, z7]
    · obtain ⟨d, rfl⟩ : ∃ d, k = 10 + d := ⟨k - 10, by omega⟩
      rw [mw_tl] at h
      rw [if_neg (by omega), if_neg (by omega)]
      show (mw κ a r f q (va_up (tb a) t (some g)) w)[10 + d]? = some x
      rw [mw_tl]
      exact h
/-- two tables' grids change places -/
def sw2 (t u : Nat) (k : Nat) : Nat := if k = 2 + 2 * t then 2 + 2 * u else if k = 3 + 2 * t then 3 + 2 * u else if k = 2 + 2 * u then 2 + 2 * t else if k = 3 + 2 * u then 3 + 2 * t else k
def swr (t u : Nat) (k : Nat) : Nat := if k / 2 = t then 2 * u + k % 2 else if k / 2 = u then 2 * t + k % 2 else k
def sw1 (t u : Nat) (k : Nat) : Nat := if k = t then u else if k = u then t else k
theorem Bd_swap (ht : t < 4) (hu : u < 4) (hB : Bd κ A s (mw κ a r f q (va_up (va_up (tb a) t (some (a (2 + 2 * u)))) u (some (a (2 + 2 * t)))) w) H locs) : Bd κ A s (mw κ (fun k => a (sw2 t u k)) (fun k => r (swr t u k)) (fun k => f (sw1 t u k)) q (tb (fun k => a (sw2 t u k))) w) H locs := by
  refine Bd_pick (fun k => sw2 t u k) (fun i j h => ?_) (fun k x h => ?_) hB
  · unfold sw2 at h
    repeat' split at h
    all_goals omega
  · by_cases hk : k < 10
    · have hk2 : sw2 t u k < 10 := by unfold sw2; (repeat' split) <;> omega
      rw [mw_at hk rfl] at h
      rw [mw_at hk2 rfl, ← h]
      congr 2
      by_cases k0 : k = 0
      · subst k0
        have e0 : sw2 t u 0 = 0 := by unfold sw2; (repeat' split) <;> omega
        have e1 : sw2 t u 1 = 1 := by unfold sw2; (repeat' split) <;> omega
        simp [mwE, e0, e1]
      · by_cases k1 : k = 1
        · subst k1
          have e1 : sw2 t u 1 = 1 := by unfold sw2; (repeat' split) <;> omega
          have hT : va_up (va_up (tb a) t (some (a (2 + 2 * u)))) u (some (a (2 + 2 * t))) = tb (fun k => a (sw2 t u k)) := by
            funext j
            unfold va_up sw2
            by_cases j1 : j = u
            · subst j1
              by_cases j2 : j = t
              · subst j2; simp
              · rw [if_pos rfl]
                show some (a (2 + 2 * t)) = some (a _)
                rw [if_neg (by omega), if_neg (by omega), if_pos rfl]
            · rw [if_neg j1]
              by_cases j2 : j = t
              · subst j2; simp
              · rw [if_neg j2]
                show some (a (2 + 2 * j)) = some (a _)
                rw [if_neg (by omega), if_neg (by omega), if_neg (by omega), if_neg (by omega)]
          rw [hT]
          simp only [mwE, e1]
          rfl
        · obtain ⟨j, hj⟩ : ∃ j, k = 2 + 2 * j ∨ k = 3 + 2 * j := ⟨(k - 2) / 2, by omega⟩
          rcases hj with rfl | rfl
          · have e1 : sw2 t u (2 + 2 * j) = 2 + 2 * sw1 t u j := by unfold sw2 sw1; (repeat' split) <;> omega
            have e2 : sw2 t u (3 + 2 * j) = 3 + 2 * sw1 t u j := by unfold sw2 sw1; (repeat' split) <;> omega
            have e3 : swr t u (2 * j) = 2 * sw1 t u j := by unfold swr sw1; (repeat' split) <;> omega
            have e4 : swr t u (2 * j + 1) = 2 * sw1 t u j + 1 := by unfold swr sw1; (repeat' split) <;> omega
            rw [e1, mwE_G, mwE_G, e2, e3, e4]
          · have e2 : sw2 t u (3 + 2 * j) = 3 + 2 * sw1 t u j := by unfold sw2 sw1; (repeat' split) <;> omega
            have e3 : swr t u (2 * j) = 2 * sw1 t u j := by unfold swr sw1; (repeat' split) <;> omega
            rw [e2, mwE_A, mwE_A, e3]
    · obtain ⟨d, rfl⟩ : ∃ d, k = 10 + d := ⟨k - 10, by omega⟩
      have e1 : sw2 t u (10 + d) = 10 + d := by unfold sw2; (repeat' split) <;> omega
      rw [mw_tl] at h
      rw [e1, mw_tl]
      exact h
end MWB
/-- what the tables of the reference keep -/
def mok (r : Nat → Nat) (f : Nat → Nat → Int64) : Prop := ∀ i, i < 4 → (1 ≤ r (2 * i) ∧ r (2 * i) ≤ 4 ∧ 1 ≤ r (2 * i + 1) ∧ r (2 * i + 1) ≤ 4) ∧ ∀ k, k < r (2 * i) * 5 → sm (f i k)
section MOK
variable {r : Nat → Nat} {f : Nat → Nat → Int64} {t u i R C : Nat} {F : Nat → Int64}
theorem mok_shp (h : mok r f) (hi : i < 4) : shp (r (2 * i)) (r (2 * i + 1)) := ⟨(h i hi).1.1, (h i hi).1.2.1, (h i hi).1.2.2.1, by have := (h i hi).1.2.2.2; omega⟩
theorem mok_repl (h : mok r f) (hR : 1 ≤ R ∧ R ≤ 4 ∧ 1 ≤ C ∧ C ≤ 4) (hF : ∀ k, k < R * 5 → sm (F k)) : mok (va_up (va_up r (2 * t) R) (2 * t + 1) C) (va_up f t F) := by
  intro j hj
  by_cases e : j = t
  · subst e
    have e1 : va_up (va_up r (2 * j) R) (2 * j + 1) C (2 * j) = R := by unfold va_up; rw [if_neg (by omega), if_pos rfl]
    have e2 : va_up (va_up r (2 * j) R) (2 * j + 1) C (2 * j + 1) = C := by unfold va_up; rw [if_pos rfl]
    have e3 : va_up f j F j = F := by unfold va_up; rw [if_pos rfl]
    rw [e1, e2, e3]
    exact ⟨hR, hF⟩
  · have e1 : va_up (va_up r (2 * t) R) (2 * t + 1) C (2 * j) = r (2 * j) := by unfold va_up; rw [if_neg (by omega), if_neg (by omega)]
    have e2 : va_up (va_up r (2 * t) R) (2 * t + 1) C (2 * j + 1) = r (2 * j + 1) := by unfold va_up; rw [if_neg (by omega), if_neg (by omega)]
    have e3 : va_up f t F j = f j := by unfold va_up; rw [if_neg e]
    rw [e1, e2, e3]
    exact h j hj
theorem mok_f (h : mok r f) (hF : ∀ k, k < r (2 * t) * 5 → sm (F k)) : mok r (va_up f t F) := by
  intro j hj
  by_cases e : j = t
  · subst e
    have e3 : va_up f j F j = F := by unfold va_up; rw [if_pos rfl]
    rw [e3]
    exact ⟨(h j hj).1, hF⟩
  · have e3 : va_up f t F j = f j := by unfold va_up; rw [if_neg e]
    rw [e3]
    exact h j hj
theorem mok_swap (h : mok r f) (ht : t < 4) (hu : u < 4) : mok (fun k => r (swr t u k)) (fun k => f (sw1 t u k)) := by
  intro j hj
  have e3 : swr t u (2 * j) = 2 * sw1 t u j := by unfold swr sw1; (repeat' split) <;> omega
  have e4 : swr t u (2 * j + 1) = 2 * sw1 t u j + 1 := by unfold swr sw1; (repeat' split) <;> omega
  have e5 : sw1 t u j < 4 := by unfold sw1; (repeat' split) <;> omega
  show (1 ≤ r (swr t u (2 * j)) ∧ r (swr t u (2 * j)) ≤ 4 ∧ 1 ≤ r (swr t u (2 * j + 1)) ∧ r (swr t u (2 * j + 1)) ≤ 4) ∧ ∀ k, k < r (swr t u (2 * j)) * 5 → sm (f (sw1 t u j) k)
  rw [e3, e4]
  exact h _ e5
end MOK
theorem sm_ng {x : Int64} (h : sm x) : ng x := by
  have h1 := Int64.le_iff_toInt_le.mp h.1
  have h2 := Int64.le_iff_toInt_le.mp h.2
  refine ⟨Int64.le_iff_toInt_le.mpr ?_, Int64.le_iff_toInt_le.mpr ?_⟩
  · exact Int.le_trans (by decide) h1
  · exact Int.le_trans h2 (by decide)
theorem vp_in_mk {x : Int32} {n : Nat} (h0 : 0 ≤ x) (h1 : x.toNatClampNeg < n) : vp_in x n := fun h => h.elim (fun z => absurd z (Int32.not_lt.mpr h0)) (fun z => absurd h1 (by omega))
end
section
-- 41.rmdx
theorem nlt_of {x : Int32} {n : Nat} (h0 : ¬ x < 0) (hn : n < 2 ^ 31) (h : ¬ nI n ≤ x) : x.toNatClampNeg < n := by
  obtain ⟨j, hj, rfl⟩ := nI_of h0
  rw [nI_leI hn hj] at h
  rw [nI_clamp hj]
  omega
theorem wset0 {w : va_W} {k : Nat} {c : Nat × va_E} (h : w[k]? = some c) : w.set k c = w := by
  apply List.ext_getElem?
  intro j
  by_cases e1 : k = j
  · subst e1
    rw [List.getElem?_set_self (List.getElem?_eq_some_iff.mp h).1, h]
  · rw [List.getElem?_set_ne e1]
theorem wset1 {w : va_W} {k : Nat} {c d : Nat × va_E} (h : w[k]? = some c) : (w.set k d)[k]? = some d := List.getElem?_set_self (List.getElem?_eq_some_iff.mp h).1
def thr (b1 b2 b3 : Int32) : Int32 := if b1 = 0 ∧ b2 = 0 ∧ b3 = 0 then 0 else 1
theorem thr_0 {b1 b2 b3 : Int32} (h1 : b1 = 0) (h2 : b2 = 0) (h3 : b3 = 0) : 0 = thr b1 b2 b3 := by unfold thr; rw [if_pos ⟨h1, h2, h3⟩]
theorem thr_1 {b1 b2 b3 : Int32} (h : ¬ b1 = 0) : 1 = thr b1 b2 b3 := by unfold thr; rw [if_neg (fun z => h z.1)]
theorem thr_2 {b1 b2 b3 : Int32} (h : ¬ b2 = 0) : 1 = thr b1 b2 b3 := by unfold thr; rw [if_neg (fun z => h z.2.1)]
theorem thr_3 {b1 b2 b3 : Int32} (h : ¬ b3 = 0) : 1 = thr b1 b2 b3 := by unfold thr; rw [if_neg (fun z => h z.2.2)]
theorem thr_cases {x b1 b2 b3 : Int32} (h : x = thr b1 b2 b3) : x = 0 ∧ b1 = 0 ∧ b2 = 0 ∧ b3 = 0 ∨ x = 1 ∧ ¬ (b1 = 0 ∧ b2 = 0 ∧ b3 = 0) := by
  unfold thr at h
  by_cases c : b1 = 0 ∧ b2 = 0 ∧ b3 = 0
  · rw [if_pos c] at h; exact Or.inl ⟨h, c⟩
  · rw [if_neg c] at h; exact Or.inr ⟨h, c⟩
theorem thr_01 {x b1 b2 b3 : Int32} (h : x = thr b1 b2 b3) : x = 0 ∨ x = 1 := (thr_cases h).elim (fun z => Or.inl z.1) (fun z => Or.inr z.1)
theorem in_4 {x : Int32} (h0 : ¬ x < 0) (h1 : ¬ 4 ≤ x) : (1 : Int32) = 1 ∧ 0 ≤ x ∧ x.toNatClampNeg < 4 := by
  obtain ⟨j, h2, rfl⟩ := nI_of h0
  have h1 : ¬ nI 4 ≤ nI j := h1
  rw [nI_leI (by omega) h2] at h1
  rw [nI_clamp h2]
  exact ⟨rfl, nI_pos' h2, by omega⟩
theorem in_s {x : Int32} (h0 : ¬ x < 1) (h1 : ¬ 4 < x) : (1 : Int32) = 1 ∧ 0 ≤ x ∧ 1 ≤ x.toNatClampNeg ∧ x.toNatClampNeg ≤ 4 := by
  have hn : ¬ x < 0 := fun z => h0 (Int32.lt_trans z (by decide))
  obtain ⟨j, h2, rfl⟩ := nI_of hn
  have h1 : ¬ nI 4 < nI j := h1
  have h0 : ¬ nI j < nI 1 := h0
  rw [nI_ltI (by omega) h2] at h1
  rw [nI_ltI h2 (by omega)] at h0
  rw [nI_clamp h2]
  exact ⟨rfl, nI_pos' h2, by omega, by omega⟩
theorem Bd_eq {s : State} {H : Heap} {locs : List Loc} {A : Nat → Prop} {κ : Kt} {w w1 : va_W} (e : w = w1) (hB : Bd κ A s w H locs) : Bd κ A s w1 H locs := e ▸ hB

noncomputable def D_X10_isThrown (i1 : Int32) (i2 : Int32) (i3 : Int32) (i4 : Int32) (b1 : Int32) (b2 : Int32) (b3 : Int32) : Int32 × Int32 := (if b1 = 0 then (if b2 = 0 then (if b3 = 0 then (0, 0) else (1, 3)) else (1, 2)) else (1, 1))
theorem D_X10_isThrown_s {i1 : Int32} {i2 : Int32} {i3 : Int32} {i4 : Int32} {b1 : Int32} {b2 : Int32} {b3 : Int32} : D_X10_isThrown i1 i2 i3 i4 b1 b2 b3 = (if b1 = 0 then (if b2 = 0 then (if b3 = 0 then (0, 0) else (1, 3)) else (1, 2)) else (1, 1)) := rfl
set_option maxHeartbeats 4000000 in
set_option maxRecDepth 100000 in
theorem k_X10_isThrown (κ : Kt) (l : Launch) (w : va_W) (k0 x0 t0 : Nat) (i1 i2 i3 i4 : Int32) (b1 : Int32) (b2 : Int32) (b3 : Int32) (h0 : w[k0]? = some (x0, .inr (11, [.ref t0, .int i1, .int i2, .int i3, .int i4]))) (o_x : Int32) (o_tv : Int32) (hR : D_X10_isThrown i1 i2 i3 i4 b1 b2 b3 = (o_x, o_tv)) : CM κ l yX10_isThrown cX10_isThrown 4 (some .boolean) 0 0 0 0 [.ref x0, .int b1, .int b2, .int b3] (w) (fun o w' => o = some (.int o_x) ∧ (o_x = thr b1 b2 b3) ∧ w' = w.set k0 (x0, .inr (11, [.ref t0, .int i1, .int i2, .int i3, .int o_tv]))) := by
  refine CM_begin (plainFor_of_name pn_RX10) (Nat.le_of_ble_eq_true rfl) ?_
  intro p e s m args below meth c A Q hX hnm hA3 hQ hB ls hl
  have hx := hX.1.1
  have hb := hX.1.2.1
  have hl : lv_has ls 4 [(0, .ref x0), (1, .int b1), (2, .int b2), (3, .int b3)] := hl
  have hB : Bd κ A s (w.set k0 (x0, .inr (11, [.ref t0, .int i1, .int i2, .int i3, .int i4]))) s.heap [] := by rw [wset0 h0]; exact hB
  replace hR := (D_X10_isThrown_s).symm.trans hR
  refine lv_aload_n hx hb dX10_isThrown_0 rfl (lv_at hl 0 rfl) ?_
  refine lv_iload_n hx hb dX10_isThrown_1 rfl (lv_at hl 1 rfl) ?_
  refine lv_if_eq (tgt := 9) hx hb dX10_isThrown_2 (by decide) (fun c1 => ?_) (fun c1 => ?_)
  · replace hR := ifp c1 hR
    refine lv_iload_n hx hb dX10_isThrown_9 rfl (lv_at hl 2 rfl) ?_
    refine lv_if_eq (tgt := 17) hx hb dX10_isThrown_10 (by decide) (fun c2 => ?_) (fun c2 => ?_)
    · replace hR := ifp c2 hR
      refine lv_iload_n hx hb dX10_isThrown_17 rfl (lv_at hl 3 rfl) ?_
      refine lv_if_eq (tgt := 25) hx hb dX10_isThrown_18 (by decide) (fun c3 => ?_) (fun c3 => ?_)
      · replace hR := ifp c3 hR
        refine lv_iconst (v := 0) hx hb dX10_isThrown_25 (by decide) ?_
        refine pf (ty := .int) (k0 := k0) hX hB (wset1 h0) rfl in10 tyX10_ok nmX10 4 (by decide) wm_5_166 rfl rfl rfl rfl rfl (Nat.le_of_ble_eq_true rfl) (w1 := w.set k0 (x0, .inr (11, [.ref t0, .int i1, .int i2, .int i3, .int 0]))) (List.set_set _) dX10_isThrown_26 (fun H locs hB => ?_)
        refine lv_aload_n hx hb dX10_isThrown_29 rfl (lv_at hl 0 rfl) ?_
        refine gf (k0 := k0) hX hB (wset1 h0) rfl in10 4 (by decide) wm_5_166 rfl rfl dX10_isThrown_30 ?_
        refine lv_if_le (tgt := 40) hx hb dX10_isThrown_33 (by decide) (fun _ => ?_) (fun c4 => False.elim (by revert c4; decide))
        refine lv_iconst (v := 0) hx hb dX10_isThrown_40 (by decide) ?_
        rw [← hQ]
        exact end_i hX hB hA3 rfl rfl (by obtain ⟨rfl, rfl⟩ := pr2 hR; exact ⟨rfl, (by first | exact thr_0 (by assumption) (by assumption) (by assumption) | exact thr_1 (by assumption) | exact thr_2 (by assumption) | exact thr_3 (by assumption)), rfl⟩) (Nat.le_of_ble_eq_true rfl) (Nat.le_of_ble_eq_true rfl) dX10_isThrown_41
      · replace hR := ifn c3 hR
        refine lv_iconst (v := 3) hx hb dX10_isThrown_21 (by decide) ?_
        refine lv_goto (tgt := 26) hx hb dX10_isThrown_22 (by decide) ?_
        refine pf (ty := .int) (k0 := k0) hX hB (wset1 h0) rfl in10 tyX10_ok nmX10 4 (by decide) wm_5_166 rfl rfl rfl rfl rfl (Nat.le_of_ble_eq_true rfl) (w1 := w.set k0 (x0, .inr (11, [.ref t0, .int i1, .int i2, .int i3, .int 3]))) (List.set_set _) dX10_isThrown_26 (fun H locs hB => ?_)
        refine lv_aload_n hx hb dX10_isThrown_29 rfl (lv_at hl 0 rfl) ?_
        refine gf (k0 := k0) hX hB (wset1 h0) rfl in10 4 (by decide) wm_5_166 rfl rfl dX10_isThrown_30 ?_
        refine lv_if_le (tgt := 40) hx hb dX10_isThrown_33 (by decide) (fun c5 => False.elim (by revert c5; decide)) (fun _ => ?_)
        refine lv_iconst (v := 1) hx hb dX10_isThrown_36 (by decide) ?_
        refine lv_goto (tgt := 41) hx hb dX10_isThrown_37 (by decide) ?_
        rw [← hQ]
        exact end_i hX hB hA3 rfl rfl (by obtain ⟨rfl, rfl⟩ := pr2 hR; exact ⟨rfl, (by first | exact thr_0 (by assumption) (by assumption) (by assumption) | exact thr_1 (by assumption) | exact thr_2 (by assumption) | exact thr_3 (by assumption)), rfl⟩) (Nat.le_of_ble_eq_true rfl) (Nat.le_of_ble_eq_true rfl) dX10_isThrown_41
    · replace hR := ifn c2 hR
      refine lv_iconst (v := 2) hx hb dX10_isThrown_13 (by decide) ?_
      refine lv_goto (tgt := 26) hx hb dX10_isThrown_14 (by decide) ?_
      refine pf (ty := .int) (k0 := k0) hX hB (wset1 h0) rfl in10 tyX10_ok nmX10 4 (by decide) wm_5_166 rfl rfl rfl rfl rfl (Nat.le_of_ble_eq_true rfl) (w1 := w.set k0 (x0, .inr (11, [.ref t0, .int i1, .int i2, .int i3, .int 2]))) (List.set_set _) dX10_isThrown_26 (fun H locs hB => ?_)
      refine lv_aload_n hx hb dX10_isThrown_29 rfl (lv_at hl 0 rfl) ?_
      refine gf (k0 := k0) hX hB (wset1 h0) rfl in10 4 (by decide) wm_5_166 rfl rfl dX10_isThrown_30 ?_
      refine lv_if_le (tgt := 40) hx hb dX10_isThrown_33 (by decide) (fun c6 => False.elim (by revert c6; decide)) (fun _ => ?_)
      refine lv_iconst (v := 1) hx hb dX10_isThrown_36 (by decide) ?_
      refine lv_goto (tgt := 41) hx hb dX10_isThrown_37 (by decide) ?_
      rw [← hQ]
      exact end_i hX hB hA3 rfl rfl (by obtain ⟨rfl, rfl⟩ := pr2 hR; exact ⟨rfl, (by first | exact thr_0 (by assumption) (by assumption) (by assumption) | exact thr_1 (by assumption) | exact thr_2 (by assumption) | exact thr_3 (by assumption)), rfl⟩) (Nat.le_of_ble_eq_true rfl) (Nat.le_of_ble_eq_true rfl) dX10_isThrown_41
  · replace hR := ifn c1 hR
    refine lv_iconst (v := 1) hx hb dX10_isThrown_5 (by decide) ?_
    refine lv_goto (tgt := 26) hx hb dX10_isThrown_6 (by decide) ?_
    refine pf (ty := .int) (k0 := k0) hX hB (wset1 h0) rfl in10 tyX10_ok nmX10 4 (by decide) wm_5_166 rfl rfl rfl rfl rfl (Nat.le_of_ble_eq_true rfl) (w1 := w.set k0 (x0, .inr (11, [.ref t0, .int i1, .int i2, .int i3, .int 1]))) (List.set_set _) dX10_isThrown_26 (fun H locs hB => ?_)
    refine lv_aload_n hx hb dX10_isThrown_29 rfl (lv_at hl 0 rfl) ?_
    refine gf (k0 := k0) hX hB (wset1 h0) rfl in10 4 (by decide) wm_5_166 rfl rfl dX10_isThrown_30 ?_
    refine lv_if_le (tgt := 40) hx hb dX10_isThrown_33 (by decide) (fun c7 => False.elim (by revert c7; decide)) (fun _ => ?_)
    refine lv_iconst (v := 1) hx hb dX10_isThrown_36 (by decide) ?_
    refine lv_goto (tgt := 41) hx hb dX10_isThrown_37 (by decide) ?_
    rw [← hQ]
    exact end_i hX hB hA3 rfl rfl (by obtain ⟨rfl, rfl⟩ := pr2 hR; exact ⟨rfl, (by first | exact thr_0 (by assumption) (by assumption) (by assumption) | exact thr_1 (by assumption) | exact thr_2 (by assumption) | exact thr_3 (by assumption)), rfl⟩) (Nat.le_of_ble_eq_true rfl) (Nat.le_of_ble_eq_true rfl) dX10_isThrown_41
noncomputable def D_X10_isThrown_ (i1 : Int32) (i2 : Int32) (i3 : Int32) (i4 : Int32) (b1 : Int32) (b2 : Int32) : Int32 × Int32 := bnd2 (D_X10_isThrown i1 i2 i3 i4 b1 b2 0) (fun (x1 : Int32) (t2 : Int32) => (x1, t2))
theorem D_X10_isThrown__s {i1 : Int32} {i2 : Int32} {i3 : Int32} {i4 : Int32} {b1 : Int32} {b2 : Int32} : D_X10_isThrown_ i1 i2 i3 i4 b1 b2 = bnd2 (D_X10_isThrown i1 i2 i3 i4 b1 b2 0) (fun (x1 : Int32) (t2 : Int32) => (x1, t2)) := rfl
set_option maxHeartbeats 4000000 in
set_option maxRecDepth 100000 in
theorem k_X10_isThrown_ (κ : Kt) (l : Launch) (w : va_W) (k0 x0 t0 : Nat) (i1 i2 i3 i4 : Int32) (b1 : Int32) (b2 : Int32) (h0 : w[k0]? = some (x0, .inr (11, [.ref t0, .int i1, .int i2, .int i3, .int i4]))) (o_x : Int32) (o_tv : Int32) (hR : D_X10_isThrown_ i1 i2 i3 i4 b1 b2 = (o_x, o_tv)) : CM κ l yX10_isThrown_ cX10_isThrown_ 3 (some .boolean) 1 23 0 0 [.ref x0, .int b1, .int b2] (w) (fun o w' => o = some (.int o_x) ∧ (o_x = thr b1 b2 0) ∧ w' = w.set k0 (x0, .inr (11, [.ref t0, .int i1, .int i2, .int i3, .int o_tv]))) := by
  refine CM_begin (plainFor_of_name pn_RX10) (Nat.le_of_ble_eq_true rfl) ?_
  intro p e s m args below meth c A Q hX hnm hA3 hQ hB ls hl
  have hx := hX.1.1
  have hb := hX.1.2.1
  have hl : lv_has ls 3 [(0, .ref x0), (1, .int b1), (2, .int b2)] := hl
  have hB : Bd κ A s (w.set k0 (x0, .inr (11, [.ref t0, .int i1, .int i2, .int i3, .int i4]))) s.heap [] := by rw [wset0 h0]; exact hB
  replace hR := (D_X10_isThrown__s).symm.trans hR
  refine lv_aload_n hx hb dX10_isThrown__0 rfl (lv_at hl 0 rfl) ?_
  refine lv_iload_n hx hb dX10_isThrown__1 rfl (lv_at hl 1 rfl) ?_
  refine lv_iload_n hx hb dX10_isThrown__2 rfl (lv_at hl 2 rfl) ?_
  refine lv_iconst (v := 0) hx hb dX10_isThrown__3 (by decide) ?_
  obtain ⟨x1, t2, hd3⟩ := ex2 (D_X10_isThrown i1 i2 i3 i4 b1 b2 0)
  replace hR := bnd2_use hd3 hR
  refine call_V (n := 3) (k0 := k0) (As := [.int b1, .int b2, .int 0]) (rest := []) hX hB (k_X10_isThrown κ l (w.set k0 (x0, .inr (11, [.ref t0, .int i1, .int i2, .int i3, .int i4]))) k0 x0 t0 i1 i2 i3 i4 b1 b2 0 (wset1 h0) x1 t2 hd3) ⟨rfl, yk_X10_isThrown⟩ wm_5_196 wm_5_198 wp_28 wm_1_6 wm_5_199 ⟨Nat.le_of_ble_eq_true rfl, Nat.le_of_ble_eq_true rfl⟩ ⟨Nat.le_of_ble_eq_true rfl, Nat.le_of_ble_eq_true rfl⟩ (wset1 h0) rfl rfl rfl hl.1 rfl (Nat.le_of_ble_eq_true rfl) dX10_isThrown__4 (fun o w' H locs hp hB => ?_)
  obtain ⟨rfl, hf4, hw9⟩ := hp
  replace hB : Bd κ A s (w.set k0 (x0, .inr (11, [.ref t0, .int i1, .int i2, .int i3, .int t2]))) H locs := by rw [hw9, List.set_set] at hB; exact hB
  refine W.eq (g2 := F0 m 7 ls [.int x1]) rfl ?_
  rw [← hQ]
  exact end_i hX hB hA3 rfl (nbz (thr_01 hf4)) (by obtain ⟨rfl, rfl⟩ := pr2 hR; exact ⟨rfl, hf4, rfl⟩) (Nat.le_of_ble_eq_true rfl) (Nat.le_of_ble_eq_true rfl) dX10_isThrown__7
noncomputable def D_X10_isThrown__ (i1 : Int32) (i2 : Int32) (i3 : Int32) (i4 : Int32) (b1 : Int32) : Int32 × Int32 := bnd2 (D_X10_isThrown i1 i2 i3 i4 b1 0 0) (fun (x1 : Int32) (t2 : Int32) => (x1, t2))
theorem D_X10_isThrown___s {i1 : Int32} {i2 : Int32} {i3 : Int32} {i4 : Int32} {b1 : Int32} : D_X10_isThrown__ i1 i2 i3 i4 b1 = bnd2 (D_X10_isThrown i1 i2 i3 i4 b1 0 0) (fun (x1 : Int32) (t2 : Int32) => (x1, t2)) := rfl
set_option maxHeartbeats 4000000 in
set_option maxRecDepth 100000 in
theorem k_X10_isThrown__ (κ : Kt) (l : Launch) (w : va_W) (k0 x0 t0 : Nat) (i1 i2 i3 i4 : Int32) (b1 : Int32) (h0 : w[k0]? = some (x0, .inr (11, [.ref t0, .int i1, .int i2, .int i3, .int i4]))) (o_x : Int32) (o_tv : Int32) (hR : D_X10_isThrown__ i1 i2 i3 i4 b1 = (o_x, o_tv)) : CM κ l yX10_isThrown__ cX10_isThrown__ 2 (some .boolean) 1 23 0 0 [.ref x0, .int b1] (w) (fun o w' => o = some (.int o_x) ∧ (o_x = thr b1 0 0) ∧ w' = w.set k0 (x0, .inr (11, [.ref t0, .int i1, .int i2, .int i3, .int o_tv]))) := by
  refine CM_begin (plainFor_of_name pn_RX10) (Nat.le_of_ble_eq_true rfl) ?_
  intro p e s m args below meth c A Q hX hnm hA3 hQ hB ls hl
  have hx := hX.1.1
  have hb := hX.1.2.1
  have hl : lv_has ls 2 [(0, .ref x0), (1, .int b1)] := hl
  have hB : Bd κ A s (w.set k0 (x0, .inr (11, [.ref t0, .int i1, .int i2, .int i3, .int i4]))) s.heap [] := by rw [wset0 h0]; exact hB
  replace hR := (D_X10_isThrown___s).symm.trans hR
  refine lv_aload_n hx hb dX10_isThrown___0 rfl (lv_at hl 0 rfl) ?_
  refine lv_iload_n hx hb dX10_isThrown___1 rfl (lv_at hl 1 rfl) ?_
  refine lv_iconst (v := 0) hx hb dX10_isThrown___2 (by decide) ?_
  refine lv_iconst (v := 0) hx hb dX10_isThrown___3 (by decide) ?_
  obtain ⟨x1, t2, hd3⟩ := ex2 (D_X10_isThrown i1 i2 i3 i4 b1 0 0)
  replace hR := bnd2_use hd3 hR
  refine call_V (n := 3) (k0 := k0) (As := [.int b1, .int 0, .int 0]) (rest := []) hX hB (k_X10_isThrown κ l (w.set k0 (x0, .inr (11, [.ref t0, .int i1, .int i2, .int i3, .int i4]))) k0 x0 t0 i1 i2 i3 i4 b1 0 0 (wset1 h0) x1 t2 hd3) ⟨rfl, yk_X10_isThrown⟩ wm_5_196 wm_5_198 wp_28 wm_1_6 wm_5_199 ⟨Nat.le_of_ble_eq_true rfl, Nat.le_of_ble_eq_true rfl⟩ ⟨Nat.le_of_ble_eq_true rfl, Nat.le_of_ble_eq_true rfl⟩ (wset1 h0) rfl rfl rfl hl.1 rfl (Nat.le_of_ble_eq_true rfl) dX10_isThrown___4 (fun o w' H locs hp hB => ?_)
  obtain ⟨rfl, hf4, hw9⟩ := hp
  replace hB : Bd κ A s (w.set k0 (x0, .inr (11, [.ref t0, .int i1, .int i2, .int i3, .int t2]))) H locs := by rw [hw9, List.set_set] at hB; exact hB
  refine W.eq (g2 := F0 m 7 ls [.int x1]) rfl ?_
  rw [← hQ]
  exact end_i hX hB hA3 rfl (nbz (thr_01 hf4)) (by obtain ⟨rfl, rfl⟩ := pr2 hR; exact ⟨rfl, hf4, rfl⟩) (Nat.le_of_ble_eq_true rfl) (Nat.le_of_ble_eq_true rfl) dX10_isThrown___7
set_option maxHeartbeats 4000000 in
set_option maxRecDepth 100000 in
theorem k_X10_told (κ : Kt) (l : Launch) (w : va_W) (k0 x0 t0 : Nat) (i1 i2 i3 i4 : Int32) (x : Int32) (h0 : w[k0]? = some (x0, .inr (11, [.ref t0, .int i1, .int i2, .int i3, .int i4]))) : CM κ l yX10_told cX10_told 2 (some .int) 0 0 0 0 [.ref x0, .int x] (w) (fun o w' => o = some (.int x) ∧ w' = w.set k0 (x0, .inr (11, [.ref t0, .int (i1 + 1), .int i2, .int i3, .int i4]))) := by
  refine CM_begin (plainFor_of_name pn_RX10) (Nat.le_of_ble_eq_true rfl) ?_
  intro p e s m args below meth c A Q hX hnm hA3 hQ hB ls hl
  have hx := hX.1.1
  have hb := hX.1.2.1
  have hl : lv_has ls 2 [(0, .ref x0), (1, .int x)] := hl
  have hB : Bd κ A s (w.set k0 (x0, .inr (11, [.ref t0, .int i1, .int i2, .int i3, .int i4]))) s.heap [] := by rw [wset0 h0]; exact hB
  refine lv_aload_n hx hb dX10_told_0 rfl (lv_at hl 0 rfl) ?_
  refine lv_dup hx hb dX10_told_1 rfl ?_
  refine gf (k0 := k0) hX hB (wset1 h0) rfl in10 1 (by decide) wm_5_163 rfl rfl dX10_told_2 ?_
  refine lv_iconst (v := 1) hx hb dX10_told_5 (by decide) ?_
  refine lv_iadd hx hb dX10_told_6 ?_
  refine pf (ty := .int) (k0 := k0) hX hB (wset1 h0) rfl in10 tyX10_ok nmX10 1 (by decide) wm_5_163 rfl rfl rfl rfl rfl (Nat.le_of_ble_eq_true rfl) (w1 := w.set k0 (x0, .inr (11, [.ref t0, .int (i1 + 1), .int i2, .int i3, .int i4]))) (List.set_set _) dX10_told_7 (fun H locs hB => ?_)
  refine lv_iload_n hx hb dX10_told_10 rfl (lv_at hl 1 rfl) ?_
  rw [← hQ]
  exact end_i hX hB hA3 rfl rfl ⟨rfl, rfl⟩ (Nat.le_of_ble_eq_true rfl) (Nat.le_of_ble_eq_true rfl) dX10_told_11
set_option maxHeartbeats 4000000 in
set_option maxRecDepth 100000 in
theorem k_X10_no (κ : Kt) (l : Launch) (w : va_W) (k0 x0 t0 : Nat) (i1 i2 i3 i4 : Int32) (h0 : w[k0]? = some (x0, .inr (11, [.ref t0, .int i1, .int i2, .int i3, .int i4]))) : CM κ l yX10_no cX10_no 1 (some .int) 0 0 0 0 [.ref x0] (w) (fun o w' => o = some (.int (-9)) ∧ w' = w.set k0 (x0, .inr (11, [.ref t0, .int i1, .int (i2 + 1), .int i3, .int i4]))) := by
  refine CM_begin (plainFor_of_name pn_RX10) (Nat.le_of_ble_eq_true rfl) ?_
  intro p e s m args below meth c A Q hX hnm hA3 hQ hB ls hl
  have hx := hX.1.1
  have hb := hX.1.2.1
  have hl : lv_has ls 1 [(0, .ref x0)] := hl
  have hB : Bd κ A s (w.set k0 (x0, .inr (11, [.ref t0, .int i1, .int i2, .int i3, .int i4]))) s.heap [] := by rw [wset0 h0]; exact hB
  refine lv_aload_n hx hb dX10_no_0 rfl (lv_at hl 0 rfl) ?_
  refine lv_dup hx hb dX10_no_1 rfl ?_
  refine gf (k0 := k0) hX hB (wset1 h0) rfl in10 2 (by decide) wm_5_164 rfl rfl dX10_no_2 ?_
  refine lv_iconst (v := 1) hx hb dX10_no_5 (by decide) ?_
  refine lv_iadd hx hb dX10_no_6 ?_
  refine pf (ty := .int) (k0 := k0) hX hB (wset1 h0) rfl in10 tyX10_ok nmX10 2 (by decide) wm_5_164 rfl rfl rfl rfl rfl (Nat.le_of_ble_eq_true rfl) (w1 := w.set k0 (x0, .inr (11, [.ref t0, .int i1, .int (i2 + 1), .int i3, .int i4]))) (List.set_set _) dX10_no_7 (fun H locs hB => ?_)
  refine lv_bipush (v := (-9)) hx hb dX10_no_10 (by decide) ?_
  rw [← hQ]
  exact end_i hX hB hA3 rfl rfl ⟨rfl, rfl⟩ (Nat.le_of_ble_eq_true rfl) (Nat.le_of_ble_eq_true rfl) dX10_no_12
noncomputable def D_X10_isTable (x : Int32) : Int32 := (if x < 0 then 0 else (if 4 ≤ x then 0 else 1))
theorem D_X10_isTable_s {x : Int32} : D_X10_isTable x = (if x < 0 then 0 else (if 4 ≤ x then 0 else 1)) := rfl
set_option maxHeartbeats 4000000 in
set_option maxRecDepth 100000 in
theorem k_X10_isTable (κ : Kt) (l : Launch) (w : va_W) (x : Int32)  (o_z : Int32) (hR : D_X10_isTable x = o_z) : CM κ l yX10_isTable cX10_isTable 1 (some .boolean) 0 0 0 0 [.int x] (w) (fun o w' => o = some (.int o_z) ∧ (o_z = 0 ∨ o_z = 1 ∧ 0 ≤ x ∧ x.toNatClampNeg < 4) ∧ w' = w) := by
  refine CM_begin (plainFor_of_name pn_RX10) (Nat.le_of_ble_eq_true rfl) ?_
  intro p e s m args below meth c A Q hX hnm hA3 hQ hB ls hl
  have hx := hX.1.1
  have hb := hX.1.2.1
  have hl : lv_has ls 1 [(0, .int x)] := hl
  replace hR := (D_X10_isTable_s).symm.trans hR
  refine lv_iload_n hx hb dX10_isTable_0 rfl (lv_at hl 0 rfl) ?_
  refine lv_if_lt (tgt := 13) hx hb dX10_isTable_1 (by decide) (fun c1 => ?_) (fun c1 => ?_)
  · replace hR := ifp c1 hR
    refine lv_iconst (v := 0) hx hb dX10_isTable_13 (by decide) ?_
    rw [← hQ]
    exact end_i hX hB hA3 rfl rfl (by obtain rfl := hR; exact ⟨rfl, Or.inl rfl, rfl⟩) (Nat.le_of_ble_eq_true rfl) (Nat.le_of_ble_eq_true rfl) dX10_isTable_14
  · replace hR := ifn c1 hR
    refine lv_iload_n hx hb dX10_isTable_4 rfl (lv_at hl 0 rfl) ?_
    refine lv_iconst (v := 4) hx hb dX10_isTable_5 (by decide) ?_
    refine lv_icmp_ge (tgt := 13) hx hb dX10_isTable_6 (by decide) (fun c3 => ?_) (fun c3 => ?_)
    · replace hR := ifp c3 hR
      refine lv_iconst (v := 0) hx hb dX10_isTable_13 (by decide) ?_
      rw [← hQ]
      exact end_i hX hB hA3 rfl rfl (by obtain rfl := hR; exact ⟨rfl, Or.inl rfl, rfl⟩) (Nat.le_of_ble_eq_true rfl) (Nat.le_of_ble_eq_true rfl) dX10_isTable_14
    · replace hR := ifn c3 hR
      have hq2 := nlt_of (x := x) (n := 4) c1 (by omega) c3
      refine lv_iconst (v := 1) hx hb dX10_isTable_9 (by decide) ?_
      refine lv_goto (tgt := 14) hx hb dX10_isTable_10 (by decide) ?_
      rw [← hQ]
      exact end_i hX hB hA3 rfl rfl (by obtain rfl := hR; exact ⟨rfl, Or.inr (in_4 (by assumption) (by assumption)), rfl⟩) (Nat.le_of_ble_eq_true rfl) (Nat.le_of_ble_eq_true rfl) dX10_isTable_14
noncomputable def D_X10_isShort (x : Int32) : Int32 := (if x < 1 then 0 else (if 4 < x then 0 else 1))
theorem D_X10_isShort_s {x : Int32} : D_X10_isShort x = (if x < 1 then 0 else (if 4 < x then 0 else 1)) := rfl
set_option maxHeartbeats 4000000 in
set_option maxRecDepth 100000 in
theorem k_X10_isShort (κ : Kt) (l : Launch) (w : va_W) (x : Int32)  (o_z : Int32) (hR : D_X10_isShort x = o_z) : CM κ l yX10_isShort cX10_isShort 1 (some .boolean) 0 0 0 0 [.int x] (w) (fun o w' => o = some (.int o_z) ∧ (o_z = 0 ∨ o_z = 1 ∧ 0 ≤ x ∧ 1 ≤ x.toNatClampNeg ∧ x.toNatClampNeg ≤ 4) ∧ w' = w) := by
  refine CM_begin (plainFor_of_name pn_RX10) (Nat.le_of_ble_eq_true rfl) ?_
  intro p e s m args below meth c A Q hX hnm hA3 hQ hB ls hl
  have hx := hX.1.1
  have hb := hX.1.2.1
  have hl : lv_has ls 1 [(0, .int x)] := hl
  replace hR := (D_X10_isShort_s).symm.trans hR
  refine lv_iload_n hx hb dX10_isShort_0 rfl (lv_at hl 0 rfl) ?_
  refine lv_iconst (v := 1) hx hb dX10_isShort_1 (by decide) ?_
  refine lv_icmp_lt (tgt := 14) hx hb dX10_isShort_2 (by decide) (fun c1 => ?_) (fun c1 => ?_)
  · replace hR := ifp c1 hR
    refine lv_iconst (v := 0) hx hb dX10_isShort_14 (by decide) ?_
    rw [← hQ]
    exact end_i hX hB hA3 rfl rfl (by obtain rfl := hR; exact ⟨rfl, Or.inl rfl, rfl⟩) (Nat.le_of_ble_eq_true rfl) (Nat.le_of_ble_eq_true rfl) dX10_isShort_15
  · replace hR := ifn c1 hR
    refine lv_iload_n hx hb dX10_isShort_5 rfl (lv_at hl 0 rfl) ?_
    refine lv_iconst (v := 4) hx hb dX10_isShort_6 (by decide) ?_
    refine lv_icmp_gt (tgt := 14) hx hb dX10_isShort_7 (by decide) (fun c2 => ?_) (fun c2 => ?_)
    · replace hR := ifp c2 hR
      refine lv_iconst (v := 0) hx hb dX10_isShort_14 (by decide) ?_
      rw [← hQ]
      exact end_i hX hB hA3 rfl rfl (by obtain rfl := hR; exact ⟨rfl, Or.inl rfl, rfl⟩) (Nat.le_of_ble_eq_true rfl) (Nat.le_of_ble_eq_true rfl) dX10_isShort_15
    · replace hR := ifn c2 hR
      refine lv_iconst (v := 1) hx hb dX10_isShort_10 (by decide) ?_
      refine lv_goto (tgt := 15) hx hb dX10_isShort_11 (by decide) ?_
      rw [← hQ]
      exact end_i hX hB hA3 rfl rfl (by obtain rfl := hR; exact ⟨rfl, Or.inr (in_s (by assumption) (by assumption)), rfl⟩) (Nat.le_of_ble_eq_true rfl) (Nat.le_of_ble_eq_true rfl) dX10_isShort_15
end
section
-- 42.rstat
/-- the shape of what is told -/
def TSf (y : Int32) (Ro Co R C : Nat) : Prop := (y = 4 → R = Co) ∧ (¬ y = 4 → R = Ro) ∧ (y = 1 → C = Ro) ∧ (y = 3 → C = Ro) ∧ (¬ y = 1 → ¬ y = 3 → C = Co)
section TSS
variable {y : Int32} {Ro Co : Nat}
theorem TS_0 (h : y = 0) : TSf y Ro Co Ro Co := by subst h; exact ⟨fun z => absurd z (by decide), fun _ => rfl, fun z => absurd z (by decide), fun z => absurd z (by decide), fun _ _ => rfl⟩
theorem TS_1 (h0 : ¬ y < 0) (h2 : ¬ 2 ≤ y) (h : ¬ y = 0) : TSf y Ro Co Ro Ro := by
  obtain ⟨j, hj, rfl⟩ := nI_of h0
  have h2 : ¬ nI 2 ≤ nI j := h2
  have h : ¬ nI j = nI 0 := h
  rw [nI_leI (by omega) hj] at h2
  rw [nI_eq hj (by omega)] at h
  have e : j = 1 := by omega
  subst e
  exact ⟨fun z => absurd z (by decide), fun _ => rfl, fun _ => rfl, fun z => absurd z (by decide), fun z => absurd rfl z⟩
theorem TS_2 (h : y = 2) : TSf y Ro Co Ro Co := by subst h; exact ⟨fun z => absurd z (by decide), fun _ => rfl, fun z => absurd z (by decide), fun z => absurd z (by decide), fun _ _ => rfl⟩
theorem TS_3 (h : y = 3) : TSf y Ro Co Ro Ro := by subst h; exact ⟨fun z => absurd z (by decide), fun _ => rfl, fun z => absurd z (by decide), fun _ => rfl, fun _ z => absurd rfl z⟩
theorem TS_4 (h4 : y ≤ 4) (h0 : 2 ≤ y) (h2 : ¬ y = 2) (h3 : ¬ y = 3) : TSf y Ro Co Co Co := by
  have hn : ¬ y < 0 := fun z => absurd (Int32.lt_of_le_of_lt h0 z) (by decide)
  obtain ⟨j, hj, rfl⟩ := nI_of hn
  have h0 : nI 2 ≤ nI j := h0
  have h4 : nI j ≤ nI 4 := h4
  have h2 : ¬ nI j = nI 2 := h2
  have h3 : ¬ nI j = nI 3 := h3
  rw [nI_leI (by omega) hj] at h0
  rw [nI_leI hj (by omega)] at h4
  rw [nI_eq hj (by omega)] at h2 h3
  have e : j = 4 := by omega
  subst e
  exact ⟨fun _ => rfl, fun z => absurd rfl z, fun z => absurd z (by decide), fun z => absurd z (by decide), fun _ _ => rfl⟩
end TSS
theorem sm_0 : sm 0 := by constructor <;> decide
theorem sm_upd {F : Nat → Int64} {n i : Nat} {x : Int64} (h : ∀ k, k < n → sm (F k)) (hx : sm x) : ∀ k, k < n → sm (vp_updL F i x k) := by
  intro k hk
  unfold vp_updL
  by_cases e : k = i
  · rw [if_pos e]; exact hx
  · rw [if_neg e]; exact h k hk
theorem dt_ne {R C : Nat} {f : Nat → Int64} (h1 : 1 ≤ R) (h4 : R ≤ 4) (e : R = C) (c : ¬ lg_cmp (mnv f C R (2 ^ R - 1) (2 ^ C - 1)) 0 = 0) : dtn R f ≠ 0 := by
  subst e
  rw [mn_dt h1 h4] at c
  exact fun z => c (lg0.mpr z)
theorem aaldM {p : Program} {l : Launch} {e : Env} {R : Room} {s : State} {m : MethodId} {args : Array Value} {below : List Frame} {meth : Method} {c : Code} {H : Heap} {locs : List Loc} {cells slots : Nat} {Q : State → Prop} {κ : Kt} {cc : ByteArray} {nL : Nat} {own : String} {ret : Option FieldType} {A : Nat → Prop} {w : va_W} {pc : Nat} {ls : Array Slot} {rest : List Value} {k0 b n : Nat} {f : Nat → Option Nat} {i : Int32} (hX : Cx κ p m c cc nL s args own meth ret A) (hB : Bd κ A s w H locs) (he : w[k0]? = some (b, .inl (κ.2.1 2, n, .inr (.inr (.inr (.inr f)))))) (hin : vp_in i n) {a : Nat} (hv : f i.toNatClampNeg = some a) (hdg : decode cc pc = .ok (.aaload, 1))
    (kk : W p l e R s m args below meth c H locs cells slots Q (F0 m (pc + 1) ls (.ref a :: rest))) : W p l e R s m args below meth c H locs cells slots Q (F0 m pc ls (.int i :: .ref b :: rest)) := by
  refine va_aldq (tys := tysK κ) hX.1.1 hX.1.2.1 hX.2.1.1 hB.1 k0 2 he rfl hin hdg ?_
  rw [hv]
  exact kk
theorem astM {p : Program} {l : Launch} {e : Env} {R : Room} {s : State} {m : MethodId} {args : Array Value} {below : List Frame} {meth : Method} {c : Code} {H : Heap} {locs : List Loc} {cells slots : Nat} {Q : State → Prop} {κ : Kt} {cc : ByteArray} {nL : Nat} {own : String} {ret : Option FieldType} {A : Nat → Prop} {w : va_W} {pc : Nat} {ls : Array Slot} {rest : List Value} {k0 k1 b n v : Nat} {f : Nat → Option Nat} {vs : List Value} {i : Int32} (hX : Cx κ p m c cc nL s args own meth ret A) (hB : Bd κ A s w H locs) (he : w[k0]? = some (b, .inl (κ.2.1 2, n, .inr (.inr (.inr (.inr f)))))) (hv : w[k1]? = some (v, .inr (8, vs))) (hin : vp_in i n) {w1 : va_W} (hw : w.set k0 (b, .inl (κ.2.1 2, n, .inr (.inr (.inr (.inr (va_up f i.toNatClampNeg (some v))))))) = w1) (hdg : decode cc pc = .ok (.aastore, 1))
    (kk : ∀ (H1 : Heap) (locs1 : List Loc), Bd κ A s w1 H1 locs1 → W p l e R s m args below meth c H1 locs1 cells slots Q (F0 m (pc + 1) ls rest)) : W p l e R s m args below meth c H locs cells slots Q (F0 m pc ls (.ref v :: .int i :: .ref b :: rest)) := by
  subst hw
  exact va_astq (tys := tysK κ) (r := (RX7, TX7, 3)) hX.1.1 hX.1.2.1 hX.2.1.1 hB.1 hB.2.1 hB.2.2 k0 2 k1 8 he rfl hv rfl hin hdg (fun H1 locs1 h1 h2 h3 => kk H1 locs1 ⟨h1, h2, h3⟩)

noncomputable def D_X10_flipped_28 (C_o : Nat) (f_o : Nat → Int64) (lb18 : Nat → (Nat → Int64) → (Nat → Int64)) (y2_18 : Nat) (nn : Nat) : Nat → (Nat → Int64) → (Nat → Int64) := @Nat.rec (fun _ => Nat → (Nat → Int64) → (Nat → Int64)) (fun _ _ => default) (fun _ lb28 (y3_28 : Nat) (fb2_28 : Nat → Int64) => (if C_o ≤ y3_28 then (lb18 (y2_18 + 1) fb2_28) else (lb28 (y3_28 + 1) (vp_updL fb2_28 (y3_28 * 5 + y2_18) (f_o (y2_18 * 5 + y3_28)))))) nn
theorem D_X10_flipped_28_s {C_o : Nat} {f_o : Nat → Int64} {lb18 : Nat → (Nat → Int64) → (Nat → Int64)} {y2_18 : Nat} {nn : Nat} {y3_28 : Nat} {fb2_28 : Nat → Int64} : D_X10_flipped_28 C_o f_o lb18 y2_18 (nn + 1) y3_28 fb2_28 = (if C_o ≤ y3_28 then (lb18 (y2_18 + 1) fb2_28) else ((D_X10_flipped_28 C_o f_o lb18 y2_18 nn) (y3_28 + 1) (vp_updL fb2_28 (y3_28 * 5 + y2_18) (f_o (y2_18 * 5 + y3_28))))) := rfl
noncomputable def D_X10_flipped_18 (R_o : Nat) (C_o : Nat) (f_o : Nat → Int64) (nn : Nat) : Nat → (Nat → Int64) → (Nat → Int64) := @Nat.rec (fun _ => Nat → (Nat → Int64) → (Nat → Int64)) (fun _ _ => default) (fun _ lb18 (y2_18 : Nat) (fb2_18 : Nat → Int64) => (if R_o ≤ y2_18 then fb2_18 else (D_X10_flipped_28 C_o f_o lb18 y2_18 (C_o + 1 - 0 + 1) 0 fb2_18))) nn
theorem D_X10_flipped_18_s {R_o : Nat} {C_o : Nat} {f_o : Nat → Int64} {nn : Nat} {y2_18 : Nat} {fb2_18 : Nat → Int64} : D_X10_flipped_18 R_o C_o f_o (nn + 1) y2_18 fb2_18 = (if R_o ≤ y2_18 then fb2_18 else (D_X10_flipped_28 C_o f_o (D_X10_flipped_18 R_o C_o f_o nn) y2_18 (C_o + 1 - 0 + 1) 0 fb2_18)) := rfl
noncomputable def D_X10_flipped (R_o : Nat) (C_o : Nat) (f_o : Nat → Int64) : (Nat → Int64) := (D_X10_flipped_18 R_o C_o f_o (R_o + 1 - 0 + 1) 0 (fun _ => 0))
theorem D_X10_flipped_s {R_o : Nat} {C_o : Nat} {f_o : Nat → Int64} : D_X10_flipped R_o C_o f_o = (D_X10_flipped_18 R_o C_o f_o (R_o + 1 - 0 + 1) 0 (fun _ => 0)) := rfl
set_option maxHeartbeats 4000000 in
set_option maxRecDepth 100000 in
theorem k_X10_flipped (κ : Kt) (l : Launch) (w : va_W) (k_o j_o g_o b_o R_o C_o : Nat) (f_o : Nat → Int64) (h_o : w[k_o]? = some (gO g_o R_o C_o b_o)) (i_o : w[j_o]? = some (lA κ b_o (R_o * 5) f_o)) (s_o : shp R_o C_o) (hC4 : C_o ≤ 4) (hsm : ∀ k, k < R_o * 5 → sm (f_o k)) (o_F : Nat → Int64) (hR : D_X10_flipped R_o C_o f_o = o_F) : CM κ l yX10_flipped cX10_flipped 4 (some (.object "GridmenderModel$Grid")) 2 42 2 23 [.ref g_o] (w) (fun o w' => ∃ (q1 : Nat) (q2 : Nat), o = some (.ref q1) ∧ (∀ k, k < C_o * 5 → sm (o_F k)) ∧ w' = lA κ q2 (C_o * 5) o_F :: gO q1 C_o R_o q2 :: w) := by
  have z_o := s_o
  obtain ⟨s_o1, s_o2, s_o3, s_o4⟩ := z_o
  refine CM_begin (plainFor_of_name pn_RX10) (Nat.le_of_ble_eq_true rfl) ?_
  intro p e s m args below meth c A Q hX hnm hA3 hQ hB ls hl
  have hx := hX.1.1
  have hb := hX.1.2.1
  have hl : lv_has ls 4 [(0, .ref g_o)] := hl
  replace hR := (D_X10_flipped_s).symm.trans hR
  refine newO (fs := [.int 0, .int 0, .null]) hX hB (ci := 8) rfl in7 tyX7_ok wm_5_138 wm_5_140 wm_1_7 df8 (Nat.le_of_ble_eq_true rfl) (Nat.le_of_ble_eq_true rfl) dX10_flipped_0 (fun q1 H hB => ?_)
  refine lv_dup hx hb dX10_flipped_3 rfl ?_
  refine lv_aload_n hx hb dX10_flipped_4 rfl (lv_at hl 0 rfl) ?_
  refine gf (k0 := k_o + 1) hX hB h_o rfl in7 1 (by decide) wm_5_152 rfl rfl dX10_flipped_5 ?_
  refine lv_aload_n hx hb dX10_flipped_8 rfl (lv_at hl 0 rfl) ?_
  refine gf (k0 := k_o + 1) hX hB h_o rfl in7 0 (by decide) wm_5_148 rfl rfl dX10_flipped_9 ?_
  refine call_I (n := 2) (As := [.int (nI C_o), .int (nI R_o)]) (rest := [.ref q1]) hX hB (k_X7_init κ l (w) q1 (nI C_o) C_o (nI R_o) R_o rfl rfl (by omega)) yk_X7_init rfl wm_5_141 wm_5_142 wm_1_7 wm_5_143 ⟨Nat.le_of_ble_eq_true rfl, Nat.le_of_ble_eq_true rfl⟩ ⟨Nat.le_of_ble_eq_true rfl, Nat.le_of_ble_eq_true rfl⟩ rfl hl.1 rfl (Nat.le_of_ble_eq_true rfl) dX10_flipped_12 (fun o w' H locs hp hB => ?_)
  obtain ⟨b2, rfl, hw9⟩ := hp
  replace hB : Bd κ A s (lA κ b2 (C_o * 5) (fun _ => 0) :: gO q1 C_o R_o b2 :: w) H locs := by rw [hw9] at hB; exact hB
  refine W.eq (g2 := F0 m 15 ls [.ref q1]) rfl ?_
  refine lv_astore_n (lv' := [(1, .ref q1), (0, .ref g_o)]) hx hb dX10_flipped_15 rfl hl (by decide) rfl (fun ls hl => ?_)
  refine lv_iconst (v := 0) hx hb dX10_flipped_16 (by decide) ?_
  refine lv_istore_n (lv' := [(2, .int 0), (1, .ref q1), (0, .ref g_o)]) hx hb dX10_flipped_17 rfl hl (by decide) rfl (fun ls hl => ?_)
  have lp18 : ∀ (nn18 : Nat) (y2_18 : Nat) (fb2_18 : Nat → Int64) (H : Heap) (locs : List Loc), (y2_18 ≤ R_o) → (∀ k, k < C_o * 5 → sm (fb2_18 k)) → R_o + 1 - y2_18 < nn18 → D_X10_flipped_18 R_o C_o f_o nn18 y2_18 fb2_18 = o_F → Bd κ A s (lA κ b2 (C_o * 5) fb2_18 :: gO q1 C_o R_o b2 :: w) H locs → ∀ ls : Array Slot, lv_has ls 4 [(2, .int (nI y2_18)), (1, .ref q1), (0, .ref g_o)] → W p l e (Rm 2 42 2 23) s m args below meth c H locs (2) (23) Q (F0 m 18 ls []) := by
    intro nn18
    induction nn18 with
    | zero => intro y2_18 fb2_18 H locs hn2_18 hf_18 hμ; exact absurd hμ (Nat.not_lt_zero _)
    | succ nn18 ih18 =>
      intro y2_18 fb2_18 H locs hn2_18 hf_18 hμ18 hR hB ls hl
      replace hR := (D_X10_flipped_18_s).symm.trans hR
      refine lv_iload_n hx hb dX10_flipped_18 rfl (lv_at hl 0 rfl) ?_
      refine lv_aload_n hx hb dX10_flipped_19 rfl (lv_at hl 2 rfl) ?_
      refine gf (k0 := k_o + 2) hX hB h_o rfl in7 0 (by decide) wm_5_148 rfl rfl dX10_flipped_20 ?_
      refine lv_icmp_ge (tgt := 60) hx hb dX10_flipped_23 (by decide) (fun c11 => ?_) (fun c11 => ?_)
      · rw [nleP (a := R_o) (b := y2_18) (by omega) (by omega)] at c11
        replace hR := ifp c11 hR
        refine lv_aload_n hx hb dX10_flipped_60 rfl (lv_at hl 1 rfl) ?_
        rw [← hQ]
        exact end_a hX hB hA3 rfl (Or.inr ⟨_, rfl⟩) (by obtain rfl := hR; exact ⟨q1, b2, rfl, hf_18, rfl⟩) (Nat.le_of_ble_eq_true rfl) (Nat.le_of_ble_eq_true rfl) dX10_flipped_61
      · rw [nleP (a := R_o) (b := y2_18) (by omega) (by omega)] at c11
        replace hR := ifn c11 hR
        refine lv_iconst (v := 0) hx hb dX10_flipped_26 (by decide) ?_
        refine lv_istore_n (lv' := [(3, .int 0), (2, .int (nI y2_18)), (1, .ref q1), (0, .ref g_o)]) hx hb dX10_flipped_27 rfl hl (by decide) rfl (fun ls hl => ?_)
        have lp28 : ∀ (nn28 : Nat) (y3_28 : Nat) (fb2_28 : Nat → Int64) (H : Heap) (locs : List Loc), (y3_28 ≤ C_o) → (∀ k, k < C_o * 5 → sm (fb2_28 k)) → C_o + 1 - y3_28 < nn28 → D_X10_flipped_28 C_o f_o (D_X10_flipped_18 R_o C_o f_o nn18) y2_18 nn28 y3_28 fb2_28 = o_F → Bd κ A s (lA κ b2 (C_o * 5) fb2_28 :: gO q1 C_o R_o b2 :: w) H locs → ∀ ls : Array Slot, lv_has ls 4 [(3, .int (nI y3_28)), (2, .int (nI y2_18)), (1, .ref q1), (0, .ref g_o)] → W p l e (Rm 2 42 2 23) s m args below meth c H locs (2) (23) Q (F0 m 28 ls []) := by
          intro nn28
          induction nn28 with
          | zero => intro y3_28 fb2_28 H locs hn3_28 hf_28 hμ; exact absurd hμ (Nat.not_lt_zero _)
          | succ nn28 ih28 =>
            intro y3_28 fb2_28 H locs hn3_28 hf_28 hμ28 hR hB ls hl
            replace hR := (D_X10_flipped_28_s).symm.trans hR
            refine lv_iload_n hx hb dX10_flipped_28 rfl (lv_at hl 0 rfl) ?_
            refine lv_aload_n hx hb dX10_flipped_29 rfl (lv_at hl 3 rfl) ?_
            refine gf (k0 := k_o + 2) hX hB h_o rfl in7 1 (by decide) wm_5_152 rfl rfl dX10_flipped_30 ?_
            refine lv_icmp_ge (tgt := 54) hx hb dX10_flipped_33 (by decide) (fun c14 => ?_) (fun c14 => ?_)
            · rw [nleP (a := C_o) (b := y3_28) (by omega) (by omega)] at c14
              replace hR := ifp c14 hR
              refine lv_iinc (v := nI (y2_18 + 1)) (lv' := [(2, .int (nI (y2_18 + 1))), (3, .int (nI y3_28)), (1, .ref q1), (0, .ref g_o)]) hx hb dX10_flipped_54 hl (k := 1) rfl (nI_add y2_18 1) (by decide) rfl (fun ls hl => ?_)
              refine lv_goto (tgt := 18) hx hb dX10_flipped_57 (by decide) ?_
              exact ih18 (y2_18 + 1) fb2_28 _ _ (by omega) hf_28 (by omega) hR hB _ (lv_sub hl [0, 2, 3] rfl)
            · rw [nleP (a := C_o) (b := y3_28) (by omega) (by omega)] at c14
              replace hR := ifn c14 hR
              refine lv_aload_n hx hb dX10_flipped_36 rfl (lv_at hl 2 rfl) ?_
              refine lv_iload_n hx hb dX10_flipped_37 rfl (lv_at hl 0 rfl) ?_
              refine lv_iload_n hx hb dX10_flipped_38 rfl (lv_at hl 1 rfl) ?_
              refine lv_aload_n hx hb dX10_flipped_39 rfl (lv_at hl 3 rfl) ?_
              refine lv_iload_n hx hb dX10_flipped_40 rfl (lv_at hl 1 rfl) ?_
              refine lv_iload_n hx hb dX10_flipped_41 rfl (lv_at hl 0 rfl) ?_
              refine call_V (n := 2) (k0 := (k_o + 2)) (As := [.int (nI y2_18), .int (nI y3_28)]) (rest := [.int (nI y2_18), .int (nI y3_28), .ref q1]) hX hB (k_X7_at κ l (lA κ b2 (C_o * 5) fb2_28 :: gO q1 C_o R_o b2 :: w) (k_o + 2) (j_o + 2) g_o b_o R_o C_o f_o (nI y2_18) y2_18 (nI y3_28) y3_28 h_o i_o s_o rfl rfl (by omega)) ⟨rfl, yk_X7_at⟩ wm_5_237 wm_5_238 wm_5_239 wm_1_7 wm_6_0 ⟨Nat.le_of_ble_eq_true rfl, Nat.le_of_ble_eq_true rfl⟩ ⟨Nat.le_of_ble_eq_true rfl, Nat.le_of_ble_eq_true rfl⟩ h_o rfl rfl rfl hl.1 rfl (Nat.le_of_ble_eq_true rfl) dX10_flipped_42 (fun o w' H locs hp hB => ?_)
              obtain ⟨rfl, hw9⟩ := hp
              replace hB : Bd κ A s (lA κ b2 (C_o * 5) fb2_28 :: gO q1 C_o R_o b2 :: w) H locs := by rw [hw9] at hB; exact hB
              refine W.eq (g2 := F0 m 45 ls [.long (f_o (y2_18 * 5 + y3_28)), .int (nI y2_18), .int (nI y3_28), .ref q1]) rfl ?_
              refine call_V (n := 3) (k0 := 1) (As := [.int (nI y3_28), .int (nI y2_18), .long (f_o (y2_18 * 5 + y3_28))]) (rest := []) hX hB (k_X7_put κ l (lA κ b2 (C_o * 5) fb2_28 :: gO q1 C_o R_o b2 :: w) 1 0 q1 b2 C_o R_o fb2_28 (nI y3_28) y3_28 (nI y2_18) y2_18 (f_o (y2_18 * 5 + y3_28)) rfl rfl ⟨by omega, by omega, by omega, by omega⟩ rfl rfl (by omega)) ⟨rfl, yk_X7_put⟩ wm_6_1 wm_5_222 wm_5_223 wm_1_7 wm_5_224 ⟨Nat.le_of_ble_eq_true rfl, Nat.le_of_ble_eq_true rfl⟩ ⟨Nat.le_of_ble_eq_true rfl, Nat.le_of_ble_eq_true rfl⟩ rfl rfl rfl rfl hl.1 rfl (Nat.le_of_ble_eq_true rfl) dX10_flipped_45 (fun o w' H locs hp hB => ?_)
              obtain ⟨rfl, hw9⟩ := hp
              replace hB : Bd κ A s (lA κ b2 (C_o * 5) (vp_updL fb2_28 (y3_28 * 5 + y2_18) (f_o (y2_18 * 5 + y3_28))) :: gO q1 C_o R_o b2 :: w) H locs := by rw [hw9] at hB; exact hB
              refine W.eq (g2 := F0 m 48 ls []) rfl ?_
              refine lv_iinc (v := nI (y3_28 + 1)) (lv' := [(3, .int (nI (y3_28 + 1))), (2, .int (nI y2_18)), (1, .ref q1), (0, .ref g_o)]) hx hb dX10_flipped_48 hl (k := 0) rfl (nI_add y3_28 1) (by decide) rfl (fun ls hl => ?_)
              refine lv_goto (tgt := 28) hx hb dX10_flipped_51 (by decide) ?_
              exact ih28 (y3_28 + 1) (vp_updL fb2_28 (y3_28 * 5 + y2_18) (f_o (y2_18 * 5 + y3_28))) _ _ (by omega) (sm_upd hf_28 (hsm _ (by omega))) (by omega) hR hB _ hl
        exact lp28 _ 0 fb2_18 _ _ (by omega) hf_18 (Nat.lt_succ_self _) hR hB _ hl
  exact lp18 _ 0 (fun _ => 0) _ _ (by omega) (fun _ _ => sm_0) (Nat.lt_succ_self _) hR hB _ hl
noncomputable def D_X10_shaped_23 (R_o : Nat) (C_o : Nat) (f_o : Nat → Int64) (c0 : Nat) (y : Int32) (z : Int32) (lb14 : Nat → (Nat → Int64) → (Nat → Int64)) (y6_14 : Nat) (nn : Nat) : Nat → (Nat → Int64) → (Nat → Int64) := @Nat.rec (fun _ => Nat → (Nat → Int64) → (Nat → Int64)) (fun _ _ => default) (fun _ lb23 (y7_23 : Nat) (fb2_23 : Nat → Int64) => (if c0 ≤ y7_23 then (lb14 (y6_14 + 1) fb2_23) else (if y ≤ (nI y6_14) then (if z ≤ (nI y7_23) then (if R_o ≤ (y6_14 + 1) then (lb23 (y7_23 + 1) fb2_23) else (if C_o ≤ (y7_23 + 1) then (lb23 (y7_23 + 1) fb2_23) else (lb23 (y7_23 + 1) (vp_updL fb2_23 (y6_14 * 5 + y7_23) (f_o ((y6_14 + 1) * 5 + (y7_23 + 1))))))) else (if R_o ≤ (y6_14 + 1) then (lb23 (y7_23 + 1) fb2_23) else (if C_o ≤ y7_23 then (lb23 (y7_23 + 1) fb2_23) else (lb23 (y7_23 + 1) (vp_updL fb2_23 (y6_14 * 5 + y7_23) (f_o ((y6_14 + 1) * 5 + y7_23))))))) else (if z ≤ (nI y7_23) then (if R_o ≤ y6_14 then (lb23 (y7_23 + 1) fb2_23) else (if C_o ≤ (y7_23 + 1) then (lb23 (y7_23 + 1) fb2_23) else (lb23 (y7_23 + 1) (vp_updL fb2_23 (y6_14 * 5 + y7_23) (f_o (y6_14 * 5 + (y7_23 + 1))))))) else (if R_o ≤ y6_14 then (lb23 (y7_23 + 1) fb2_23) else (if C_o ≤ y7_23 then (lb23 (y7_23 + 1) fb2_23) else (lb23 (y7_23 + 1) (vp_updL fb2_23 (y6_14 * 5 + y7_23) (f_o (y6_14 * 5 + y7_23)))))))))) nn
theorem D_X10_shaped_23_s {R_o : Nat} {C_o : Nat} {f_o : Nat → Int64} {c0 : Nat} {y : Int32} {z : Int32} {lb14 : Nat → (Nat → Int64) → (Nat → Int64)} {y6_14 : Nat} {nn : Nat} {y7_23 : Nat} {fb2_23 : Nat → Int64} : D_X10_shaped_23 R_o C_o f_o c0 y z lb14 y6_14 (nn + 1) y7_23 fb2_23 = (if c0 ≤ y7_23 then (lb14 (y6_14 + 1) fb2_23) else (if y ≤ (nI y6_14) then (if z ≤ (nI y7_23) then (if R_o ≤ (y6_14 + 1) then ((D_X10_shaped_23 R_o C_o f_o c0 y z lb14 y6_14 nn) (y7_23 + 1) fb2_23) else (if C_o ≤ (y7_23 + 1) then ((D_X10_shaped_23 R_o C_o f_o c0 y z lb14 y6_14 nn) (y7_23 + 1) fb2_23) else ((D_X10_shaped_23 R_o C_o f_o c0 y z lb14 y6_14 nn) (y7_23 + 1) (vp_updL fb2_23 (y6_14 * 5 + y7_23) (f_o ((y6_14 + 1) * 5 + (y7_23 + 1))))))) else (if R_o ≤ (y6_14 + 1) then ((D_X10_shaped_23 R_o C_o f_o c0 y z lb14 y6_14 nn) (y7_23 + 1) fb2_23) else (if C_o ≤ y7_23 then ((D_X10_shaped_23 R_o C_o f_o c0 y z lb14 y6_14 nn) (y7_23 + 1) fb2_23) else ((D_X10_shaped_23 R_o C_o f_o c0 y z lb14 y6_14 nn) (y7_23 + 1) (vp_updL fb2_23 (y6_14 * 5 + y7_23) (f_o ((y6_14 + 1) * 5 + y7_23))))))) else (if z ≤ (nI y7_23) then (if R_o ≤ y6_14 then ((D_X10_shaped_23 R_o C_o f_o c0 y z lb14 y6_14 nn) (y7_23 + 1) fb2_23) else (if C_o ≤ (y7_23 + 1) then ((D_X10_shaped_23 R_o C_o f_o c0 y z lb14 y6_14 nn) (y7_23 + 1) fb2_23) else ((D_X10_shaped_23 R_o C_o f_o c0 y z lb14 y6_14 nn) (y7_23 + 1) (vp_updL fb2_23 (y6_14 * 5 + y7_23) (f_o (y6_14 * 5 + (y7_23 + 1))))))) else (if R_o ≤ y6_14 then ((D_X10_shaped_23 R_o C_o f_o c0 y z lb14 y6_14 nn) (y7_23 + 1) fb2_23) else (if C_o ≤ y7_23 then ((D_X10_shaped_23 R_o C_o f_o c0 y z lb14 y6_14 nn) (y7_23 + 1) fb2_23) else ((D_X10_shaped_23 R_o C_o f_o c0 y z lb14 y6_14 nn) (y7_23 + 1) (vp_updL fb2_23 (y6_14 * 5 + y7_23) (f_o (y6_14 * 5 + y7_23))))))))) := rfl
noncomputable def D_X10_shaped_14 (R_o : Nat) (C_o : Nat) (f_o : Nat → Int64) (n : Nat) (c0 : Nat) (y : Int32) (z : Int32) (nn : Nat) : Nat → (Nat → Int64) → (Nat → Int64) := @Nat.rec (fun _ => Nat → (Nat → Int64) → (Nat → Int64)) (fun _ _ => default) (fun _ lb14 (y6_14 : Nat) (fb2_14 : Nat → Int64) => (if n ≤ y6_14 then fb2_14 else (D_X10_shaped_23 R_o C_o f_o c0 y z lb14 y6_14 (c0 + 1 - 0 + 1) 0 fb2_14))) nn
theorem D_X10_shaped_14_s {R_o : Nat} {C_o : Nat} {f_o : Nat → Int64} {n : Nat} {c0 : Nat} {y : Int32} {z : Int32} {nn : Nat} {y6_14 : Nat} {fb2_14 : Nat → Int64} : D_X10_shaped_14 R_o C_o f_o n c0 y z (nn + 1) y6_14 fb2_14 = (if n ≤ y6_14 then fb2_14 else (D_X10_shaped_23 R_o C_o f_o c0 y z (D_X10_shaped_14 R_o C_o f_o n c0 y z nn) y6_14 (c0 + 1 - 0 + 1) 0 fb2_14)) := rfl
noncomputable def D_X10_shaped (R_o : Nat) (C_o : Nat) (f_o : Nat → Int64) (n : Nat) (c0 : Nat) (y : Int32) (z : Int32) : (Nat → Int64) := (D_X10_shaped_14 R_o C_o f_o n c0 y z (n + 1 - 0 + 1) 0 (fun _ => 0))
theorem D_X10_shaped_s {R_o : Nat} {C_o : Nat} {f_o : Nat → Int64} {n : Nat} {c0 : Nat} {y : Int32} {z : Int32} : D_X10_shaped R_o C_o f_o n c0 y z = (D_X10_shaped_14 R_o C_o f_o n c0 y z (n + 1 - 0 + 1) 0 (fun _ => 0)) := rfl
set_option maxHeartbeats 4000000 in
set_option maxRecDepth 100000 in
theorem k_X10_shaped (κ : Kt) (l : Launch) (w : va_W) (k_o j_o g_o b_o R_o C_o : Nat) (f_o : Nat → Int64) (xn : Int32) (n : Nat) (xc0 : Int32) (c0 : Nat) (y : Int32) (z : Int32) (h_o : w[k_o]? = some (gO g_o R_o C_o b_o)) (i_o : w[j_o]? = some (lA κ b_o (R_o * 5) f_o)) (s_o : shp R_o C_o) (hxn : xn = nI n) (hxc0 : xc0 = nI c0) (hn : 1 ≤ n ∧ n ≤ 4 ∧ 1 ≤ c0 ∧ c0 ≤ 4) (hsm : ∀ k, k < R_o * 5 → sm (f_o k)) (o_F : Nat → Int64) (hR : D_X10_shaped R_o C_o f_o n c0 y z = o_F) : CM κ l yX10_shaped cX10_shaped 10 (some (.object "GridmenderModel$Grid")) 2 42 2 23 [.ref g_o, .int xn, .int xc0, .int y, .int z] (w) (fun o w' => ∃ (q1 : Nat) (q2 : Nat), o = some (.ref q1) ∧ (∀ k, k < n * 5 → sm (o_F k)) ∧ w' = lA κ q2 (n * 5) o_F :: gO q1 n c0 q2 :: w) := by
  have z_o := s_o
  obtain ⟨s_o1, s_o2, s_o3, s_o4⟩ := z_o
  subst hxn
  subst hxc0
  refine CM_begin (plainFor_of_name pn_RX10) (Nat.le_of_ble_eq_true rfl) ?_
  intro p e s m args below meth c A Q hX hnm hA3 hQ hB ls hl
  have hx := hX.1.1
  have hb := hX.1.2.1
  have hl : lv_has ls 10 [(0, .ref g_o), (1, .int (nI n)), (2, .int (nI c0)), (3, .int y), (4, .int z)] := hl
  replace hR := (D_X10_shaped_s).symm.trans hR
  refine newO (fs := [.int 0, .int 0, .null]) hX hB (ci := 8) rfl in7 tyX7_ok wm_5_138 wm_5_140 wm_1_7 df8 (Nat.le_of_ble_eq_true rfl) (Nat.le_of_ble_eq_true rfl) dX10_shaped_0 (fun q1 H hB => ?_)
  refine lv_dup hx hb dX10_shaped_3 rfl ?_
  refine lv_iload_n hx hb dX10_shaped_4 rfl (lv_at hl 1 rfl) ?_
  refine lv_iload_n hx hb dX10_shaped_5 rfl (lv_at hl 2 rfl) ?_
  refine call_I (n := 2) (As := [.int (nI n), .int (nI c0)]) (rest := [.ref q1]) hX hB (k_X7_init κ l (w) q1 (nI n) n (nI c0) c0 rfl rfl (by omega)) yk_X7_init rfl wm_5_141 wm_5_142 wm_1_7 wm_5_143 ⟨Nat.le_of_ble_eq_true rfl, Nat.le_of_ble_eq_true rfl⟩ ⟨Nat.le_of_ble_eq_true rfl, Nat.le_of_ble_eq_true rfl⟩ rfl hl.1 rfl (Nat.le_of_ble_eq_true rfl) dX10_shaped_6 (fun o w' H locs hp hB => ?_)
  obtain ⟨b2, rfl, hw9⟩ := hp
  replace hB : Bd κ A s (lA κ b2 (n * 5) (fun _ => 0) :: gO q1 n c0 b2 :: w) H locs := by rw [hw9] at hB; exact hB
  refine W.eq (g2 := F0 m 9 ls [.ref q1]) rfl ?_
  refine lv_astore (lv' := [(5, .ref q1), (0, .ref g_o), (1, .int (nI n)), (2, .int (nI c0)), (3, .int y), (4, .int z)]) hx hb dX10_shaped_9 hl (by decide) rfl (fun ls hl => ?_)
  refine lv_iconst (v := 0) hx hb dX10_shaped_11 (by decide) ?_
  refine lv_istore (lv' := [(6, .int 0), (5, .ref q1), (0, .ref g_o), (1, .int (nI n)), (2, .int (nI c0)), (3, .int y), (4, .int z)]) hx hb dX10_shaped_12 hl (by decide) rfl (fun ls hl => ?_)
  have lp14 : ∀ (nn14 : Nat) (y6_14 : Nat) (fb2_14 : Nat → Int64) (H : Heap) (locs : List Loc), (y6_14 ≤ n) → (∀ k, k < n * 5 → sm (fb2_14 k)) → n + 1 - y6_14 < nn14 → D_X10_shaped_14 R_o C_o f_o n c0 y z nn14 y6_14 fb2_14 = o_F → Bd κ A s (lA κ b2 (n * 5) fb2_14 :: gO q1 n c0 b2 :: w) H locs → ∀ ls : Array Slot, lv_has ls 10 [(6, .int (nI y6_14)), (5, .ref q1), (0, .ref g_o), (1, .int (nI n)), (2, .int (nI c0)), (3, .int y), (4, .int z)] → W p l e (Rm 2 42 2 23) s m args below meth c H locs (2) (23) Q (F0 m 14 ls []) := by
    intro nn14
    induction nn14 with
    | zero => intro y6_14 fb2_14 H locs hn6_14 hf_14 hμ; exact absurd hμ (Nat.not_lt_zero _)
    | succ nn14 ih14 =>
      intro y6_14 fb2_14 H locs hn6_14 hf_14 hμ14 hR hB ls hl
      replace hR := (D_X10_shaped_14_s).symm.trans hR
      refine lv_iload hx hb dX10_shaped_14 (lv_at hl 0 rfl) ?_
      refine lv_iload_n hx hb dX10_shaped_16 rfl (lv_at hl 3 rfl) ?_
      refine lv_icmp_ge (tgt := 111) hx hb dX10_shaped_17 (by decide) (fun c77 => ?_) (fun c77 => ?_)
      · rw [nleP (a := n) (b := y6_14) (by omega) (by omega)] at c77
        replace hR := ifp c77 hR
        refine lv_aload hx hb dX10_shaped_111 (lv_at hl 1 rfl) ?_
        rw [← hQ]
        exact end_a hX hB hA3 rfl (Or.inr ⟨_, rfl⟩) (by obtain rfl := hR; exact ⟨q1, b2, rfl, hf_14, rfl⟩) (Nat.le_of_ble_eq_true rfl) (Nat.le_of_ble_eq_true rfl) dX10_shaped_113
      · rw [nleP (a := n) (b := y6_14) (by omega) (by omega)] at c77
        replace hR := ifn c77 hR
        refine lv_iconst (v := 0) hx hb dX10_shaped_20 (by decide) ?_
        refine lv_istore (lv' := [(7, .int 0), (6, .int (nI y6_14)), (5, .ref q1), (0, .ref g_o), (1, .int (nI n)), (2, .int (nI c0)), (3, .int y), (4, .int z)]) hx hb dX10_shaped_21 hl (by decide) rfl (fun ls hl => ?_)
        have lp23 : ∀ (nn23 : Nat) (y7_23 : Nat) (fb2_23 : Nat → Int64) (H : Heap) (locs : List Loc), (y7_23 ≤ c0) → (∀ k, k < n * 5 → sm (fb2_23 k)) → c0 + 1 - y7_23 < nn23 → D_X10_shaped_23 R_o C_o f_o c0 y z (D_X10_shaped_14 R_o C_o f_o n c0 y z nn14) y6_14 nn23 y7_23 fb2_23 = o_F → Bd κ A s (lA κ b2 (n * 5) fb2_23 :: gO q1 n c0 b2 :: w) H locs → ∀ ls : Array Slot, lv_has ls 10 [(7, .int (nI y7_23)), (6, .int (nI y6_14)), (5, .ref q1), (0, .ref g_o), (1, .int (nI n)), (2, .int (nI c0)), (3, .int y), (4, .int z)] → W p l e (Rm 2 42 2 23) s m args below meth c H locs (2) (23) Q (F0 m 23 ls []) := by
          intro nn23
          induction nn23 with
          | zero => intro y7_23 fb2_23 H locs hn7_23 hf_23 hμ; exact absurd hμ (Nat.not_lt_zero _)
          | succ nn23 ih23 =>
            intro y7_23 fb2_23 H locs hn7_23 hf_23 hμ23 hR hB ls hl
            replace hR := (D_X10_shaped_23_s).symm.trans hR
            refine lv_iload hx hb dX10_shaped_23 (lv_at hl 0 rfl) ?_
            refine lv_iload_n hx hb dX10_shaped_25 rfl (lv_at hl 5 rfl) ?_
            refine lv_icmp_ge (tgt := 105) hx hb dX10_shaped_26 (by decide) (fun c102 => ?_) (fun c102 => ?_)
            · rw [nleP (a := c0) (b := y7_23) (by omega) (by omega)] at c102
              replace hR := ifp c102 hR
              refine lv_iinc (v := nI (y6_14 + 1)) (lv' := [(6, .int (nI (y6_14 + 1))), (7, .int (nI y7_23)), (5, .ref q1), (0, .ref g_o), (1, .int (nI n)), (2, .int (nI c0)), (3, .int y), (4, .int z)]) hx hb dX10_shaped_105 hl (k := 1) rfl (nI_add y6_14 1) (by decide) rfl (fun ls hl => ?_)
              refine lv_goto (tgt := 14) hx hb dX10_shaped_108 (by decide) ?_
              exact ih14 (y6_14 + 1) fb2_23 _ _ (by omega) hf_23 (by omega) hR hB _ (lv_sub hl [0, 2, 3, 4, 5, 6, 7] rfl)
            · rw [nleP (a := c0) (b := y7_23) (by omega) (by omega)] at c102
              replace hR := ifn c102 hR
              refine lv_iload hx hb dX10_shaped_29 (lv_at hl 1 rfl) ?_
              refine lv_iload_n hx hb dX10_shaped_31 rfl (lv_at hl 6 rfl) ?_
              refine lv_icmp_ge (tgt := 40) hx hb dX10_shaped_32 (by decide) (fun c103 => ?_) (fun c103 => ?_)
              · replace hR := ifp c103 hR
                refine lv_iload hx hb dX10_shaped_40 (lv_at hl 1 rfl) ?_
                refine lv_iconst (v := 1) hx hb dX10_shaped_42 (by decide) ?_
                refine lv_iadd hx hb dX10_shaped_43 ?_
                refine eqi (y := nI (y6_14 + 1)) (nI_add y6_14 1) ?_
                refine lv_istore (lv' := [(8, .int (nI (y6_14 + 1))), (7, .int (nI y7_23)), (6, .int (nI y6_14)), (5, .ref q1), (0, .ref g_o), (1, .int (nI n)), (2, .int (nI c0)), (3, .int y), (4, .int z)]) hx hb dX10_shaped_44 hl (by decide) rfl (fun ls hl => ?_)
                refine lv_iload hx hb dX10_shaped_46 (lv_at hl 1 rfl) ?_
                refine lv_iload hx hb dX10_shaped_48 (lv_at hl 8 rfl) ?_
                refine lv_icmp_ge (tgt := 58) hx hb dX10_shaped_50 (by decide) (fun c104 => ?_) (fun c104 => ?_)
                · replace hR := ifp c104 hR
                  refine lv_iload hx hb dX10_shaped_58 (lv_at hl 1 rfl) ?_
                  refine lv_iconst (v := 1) hx hb dX10_shaped_60 (by decide) ?_
                  refine lv_iadd hx hb dX10_shaped_61 ?_
                  refine eqi (y := nI (y7_23 + 1)) (nI_add y7_23 1) ?_
                  refine lv_istore (lv' := [(9, .int (nI (y7_23 + 1))), (8, .int (nI (y6_14 + 1))), (7, .int (nI y7_23)), (6, .int (nI y6_14)), (5, .ref q1), (0, .ref g_o), (1, .int (nI n)), (2, .int (nI c0)), (3, .int y), (4, .int z)]) hx hb dX10_shaped_62 hl (by decide) rfl (fun ls hl => ?_)
                  refine lv_iload hx hb dX10_shaped_64 (lv_at hl 1 rfl) ?_
                  refine lv_aload_n hx hb dX10_shaped_66 rfl (lv_at hl 5 rfl) ?_
                  refine gf (k0 := k_o + 2) hX hB h_o rfl in7 0 (by decide) wm_5_148 rfl rfl dX10_shaped_67 ?_
                  refine lv_icmp_ge (tgt := 99) hx hb dX10_shaped_70 (by decide) (fun c105 => ?_) (fun c105 => ?_)
                  · rw [nleP (a := R_o) (b := y6_14 + 1) (by omega) (by omega)] at c105
                    replace hR := ifp c105 hR
                    refine lv_iinc (v := nI (y7_23 + 1)) (lv' := [(7, .int (nI (y7_23 + 1))), (9, .int (nI (y7_23 + 1))), (8, .int (nI (y6_14 + 1))), (6, .int (nI y6_14)), (5, .ref q1), (0, .ref g_o), (1, .int (nI n)), (2, .int (nI c0)), (3, .int y), (4, .int z)]) hx hb dX10_shaped_99 hl (k := 2) rfl (nI_add y7_23 1) (by decide) rfl (fun ls hl => ?_)
                    refine lv_goto (tgt := 23) hx hb dX10_shaped_102 (by decide) ?_
                    exact ih23 (y7_23 + 1) fb2_23 _ _ (by omega) (by first | exact hf_23 | exact sm_upd hf_23 (hsm _ (by omega))) (by omega) hR hB _ (lv_sub hl [0, 3, 4, 5, 6, 7, 8, 9] rfl)
                  · rw [nleP (a := R_o) (b := y6_14 + 1) (by omega) (by omega)] at c105
                    replace hR := ifn c105 hR
                    refine lv_iload hx hb dX10_shaped_73 (lv_at hl 0 rfl) ?_
                    refine lv_aload_n hx hb dX10_shaped_75 rfl (lv_at hl 5 rfl) ?_
                    refine gf (k0 := k_o + 2) hX hB h_o rfl in7 1 (by decide) wm_5_152 rfl rfl dX10_shaped_76 ?_
                    refine lv_icmp_ge (tgt := 99) hx hb dX10_shaped_79 (by decide) (fun c106 => ?_) (fun c106 => ?_)
                    · rw [nleP (a := C_o) (b := y7_23 + 1) (by omega) (by omega)] at c106
                      replace hR := ifp c106 hR
                      refine lv_iinc (v := nI (y7_23 + 1)) (lv' := [(7, .int (nI (y7_23 + 1))), (9, .int (nI (y7_23 + 1))), (8, .int (nI (y6_14 + 1))), (6, .int (nI y6_14)), (5, .ref q1), (0, .ref g_o), (1, .int (nI n)), (2, .int (nI c0)), (3, .int y), (4, .int z)]) hx hb dX10_shaped_99 hl (k := 2) rfl (nI_add y7_23 1) (by decide) rfl (fun ls hl => ?_)
                      refine lv_goto (tgt := 23) hx hb dX10_shaped_102 (by decide) ?_
                      exact ih23 (y7_23 + 1) fb2_23 _ _ (by omega) (by first | exact hf_23 | exact sm_upd hf_23 (hsm _ (by omega))) (by omega) hR hB _ (lv_sub hl [0, 3, 4, 5, 6, 7, 8, 9] rfl)
                    · rw [nleP (a := C_o) (b := y7_23 + 1) (by omega) (by omega)] at c106
                      replace hR := ifn c106 hR
                      refine lv_aload hx hb dX10_shaped_82 (lv_at hl 4 rfl) ?_
                      refine lv_iload hx hb dX10_shaped_84 (lv_at hl 3 rfl) ?_
                      refine lv_iload hx hb dX10_shaped_86 (lv_at hl 2 rfl) ?_
                      refine lv_aload_n hx hb dX10_shaped_88 rfl (lv_at hl 5 rfl) ?_
                      refine lv_iload hx hb dX10_shaped_89 (lv_at hl 1 rfl) ?_
                      refine lv_iload hx hb dX10_shaped_91 (lv_at hl 0 rfl) ?_
                      refine call_V (n := 2) (k0 := (k_o + 2)) (As := [.int (nI (y6_14 + 1)), .int (nI (y7_23 + 1))]) (rest := [.int (nI y7_23), .int (nI y6_14), .ref q1]) hX hB (k_X7_at κ l (lA κ b2 (n * 5) fb2_23 :: gO q1 n c0 b2 :: w) (k_o + 2) (j_o + 2) g_o b_o R_o C_o f_o (nI (y6_14 + 1)) (y6_14 + 1) (nI (y7_23 + 1)) (y7_23 + 1) h_o i_o s_o rfl rfl (by omega)) ⟨rfl, yk_X7_at⟩ wm_5_237 wm_5_238 wm_5_239 wm_1_7 wm_6_0 ⟨Nat.le_of_ble_eq_true rfl, Nat.le_of_ble_eq_true rfl⟩ ⟨Nat.le_of_ble_eq_true rfl, Nat.le_of_ble_eq_true rfl⟩ h_o rfl rfl rfl hl.1 rfl (Nat.le_of_ble_eq_true rfl) dX10_shaped_93 (fun o w' H locs hp hB => ?_)
                      obtain ⟨rfl, hw9⟩ := hp
                      replace hB : Bd κ A s (lA κ b2 (n * 5) fb2_23 :: gO q1 n c0 b2 :: w) H locs := by rw [hw9] at hB; exact hB
                      refine W.eq (g2 := F0 m 96 ls [.long (f_o ((y6_14 + 1) * 5 + (y7_23 + 1))), .int (nI y7_23), .int (nI y6_14), .ref q1]) rfl ?_
                      refine call_V (n := 3) (k0 := 1) (As := [.int (nI y6_14), .int (nI y7_23), .long (f_o ((y6_14 + 1) * 5 + (y7_23 + 1)))]) (rest := []) hX hB (k_X7_put κ l (lA κ b2 (n * 5) fb2_23 :: gO q1 n c0 b2 :: w) 1 0 q1 b2 n c0 fb2_23 (nI y6_14) y6_14 (nI y7_23) y7_23 (f_o ((y6_14 + 1) * 5 + (y7_23 + 1))) rfl rfl ⟨by omega, by omega, by omega, by omega⟩ rfl rfl (by omega)) ⟨rfl, yk_X7_put⟩ wm_6_1 wm_5_222 wm_5_223 wm_1_7 wm_5_224 ⟨Nat.le_of_ble_eq_true rfl, Nat.le_of_ble_eq_true rfl⟩ ⟨Nat.le_of_ble_eq_true rfl, Nat.le_of_ble_eq_true rfl⟩ rfl rfl rfl rfl hl.1 rfl (Nat.le_of_ble_eq_true rfl) dX10_shaped_96 (fun o w' H locs hp hB => ?_)
                      obtain ⟨rfl, hw9⟩ := hp
                      replace hB : Bd κ A s (lA κ b2 (n * 5) (vp_updL fb2_23 (y6_14 * 5 + y7_23) (f_o ((y6_14 + 1) * 5 + (y7_23 + 1)))) :: gO q1 n c0 b2 :: w) H locs := by rw [hw9] at hB; exact hB
                      refine W.eq (g2 := F0 m 99 ls []) rfl ?_
                      refine lv_iinc (v := nI (y7_23 + 1)) (lv' := [(7, .int (nI (y7_23 + 1))), (9, .int (nI (y7_23 + 1))), (8, .int (nI (y6_14 + 1))), (6, .int (nI y6_14)), (5, .ref q1), (0, .ref g_o), (1, .int (nI n)), (2, .int (nI c0)), (3, .int y), (4, .int z)]) hx hb dX10_shaped_99 hl (k := 2) rfl (nI_add y7_23 1) (by decide) rfl (fun ls hl => ?_)
                      refine lv_goto (tgt := 23) hx hb dX10_shaped_102 (by decide) ?_
                      exact ih23 (y7_23 + 1) (vp_updL fb2_23 (y6_14 * 5 + y7_23) (f_o ((y6_14 + 1) * 5 + (y7_23 + 1)))) _ _ (by omega) (by first | exact hf_23 | exact sm_upd hf_23 (hsm _ (by omega))) (by omega) hR hB _ (lv_sub hl [0, 3, 4, 5, 6, 7, 8, 9] rfl)
                · replace hR := ifn c104 hR
                  refine lv_iload hx hb dX10_shaped_53 (lv_at hl 1 rfl) ?_
                  refine lv_goto (tgt := 62) hx hb dX10_shaped_55 (by decide) ?_
                  refine lv_istore (lv' := [(9, .int (nI y7_23)), (8, .int (nI (y6_14 + 1))), (7, .int (nI y7_23)), (6, .int (nI y6_14)), (5, .ref q1), (0, .ref g_o), (1, .int (nI n)), (2, .int (nI c0)), (3, .int y), (4, .int z)]) hx hb dX10_shaped_62 hl (by decide) rfl (fun ls hl => ?_)
                  refine lv_iload hx hb dX10_shaped_64 (lv_at hl 1 rfl) ?_
                  refine lv_aload_n hx hb dX10_shaped_66 rfl (lv_at hl 5 rfl) ?_
                  refine gf (k0 := k_o + 2) hX hB h_o rfl in7 0 (by decide) wm_5_148 rfl rfl dX10_shaped_67 ?_
                  refine lv_icmp_ge (tgt := 99) hx hb dX10_shaped_70 (by decide) (fun c107 => ?_) (fun c107 => ?_)
                  · rw [nleP (a := R_o) (b := y6_14 + 1) (by omega) (by omega)] at c107
                    replace hR := ifp c107 hR
                    refine lv_iinc (v := nI (y7_23 + 1)) (lv' := [(7, .int (nI (y7_23 + 1))), (9, .int (nI y7_23)), (8, .int (nI (y6_14 + 1))), (6, .int (nI y6_14)), (5, .ref q1), (0, .ref g_o), (1, .int (nI n)), (2, .int (nI c0)), (3, .int y), (4, .int z)]) hx hb dX10_shaped_99 hl (k := 2) rfl (nI_add y7_23 1) (by decide) rfl (fun ls hl => ?_)
                    refine lv_goto (tgt := 23) hx hb dX10_shaped_102 (by decide) ?_
                    exact ih23 (y7_23 + 1) fb2_23 _ _ (by omega) (by first | exact hf_23 | exact sm_upd hf_23 (hsm _ (by omega))) (by omega) hR hB _ (lv_sub hl [0, 3, 4, 5, 6, 7, 8, 9] rfl)
                  · rw [nleP (a := R_o) (b := y6_14 + 1) (by omega) (by omega)] at c107
                    replace hR := ifn c107 hR
                    refine lv_iload hx hb dX10_shaped_73 (lv_at hl 0 rfl) ?_
                    refine lv_aload_n hx hb dX10_shaped_75 rfl (lv_at hl 5 rfl) ?_
                    refine gf (k0 := k_o + 2) hX hB h_o rfl in7 1 (by decide) wm_5_152 rfl rfl dX10_shaped_76 ?_
                    refine lv_icmp_ge (tgt := 99) hx hb dX10_shaped_79 (by decide) (fun c108 => ?_) (fun c108 => ?_)
                    · rw [nleP (a := C_o) (b := y7_23) (by omega) (by omega)] at c108
                      replace hR := ifp c108 hR
                      refine lv_iinc (v := nI (y7_23 + 1)) (lv' := [(7, .int (nI (y7_23 + 1))), (9, .int (nI y7_23)), (8, .int (nI (y6_14 + 1))), (6, .int (nI y6_14)), (5, .ref q1), (0, .ref g_o), (1, .int (nI n)), (2, .int (nI c0)), (3, .int y), (4, .int z)]) hx hb dX10_shaped_99 hl (k := 2) rfl (nI_add y7_23 1) (by decide) rfl (fun ls hl => ?_)
                      refine lv_goto (tgt := 23) hx hb dX10_shaped_102 (by decide) ?_
                      exact ih23 (y7_23 + 1) fb2_23 _ _ (by omega) (by first | exact hf_23 | exact sm_upd hf_23 (hsm _ (by omega))) (by omega) hR hB _ (lv_sub hl [0, 3, 4, 5, 6, 7, 8, 9] rfl)
                    · rw [nleP (a := C_o) (b := y7_23) (by omega) (by omega)] at c108
                      replace hR := ifn c108 hR
                      refine lv_aload hx hb dX10_shaped_82 (lv_at hl 4 rfl) ?_
                      refine lv_iload hx hb dX10_shaped_84 (lv_at hl 3 rfl) ?_
                      refine lv_iload hx hb dX10_shaped_86 (lv_at hl 2 rfl) ?_
                      refine lv_aload_n hx hb dX10_shaped_88 rfl (lv_at hl 5 rfl) ?_
                      refine lv_iload hx hb dX10_shaped_89 (lv_at hl 1 rfl) ?_
                      refine lv_iload hx hb dX10_shaped_91 (lv_at hl 0 rfl) ?_
                      refine call_V (n := 2) (k0 := (k_o + 2)) (As := [.int (nI (y6_14 + 1)), .int (nI y7_23)]) (rest := [.int (nI y7_23), .int (nI y6_14), .ref q1]) hX hB (k_X7_at κ l (lA κ b2 (n * 5) fb2_23 :: gO q1 n c0 b2 :: w) (k_o + 2) (j_o + 2) g_o b_o R_o C_o f_o (nI (y6_14 + 1)) (y6_14 + 1) (nI y7_23) y7_23 h_o i_o s_o rfl rfl (by omega)) ⟨rfl, yk_X7_at⟩ wm_5_237 wm_5_238 wm_5_239 wm_1_7 wm_6_0 ⟨Nat.le_of_ble_eq_true rfl, Nat.le_of_ble_eq_true rfl⟩ ⟨Nat.le_of_ble_eq_true rfl, Nat.le_of_ble_eq_true rfl⟩ h_o rfl rfl rfl hl.1 rfl (Nat.le_of_ble_eq_true rfl) dX10_shaped_93 (fun o w' H locs hp hB => ?_)
                      obtain ⟨rfl, hw9⟩ := hp
                      replace hB : Bd κ A s (lA κ b2 (n * 5) fb2_23 :: gO q1 n c0 b2 :: w) H locs := by rw [hw9] at hB; exact hB
                      refine W.eq (g2 := F0 m 96 ls [.long (f_o ((y6_14 + 1) * 5 + y7_23)), .int (nI y7_23), .int (nI y6_14), .ref q1]) rfl ?_
                      refine call_V (n := 3) (k0 := 1) (As := [.int (nI y6_14), .int (nI y7_23), .long (f_o ((y6_14 + 1) * 5 + y7_23))]) (rest := []) hX hB (k_X7_put κ l (lA κ b2 (n * 5) fb2_23 :: gO q1 n c0 b2 :: w) 1 0 q1 b2 n c0 fb2_23 (nI y6_14) y6_14 (nI y7_23) y7_23 (f_o ((y6_14 + 1) * 5 + y7_23)) rfl rfl ⟨by omega, by omega, by omega, by omega⟩ rfl rfl (by omega)) ⟨rfl, yk_X7_put⟩ wm_6_1 wm_5_222 wm_5_223 wm_1_7 wm_5_224 ⟨Nat.le_of_ble_eq_true rfl, Nat.le_of_ble_eq_true rfl⟩ ⟨Nat.le_of_ble_eq_true rfl, Nat.le_of_ble_eq_true rfl⟩ rfl rfl rfl rfl hl.1 rfl (Nat.le_of_ble_eq_true rfl) dX10_shaped_96 (fun o w' H locs hp hB => ?_)
                      obtain ⟨rfl, hw9⟩ := hp
                      replace hB : Bd κ A s (lA κ b2 (n * 5) (vp_updL fb2_23 (y6_14 * 5 + y7_23) (f_o ((y6_14 + 1) * 5 + y7_23))) :: gO q1 n c0 b2 :: w) H locs := by rw [hw9] at hB; exact hB
                      refine W.eq (g2 := F0 m 99 ls []) rfl ?_
                      refine lv_iinc (v := nI (y7_23 + 1)) (lv' := [(7, .int (nI (y7_23 + 1))), (9, .int (nI y7_23)), (8, .int (nI (y6_14 + 1))), (6, .int (nI y6_14)), (5, .ref q1), (0, .ref g_o), (1, .int (nI n)), (2, .int (nI c0)), (3, .int y), (4, .int z)]) hx hb dX10_shaped_99 hl (k := 2) rfl (nI_add y7_23 1) (by decide) rfl (fun ls hl => ?_)
                      refine lv_goto (tgt := 23) hx hb dX10_shaped_102 (by decide) ?_
                      exact ih23 (y7_23 + 1) (vp_updL fb2_23 (y6_14 * 5 + y7_23) (f_o ((y6_14 + 1) * 5 + y7_23))) _ _ (by omega) (by first | exact hf_23 | exact sm_upd hf_23 (hsm _ (by omega))) (by omega) hR hB _ (lv_sub hl [0, 3, 4, 5, 6, 7, 8, 9] rfl)
              · replace hR := ifn c103 hR
                refine lv_iload hx hb dX10_shaped_35 (lv_at hl 1 rfl) ?_
                refine lv_goto (tgt := 44) hx hb dX10_shaped_37 (by decide) ?_
                refine lv_istore (lv' := [(8, .int (nI y6_14)), (7, .int (nI y7_23)), (6, .int (nI y6_14)), (5, .ref q1), (0, .ref g_o), (1, .int (nI n)), (2, .int (nI c0)), (3, .int y), (4, .int z)]) hx hb dX10_shaped_44 hl (by decide) rfl (fun ls hl => ?_)
                refine lv_iload hx hb dX10_shaped_46 (lv_at hl 1 rfl) ?_
                refine lv_iload hx hb dX10_shaped_48 (lv_at hl 8 rfl) ?_
                refine lv_icmp_ge (tgt := 58) hx hb dX10_shaped_50 (by decide) (fun c109 => ?_) (fun c109 => ?_)
                · replace hR := ifp c109 hR
                  refine lv_iload hx hb dX10_shaped_58 (lv_at hl 1 rfl) ?_
                  refine lv_iconst (v := 1) hx hb dX10_shaped_60 (by decide) ?_
                  refine lv_iadd hx hb dX10_shaped_61 ?_
                  refine eqi (y := nI (y7_23 + 1)) (nI_add y7_23 1) ?_
                  refine lv_istore (lv' := [(9, .int (nI (y7_23 + 1))), (8, .int (nI y6_14)), (7, .int (nI y7_23)), (6, .int (nI y6_14)), (5, .ref q1), (0, .ref g_o), (1, .int (nI n)), (2, .int (nI c0)), (3, .int y), (4, .int z)]) hx hb dX10_shaped_62 hl (by decide) rfl (fun ls hl => ?_)
                  refine lv_iload hx hb dX10_shaped_64 (lv_at hl 1 rfl) ?_
                  refine lv_aload_n hx hb dX10_shaped_66 rfl (lv_at hl 5 rfl) ?_
                  refine gf (k0 := k_o + 2) hX hB h_o rfl in7 0 (by decide) wm_5_148 rfl rfl dX10_shaped_67 ?_
                  refine lv_icmp_ge (tgt := 99) hx hb dX10_shaped_70 (by decide) (fun c110 => ?_) (fun c110 => ?_)
                  · rw [nleP (a := R_o) (b := y6_14) (by omega) (by omega)] at c110
                    replace hR := ifp c110 hR
                    refine lv_iinc (v := nI (y7_23 + 1)) (lv' := [(7, .int (nI (y7_23 + 1))), (9, .int (nI (y7_23 + 1))), (8, .int (nI y6_14)), (6, .int (nI y6_14)), (5, .ref q1), (0, .ref g_o), (1, .int (nI n)), (2, .int (nI c0)), (3, .int y), (4, .int z)]) hx hb dX10_shaped_99 hl (k := 2) rfl (nI_add y7_23 1) (by decide) rfl (fun ls hl => ?_)
                    refine lv_goto (tgt := 23) hx hb dX10_shaped_102 (by decide) ?_
                    exact ih23 (y7_23 + 1) fb2_23 _ _ (by omega) (by first | exact hf_23 | exact sm_upd hf_23 (hsm _ (by omega))) (by omega) hR hB _ (lv_sub hl [0, 3, 4, 5, 6, 7, 8, 9] rfl)
                  · rw [nleP (a := R_o) (b := y6_14) (by omega) (by omega)] at c110
                    replace hR := ifn c110 hR
                    refine lv_iload hx hb dX10_shaped_73 (lv_at hl 0 rfl) ?_
                    refine lv_aload_n hx hb dX10_shaped_75 rfl (lv_at hl 5 rfl) ?_
                    refine gf (k0 := k_o + 2) hX hB h_o rfl in7 1 (by decide) wm_5_152 rfl rfl dX10_shaped_76 ?_
                    refine lv_icmp_ge (tgt := 99) hx hb dX10_shaped_79 (by decide) (fun c111 => ?_) (fun c111 => ?_)
                    · rw [nleP (a := C_o) (b := y7_23 + 1) (by omega) (by omega)] at c111
                      replace hR := ifp c111 hR
                      refine lv_iinc (v := nI (y7_23 + 1)) (lv' := [(7, .int (nI (y7_23 + 1))), (9, .int (nI (y7_23 + 1))), (8, .int (nI y6_14)), (6, .int (nI y6_14)), (5, .ref q1), (0, .ref g_o), (1, .int (nI n)), (2, .int (nI c0)), (3, .int y), (4, .int z)]) hx hb dX10_shaped_99 hl (k := 2) rfl (nI_add y7_23 1) (by decide) rfl (fun ls hl => ?_)
                      refine lv_goto (tgt := 23) hx hb dX10_shaped_102 (by decide) ?_
                      exact ih23 (y7_23 + 1) fb2_23 _ _ (by omega) (by first | exact hf_23 | exact sm_upd hf_23 (hsm _ (by omega))) (by omega) hR hB _ (lv_sub hl [0, 3, 4, 5, 6, 7, 8, 9] rfl)
                    · rw [nleP (a := C_o) (b := y7_23 + 1) (by omega) (by omega)] at c111
                      replace hR := ifn c111 hR
                      refine lv_aload hx hb dX10_shaped_82 (lv_at hl 4 rfl) ?_
                      refine lv_iload hx hb dX10_shaped_84 (lv_at hl 3 rfl) ?_
                      refine lv_iload hx hb dX10_shaped_86 (lv_at hl 2 rfl) ?_
                      refine lv_aload_n hx hb dX10_shaped_88 rfl (lv_at hl 5 rfl) ?_
                      refine lv_iload hx hb dX10_shaped_89 (lv_at hl 1 rfl) ?_
                      refine lv_iload hx hb dX10_shaped_91 (lv_at hl 0 rfl) ?_
                      refine call_V (n := 2) (k0 := (k_o + 2)) (As := [.int (nI y6_14), .int (nI (y7_23 + 1))]) (rest := [.int (nI y7_23), .int (nI y6_14), .ref q1]) hX hB (k_X7_at κ l (lA κ b2 (n * 5) fb2_23 :: gO q1 n c0 b2 :: w) (k_o + 2) (j_o + 2) g_o b_o R_o C_o f_o (nI y6_14) y6_14 (nI (y7_23 + 1)) (y7_23 + 1) h_o i_o s_o rfl rfl (by omega)) ⟨rfl, yk_X7_at⟩ wm_5_237 wm_5_238 wm_5_239 wm_1_7 wm_6_0 ⟨Nat.le_of_ble_eq_true rfl, Nat.le_of_ble_eq_true rfl⟩ ⟨Nat.le_of_ble_eq_true rfl, Nat.le_of_ble_eq_true rfl⟩ h_o rfl rfl rfl hl.1 rfl (Nat.le_of_ble_eq_true rfl) dX10_shaped_93 (fun o w' H locs hp hB => ?_)
                      obtain ⟨rfl, hw9⟩ := hp
                      replace hB : Bd κ A s (lA κ b2 (n * 5) fb2_23 :: gO q1 n c0 b2 :: w) H locs := by rw [hw9] at hB; exact hB
                      refine W.eq (g2 := F0 m 96 ls [.long (f_o (y6_14 * 5 + (y7_23 + 1))), .int (nI y7_23), .int (nI y6_14), .ref q1]) rfl ?_
                      refine call_V (n := 3) (k0 := 1) (As := [.int (nI y6_14), .int (nI y7_23), .long (f_o (y6_14 * 5 + (y7_23 + 1)))]) (rest := []) hX hB (k_X7_put κ l (lA κ b2 (n * 5) fb2_23 :: gO q1 n c0 b2 :: w) 1 0 q1 b2 n c0 fb2_23 (nI y6_14) y6_14 (nI y7_23) y7_23 (f_o (y6_14 * 5 + (y7_23 + 1))) rfl rfl ⟨by omega, by omega, by omega, by omega⟩ rfl rfl (by omega)) ⟨rfl, yk_X7_put⟩ wm_6_1 wm_5_222 wm_5_223 wm_1_7 wm_5_224 ⟨Nat.le_of_ble_eq_true rfl, Nat.le_of_ble_eq_true rfl⟩ ⟨Nat.le_of_ble_eq_true rfl, Nat.le_of_ble_eq_true rfl⟩ rfl rfl rfl rfl hl.1 rfl (Nat.le_of_ble_eq_true rfl) dX10_shaped_96 (fun o w' H locs hp hB => ?_)
                      obtain ⟨rfl, hw9⟩ := hp
                      replace hB : Bd κ A s (lA κ b2 (n * 5) (vp_updL fb2_23 (y6_14 * 5 + y7_23) (f_o (y6_14 * 5 + (y7_23 + 1)))) :: gO q1 n c0 b2 :: w) H locs := by rw [hw9] at hB; exact hB
                      refine W.eq (g2 := F0 m 99 ls []) rfl ?_
                      refine lv_iinc (v := nI (y7_23 + 1)) (lv' := [(7, .int (nI (y7_23 + 1))), (9, .int (nI (y7_23 + 1))), (8, .int (nI y6_14)), (6, .int (nI y6_14)), (5, .ref q1), (0, .ref g_o), (1, .int (nI n)), (2, .int (nI c0)), (3, .int y), (4, .int z)]) hx hb dX10_shaped_99 hl (k := 2) rfl (nI_add y7_23 1) (by decide) rfl (fun ls hl => ?_)
                      refine lv_goto (tgt := 23) hx hb dX10_shaped_102 (by decide) ?_
                      exact ih23 (y7_23 + 1) (vp_updL fb2_23 (y6_14 * 5 + y7_23) (f_o (y6_14 * 5 + (y7_23 + 1)))) _ _ (by omega) (by first | exact hf_23 | exact sm_upd hf_23 (hsm _ (by omega))) (by omega) hR hB _ (lv_sub hl [0, 3, 4, 5, 6, 7, 8, 9] rfl)
                · replace hR := ifn c109 hR
                  refine lv_iload hx hb dX10_shaped_53 (lv_at hl 1 rfl) ?_
                  refine lv_goto (tgt := 62) hx hb dX10_shaped_55 (by decide) ?_
                  refine lv_istore (lv' := [(9, .int (nI y7_23)), (8, .int (nI y6_14)), (7, .int (nI y7_23)), (6, .int (nI y6_14)), (5, .ref q1), (0, .ref g_o), (1, .int (nI n)), (2, .int (nI c0)), (3, .int y), (4, .int z)]) hx hb dX10_shaped_62 hl (by decide) rfl (fun ls hl => ?_)
                  refine lv_iload hx hb dX10_shaped_64 (lv_at hl 1 rfl) ?_
                  refine lv_aload_n hx hb dX10_shaped_66 rfl (lv_at hl 5 rfl) ?_
                  refine gf (k0 := k_o + 2) hX hB h_o rfl in7 0 (by decide) wm_5_148 rfl rfl dX10_shaped_67 ?_
                  refine lv_icmp_ge (tgt := 99) hx hb dX10_shaped_70 (by decide) (fun c112 => ?_) (fun c112 => ?_)
                  · rw [nleP (a := R_o) (b := y6_14) (by omega) (by omega)] at c112
                    replace hR := ifp c112 hR
                    refine lv_iinc (v := nI (y7_23 + 1)) (lv' := [(7, .int (nI (y7_23 + 1))), (9, .int (nI y7_23)), (8, .int (nI y6_14)), (6, .int (nI y6_14)), (5, .ref q1), (0, .ref g_o), (1, .int (nI n)), (2, .int (nI c0)), (3, .int y), (4, .int z)]) hx hb dX10_shaped_99 hl (k := 2) rfl (nI_add y7_23 1) (by decide) rfl (fun ls hl => ?_)
                    refine lv_goto (tgt := 23) hx hb dX10_shaped_102 (by decide) ?_
                    exact ih23 (y7_23 + 1) fb2_23 _ _ (by omega) (by first | exact hf_23 | exact sm_upd hf_23 (hsm _ (by omega))) (by omega) hR hB _ (lv_sub hl [0, 3, 4, 5, 6, 7, 8, 9] rfl)
                  · rw [nleP (a := R_o) (b := y6_14) (by omega) (by omega)] at c112
                    replace hR := ifn c112 hR
                    refine lv_iload hx hb dX10_shaped_73 (lv_at hl 0 rfl) ?_
                    refine lv_aload_n hx hb dX10_shaped_75 rfl (lv_at hl 5 rfl) ?_
                    refine gf (k0 := k_o + 2) hX hB h_o rfl in7 1 (by decide) wm_5_152 rfl rfl dX10_shaped_76 ?_
                    refine lv_icmp_ge (tgt := 99) hx hb dX10_shaped_79 (by decide) (fun c113 => ?_) (fun c113 => ?_)
                    · rw [nleP (a := C_o) (b := y7_23) (by omega) (by omega)] at c113
                      replace hR := ifp c113 hR
                      refine lv_iinc (v := nI (y7_23 + 1)) (lv' := [(7, .int (nI (y7_23 + 1))), (9, .int (nI y7_23)), (8, .int (nI y6_14)), (6, .int (nI y6_14)), (5, .ref q1), (0, .ref g_o), (1, .int (nI n)), (2, .int (nI c0)), (3, .int y), (4, .int z)]) hx hb dX10_shaped_99 hl (k := 2) rfl (nI_add y7_23 1) (by decide) rfl (fun ls hl => ?_)
                      refine lv_goto (tgt := 23) hx hb dX10_shaped_102 (by decide) ?_
                      exact ih23 (y7_23 + 1) fb2_23 _ _ (by omega) (by first | exact hf_23 | exact sm_upd hf_23 (hsm _ (by omega))) (by omega) hR hB _ (lv_sub hl [0, 3, 4, 5, 6, 7, 8, 9] rfl)
                    · rw [nleP (a := C_o) (b := y7_23) (by omega) (by omega)] at c113
                      replace hR := ifn c113 hR
                      refine lv_aload hx hb dX10_shaped_82 (lv_at hl 4 rfl) ?_
                      refine lv_iload hx hb dX10_shaped_84 (lv_at hl 3 rfl) ?_
                      refine lv_iload hx hb dX10_shaped_86 (lv_at hl 2 rfl) ?_
                      refine lv_aload_n hx hb dX10_shaped_88 rfl (lv_at hl 5 rfl) ?_
                      refine lv_iload hx hb dX10_shaped_89 (lv_at hl 1 rfl) ?_
                      refine lv_iload hx hb dX10_shaped_91 (lv_at hl 0 rfl) ?_
                      refine call_V (n := 2) (k0 := (k_o + 2)) (As := [.int (nI y6_14), .int (nI y7_23)]) (rest := [.int (nI y7_23), .int (nI y6_14), .ref q1]) hX hB (k_X7_at κ l (lA κ b2 (n * 5) fb2_23 :: gO q1 n c0 b2 :: w) (k_o + 2) (j_o + 2) g_o b_o R_o C_o f_o (nI y6_14) y6_14 (nI y7_23) y7_23 h_o i_o s_o rfl rfl (by omega)) ⟨rfl, yk_X7_at⟩ wm_5_237 wm_5_238 wm_5_239 wm_1_7 wm_6_0 ⟨Nat.le_of_ble_eq_true rfl, Nat.le_of_ble_eq_true rfl⟩ ⟨Nat.le_of_ble_eq_true rfl, Nat.le_of_ble_eq_true rfl⟩ h_o rfl rfl rfl hl.1 rfl (Nat.le_of_ble_eq_true rfl) dX10_shaped_93 (fun o w' H locs hp hB => ?_)
                      obtain ⟨rfl, hw9⟩ := hp
                      replace hB : Bd κ A s (lA κ b2 (n * 5) fb2_23 :: gO q1 n c0 b2 :: w) H locs := by rw [hw9] at hB; exact hB
                      refine W.eq (g2 := F0 m 96 ls [.long (f_o (y6_14 * 5 + y7_23)), .int (nI y7_23), .int (nI y6_14), .ref q1]) rfl ?_
                      refine call_V (n := 3) (k0 := 1) (As := [.int (nI y6_14), .int (nI y7_23), .long (f_o (y6_14 * 5 + y7_23))]) (rest := []) hX hB (k_X7_put κ l (lA κ b2 (n * 5) fb2_23 :: gO q1 n c0 b2 :: w) 1 0 q1 b2 n c0 fb2_23 (nI y6_14) y6_14 (nI y7_23) y7_23 (f_o (y6_14 * 5 + y7_23)) rfl rfl ⟨by omega, by omega, by omega, by omega⟩ rfl rfl (by omega)) ⟨rfl, yk_X7_put⟩ wm_6_1 wm_5_222 wm_5_223 wm_1_7 wm_5_224 ⟨Nat.le_of_ble_eq_true rfl, Nat.le_of_ble_eq_true rfl⟩ ⟨Nat.le_of_ble_eq_true rfl, Nat.le_of_ble_eq_true rfl⟩ rfl rfl rfl rfl hl.1 rfl (Nat.le_of_ble_eq_true rfl) dX10_shaped_96 (fun o w' H locs hp hB => ?_)
                      obtain ⟨rfl, hw9⟩ := hp
                      replace hB : Bd κ A s (lA κ b2 (n * 5) (vp_updL fb2_23 (y6_14 * 5 + y7_23) (f_o (y6_14 * 5 + y7_23))) :: gO q1 n c0 b2 :: w) H locs := by rw [hw9] at hB; exact hB
                      refine W.eq (g2 := F0 m 99 ls []) rfl ?_
                      refine lv_iinc (v := nI (y7_23 + 1)) (lv' := [(7, .int (nI (y7_23 + 1))), (9, .int (nI y7_23)), (8, .int (nI y6_14)), (6, .int (nI y6_14)), (5, .ref q1), (0, .ref g_o), (1, .int (nI n)), (2, .int (nI c0)), (3, .int y), (4, .int z)]) hx hb dX10_shaped_99 hl (k := 2) rfl (nI_add y7_23 1) (by decide) rfl (fun ls hl => ?_)
                      refine lv_goto (tgt := 23) hx hb dX10_shaped_102 (by decide) ?_
                      exact ih23 (y7_23 + 1) (vp_updL fb2_23 (y6_14 * 5 + y7_23) (f_o (y6_14 * 5 + y7_23))) _ _ (by omega) (by first | exact hf_23 | exact sm_upd hf_23 (hsm _ (by omega))) (by omega) hR hB _ (lv_sub hl [0, 3, 4, 5, 6, 7, 8, 9] rfl)
        exact lp23 _ 0 fb2_14 _ _ (by omega) hf_14 (Nat.lt_succ_self _) hR hB _ hl
  exact lp14 _ 0 (fun _ => 0) _ _ (by omega) (fun _ _ => sm_0) (Nat.lt_succ_self _) hR hB _ hl
noncomputable def D_X10_toldOf (R_o : Nat) (C_o : Nat) (f_o : Nat → Int64) (y : Int32) : Int32 × Nat × Nat × (Nat → Int64) := (if 2 ≤ y then bnd7 (D_X9_init R_o C_o f_o) (fun (F9 : Nat → Int64) (F10 : Nat → Int64) (F11 : Nat → Int64) (S12 : Int32) (S13 : Int32) (K14 : Nat) (G15 : Int32) => (if G15 = 0 then (if y = 2 then (1, R_o, C_o, F11) else (if y = 3 then (1, R_o, R_o, F10) else (1, C_o, C_o, F9))) else (0, 0, 0, fun _ => 0))) else bnd4 (D_X8_init R_o C_o f_o) (fun (F26 : Nat → Int64) (F27 : Nat → Int64) (S28 : Int32) (G29 : Int32) => (if G29 = 0 then (if y = 0 then (1, R_o, C_o, F27) else (1, R_o, R_o, F26)) else (0, 0, 0, fun _ => 0))))
theorem D_X10_toldOf_s {R_o : Nat} {C_o : Nat} {f_o : Nat → Int64} {y : Int32} : D_X10_toldOf R_o C_o f_o y = (if 2 ≤ y then bnd7 (D_X9_init R_o C_o f_o) (fun (F9 : Nat → Int64) (F10 : Nat → Int64) (F11 : Nat → Int64) (S12 : Int32) (S13 : Int32) (K14 : Nat) (G15 : Int32) => (if G15 = 0 then (if y = 2 then (1, R_o, C_o, F11) else (if y = 3 then (1, R_o, R_o, F10) else (1, C_o, C_o, F9))) else (0, 0, 0, fun _ => 0))) else bnd4 (D_X8_init R_o C_o f_o) (fun (F26 : Nat → Int64) (F27 : Nat → Int64) (S28 : Int32) (G29 : Int32) => (if G29 = 0 then (if y = 0 then (1, R_o, C_o, F27) else (1, R_o, R_o, F26)) else (0, 0, 0, fun _ => 0)))) := rfl
set_option maxHeartbeats 4000000 in
set_option maxRecDepth 100000 in
theorem k_X10_toldOf (κ : Kt) (l : Launch) (w : va_W) (k_o j_o g_o b_o R_o C_o : Nat) (f_o : Nat → Int64) (y : Int32) (h_o : w[k_o]? = some (gO g_o R_o C_o b_o)) (i_o : w[j_o]? = some (lA κ b_o (R_o * 5) f_o)) (s_o : shp R_o C_o) (hC4 : C_o ≤ 4) (hng : ∀ k, k < R_o * 5 → ng (f_o k)) (hyy : ¬ y < 0 ∧ y ≤ 4) (o_z : Int32) (o_R : Nat) (o_C : Nat) (o_F : Nat → Int64) (hR : D_X10_toldOf R_o C_o f_o y = (o_z, o_R, o_C, o_F)) : CM κ l yX10_toldOf cX10_toldOf 3 (some (.object "GridmenderModel$Grid")) 5 122 7 76 [.ref g_o, .int y] (w) (fun o w' => (o_z = 0 ∧ o = some .null ∧ w' = w) ∨ o_z = 1 ∧ ∃ (q1 q2 : Nat), o = some (.ref q1) ∧ ((1 ≤ o_R ∧ o_R ≤ 4 ∧ 1 ≤ o_C ∧ o_C ≤ 4) ∧ TSf y R_o C_o o_R o_C) ∧ w' = lA κ q2 (o_R * 5) o_F :: gO q1 o_R o_C q2 :: w) := by
  have z_o := s_o
  obtain ⟨s_o1, s_o2, s_o3, s_o4⟩ := z_o
  refine CM_begin (plainFor_of_name pn_RX10) (Nat.le_of_ble_eq_true rfl) ?_
  intro p e s m args below meth c A Q hX hnm hA3 hQ hB ls hl
  have hx := hX.1.1
  have hb := hX.1.2.1
  have hl : lv_has ls 3 [(0, .ref g_o), (1, .int y)] := hl
  replace hR := (D_X10_toldOf_s).symm.trans hR
  refine lv_iload_n hx hb dX10_toldOf_0 rfl (lv_at hl 1 rfl) ?_
  refine lv_iconst (v := 2) hx hb dX10_toldOf_1 (by decide) ?_
  refine lv_icmp_ge (tgt := 41) hx hb dX10_toldOf_2 (by decide) (fun c1 => ?_) (fun c1 => ?_)
  · replace hR := ifp c1 hR
    refine newO (fs := [.null, .null, .null, .int 0, .int 0, .int 0, .int 0]) hX hB (ci := 10) rfl in9 tyX9_ok wm_6_176 wm_6_177 wm_1_16 df10 (Nat.le_of_ble_eq_true rfl) (Nat.le_of_ble_eq_true rfl) dX10_toldOf_41 (fun q2 H hB => ?_)
    refine lv_dup hx hb dX10_toldOf_44 rfl ?_
    refine lv_aload_n hx hb dX10_toldOf_45 rfl (lv_at hl 0 rfl) ?_
    obtain ⟨F9, F10, F11, S12, S13, K14, G15, hd16⟩ := ex7 (D_X9_init R_o C_o f_o)
    replace hR := bnd7_use hd16 hR
    refine call_I (n := 1) (As := [.ref g_o]) (rest := [.ref q2]) hX hB (k_X9_init κ l (w) q2 k_o j_o g_o b_o R_o C_o f_o h_o i_o s_o (by omega) hng F9 F10 F11 S12 S13 K14 G15 hd16) yk_X9_init rfl wm_6_178 wm_6_179 wm_1_16 wm_6_180 ⟨Nat.le_of_ble_eq_true rfl, Nat.le_of_ble_eq_true rfl⟩ ⟨Nat.le_of_ble_eq_true rfl, Nat.le_of_ble_eq_true rfl⟩ rfl hl.1 rfl (Nat.le_of_ble_eq_true rfl) dX10_toldOf_46 (fun o w' H locs hp hB => ?_)
    obtain ⟨g3, b4, g5, b6, g7, b8, rfl, hf17, hw9⟩ := hp
    replace hB : Bd κ A s (lA κ b4 (C_o * 5) F9 :: gO g3 C_o C_o b4 :: lA κ b6 (R_o * 5) F10 :: gO g5 R_o R_o b6 :: lA κ b8 (R_o * 5) F11 :: gO g7 R_o C_o b8 :: (q2, .inr (10, [.ref g7, .ref g5, .ref g3, .int S12, .int S13, .int (nI K14), .int G15])) :: w) H locs := by rw [hw9] at hB; exact hB
    refine W.eq (g2 := F0 m 49 ls [.ref q2]) rfl ?_
    refine lv_astore_n (lv' := [(2, .ref q2), (0, .ref g_o), (1, .int y)]) hx hb dX10_toldOf_49 rfl hl (by decide) rfl (fun ls hl => ?_)
    refine lv_aload_n hx hb dX10_toldOf_50 rfl (lv_at hl 0 rfl) ?_
    refine gf (k0 := 6) hX hB rfl rfl in9 6 (by decide) wm_6_234 rfl rfl dX10_toldOf_51 ?_
    refine lv_if_eq (tgt := 61) hx hb dX10_toldOf_54 (by decide) (fun c18 => ?_) (fun c18 => ?_)
    · replace hR := ifp c18 hR
      refine lv_iload_n hx hb dX10_toldOf_61 rfl (lv_at hl 2 rfl) ?_
      refine lv_iconst (v := 2) hx hb dX10_toldOf_62 (by decide) ?_
      refine lv_icmp_ne (tgt := 73) hx hb dX10_toldOf_63 (by decide) (fun c19 => ?_) (fun c19 => ?_)
      · replace hR := ifn c19 hR
        refine lv_iload_n hx hb dX10_toldOf_73 rfl (lv_at hl 2 rfl) ?_
        refine lv_iconst (v := 3) hx hb dX10_toldOf_74 (by decide) ?_
        refine lv_icmp_ne (tgt := 85) hx hb dX10_toldOf_75 (by decide) (fun c20 => ?_) (fun c20 => ?_)
        · replace hR := ifn c20 hR
          refine lv_aload_n hx hb dX10_toldOf_85 rfl (lv_at hl 0 rfl) ?_
          refine gf (k0 := 6) hX hB rfl rfl in9 2 (by decide) wm_6_226 rfl rfl dX10_toldOf_86 ?_
          replace hB : Bd κ A s (lA κ b4 (C_o * 5) F9 :: gO g3 C_o C_o b4 :: lA κ b6 (R_o * 5) F10 :: gO g5 R_o R_o b6 :: lA κ b8 (R_o * 5) F11 :: gO g7 R_o C_o b8 :: w) H locs := Bd_del 6 hB
          replace hB : Bd κ A s (lA κ b4 (C_o * 5) F9 :: gO g3 C_o C_o b4 :: lA κ b6 (R_o * 5) F10 :: gO g5 R_o R_o b6 :: lA κ b8 (R_o * 5) F11 :: w) H locs := Bd_del 5 hB
          replace hB : Bd κ A s (lA κ b4 (C_o * 5) F9 :: gO g3 C_o C_o b4 :: lA κ b6 (R_o * 5) F10 :: gO g5 R_o R_o b6 :: w) H locs := Bd_del 4 hB
          replace hB : Bd κ A s (lA κ b4 (C_o * 5) F9 :: gO g3 C_o C_o b4 :: lA κ b6 (R_o * 5) F10 :: w) H locs := Bd_del 3 hB
          replace hB : Bd κ A s (lA κ b4 (C_o * 5) F9 :: gO g3 C_o C_o b4 :: w) H locs := Bd_del 2 hB
          rw [← hQ]
          exact end_a hX hB hA3 rfl (Or.inr ⟨_, rfl⟩) (by obtain ⟨rfl, rfl, rfl, rfl⟩ := pr4 hR; exact (Or.inr ⟨rfl, g3, b4, rfl, ⟨⟨by omega, by omega, by omega, by omega⟩, (by first | exact TS_0 (by assumption) | exact TS_1 hyy.1 (by assumption) (by assumption) | exact TS_2 (by assumption) | exact TS_3 (by assumption) | exact TS_4 hyy.2 (by assumption) (by assumption) (by assumption))⟩, rfl⟩)) (Nat.le_of_ble_eq_true rfl) (Nat.le_of_ble_eq_true rfl) dX10_toldOf_89
        · replace hR := ifp c20 hR
          refine lv_aload_n hx hb dX10_toldOf_78 rfl (lv_at hl 0 rfl) ?_
          refine gf (k0 := 6) hX hB rfl rfl in9 1 (by decide) wm_6_224 rfl rfl dX10_toldOf_79 ?_
          refine lv_goto (tgt := 89) hx hb dX10_toldOf_82 (by decide) ?_
          replace hB : Bd κ A s (lA κ b4 (C_o * 5) F9 :: gO g3 C_o C_o b4 :: lA κ b6 (R_o * 5) F10 :: gO g5 R_o R_o b6 :: lA κ b8 (R_o * 5) F11 :: gO g7 R_o C_o b8 :: w) H locs := Bd_del 6 hB
          replace hB : Bd κ A s (lA κ b4 (C_o * 5) F9 :: gO g3 C_o C_o b4 :: lA κ b6 (R_o * 5) F10 :: gO g5 R_o R_o b6 :: lA κ b8 (R_o * 5) F11 :: w) H locs := Bd_del 5 hB
          replace hB : Bd κ A s (lA κ b4 (C_o * 5) F9 :: gO g3 C_o C_o b4 :: lA κ b6 (R_o * 5) F10 :: gO g5 R_o R_o b6 :: w) H locs := Bd_del 4 hB
          replace hB : Bd κ A s (lA κ b4 (C_o * 5) F9 :: lA κ b6 (R_o * 5) F10 :: gO g5 R_o R_o b6 :: w) H locs := Bd_del 1 hB
          replace hB : Bd κ A s (lA κ b6 (R_o * 5) F10 :: gO g5 R_o R_o b6 :: w) H locs := Bd_del 0 hB
          rw [← hQ]
          exact end_a hX hB hA3 rfl (Or.inr ⟨_, rfl⟩) (by obtain ⟨rfl, rfl, rfl, rfl⟩ := pr4 hR; exact (Or.inr ⟨rfl, g5, b6, rfl, ⟨⟨by omega, by omega, by omega, by omega⟩, (by first | exact TS_0 (by assumption) | exact TS_1 hyy.1 (by assumption) (by assumption) | exact TS_2 (by assumption) | exact TS_3 (by assumption) | exact TS_4 hyy.2 (by assumption) (by assumption) (by assumption))⟩, rfl⟩)) (Nat.le_of_ble_eq_true rfl) (Nat.le_of_ble_eq_true rfl) dX10_toldOf_89
      · replace hR := ifp c19 hR
        refine lv_aload_n hx hb dX10_toldOf_66 rfl (lv_at hl 0 rfl) ?_
        refine gf (k0 := 6) hX hB rfl rfl in9 0 (by decide) wm_6_222 rfl rfl dX10_toldOf_67 ?_
        refine lv_goto (tgt := 89) hx hb dX10_toldOf_70 (by decide) ?_
        replace hB : Bd κ A s (lA κ b4 (C_o * 5) F9 :: gO g3 C_o C_o b4 :: lA κ b6 (R_o * 5) F10 :: gO g5 R_o R_o b6 :: lA κ b8 (R_o * 5) F11 :: gO g7 R_o C_o b8 :: w) H locs := Bd_del 6 hB
        replace hB : Bd κ A s (lA κ b4 (C_o * 5) F9 :: gO g3 C_o C_o b4 :: lA κ b6 (R_o * 5) F10 :: lA κ b8 (R_o * 5) F11 :: gO g7 R_o C_o b8 :: w) H locs := Bd_del 3 hB
        replace hB : Bd κ A s (lA κ b4 (C_o * 5) F9 :: gO g3 C_o C_o b4 :: lA κ b8 (R_o * 5) F11 :: gO g7 R_o C_o b8 :: w) H locs := Bd_del 2 hB
        replace hB : Bd κ A s (lA κ b4 (C_o * 5) F9 :: lA κ b8 (R_o * 5) F11 :: gO g7 R_o C_o b8 :: w) H locs := Bd_del 1 hB
        replace hB : Bd κ A s (lA κ b8 (R_o * 5) F11 :: gO g7 R_o C_o b8 :: w) H locs := Bd_del 0 hB
        rw [← hQ]
        exact end_a hX hB hA3 rfl (Or.inr ⟨_, rfl⟩) (by obtain ⟨rfl, rfl, rfl, rfl⟩ := pr4 hR; exact (Or.inr ⟨rfl, g7, b8, rfl, ⟨⟨by omega, by omega, by omega, by omega⟩, (by first | exact TS_0 (by assumption) | exact TS_1 hyy.1 (by assumption) (by assumption) | exact TS_2 (by assumption) | exact TS_3 (by assumption) | exact TS_4 hyy.2 (by assumption) (by assumption) (by assumption))⟩, rfl⟩)) (Nat.le_of_ble_eq_true rfl) (Nat.le_of_ble_eq_true rfl) dX10_toldOf_89
    · replace hR := ifn c18 hR
      refine lv_null hx hb dX10_toldOf_57 ?_
      refine lv_goto (tgt := 89) hx hb dX10_toldOf_58 (by decide) ?_
      replace hB : Bd κ A s (lA κ b4 (C_o * 5) F9 :: gO g3 C_o C_o b4 :: lA κ b6 (R_o * 5) F10 :: gO g5 R_o R_o b6 :: lA κ b8 (R_o * 5) F11 :: gO g7 R_o C_o b8 :: w) H locs := Bd_del 6 hB
      replace hB : Bd κ A s (lA κ b4 (C_o * 5) F9 :: gO g3 C_o C_o b4 :: lA κ b6 (R_o * 5) F10 :: gO g5 R_o R_o b6 :: lA κ b8 (R_o * 5) F11 :: w) H locs := Bd_del 5 hB
      replace hB : Bd κ A s (lA κ b4 (C_o * 5) F9 :: gO g3 C_o C_o b4 :: lA κ b6 (R_o * 5) F10 :: gO g5 R_o R_o b6 :: w) H locs := Bd_del 4 hB
      replace hB : Bd κ A s (lA κ b4 (C_o * 5) F9 :: gO g3 C_o C_o b4 :: lA κ b6 (R_o * 5) F10 :: w) H locs := Bd_del 3 hB
      replace hB : Bd κ A s (lA κ b4 (C_o * 5) F9 :: gO g3 C_o C_o b4 :: w) H locs := Bd_del 2 hB
      replace hB : Bd κ A s (lA κ b4 (C_o * 5) F9 :: w) H locs := Bd_del 1 hB
      replace hB : Bd κ A s (w) H locs := Bd_del 0 hB
      rw [← hQ]
      exact end_a hX hB hA3 rfl (Or.inl rfl) (by obtain ⟨rfl, rfl, rfl, rfl⟩ := pr4 hR; exact (Or.inl ⟨rfl, rfl, rfl⟩)) (Nat.le_of_ble_eq_true rfl) (Nat.le_of_ble_eq_true rfl) dX10_toldOf_89
  · replace hR := ifn c1 hR
    refine newO (fs := [.null, .null, .int 0, .int 0]) hX hB (ci := 9) rfl in8 tyX8_ok wm_6_127 wm_6_128 wm_1_15 df9 (Nat.le_of_ble_eq_true rfl) (Nat.le_of_ble_eq_true rfl) dX10_toldOf_5 (fun q21 H hB => ?_)
    refine lv_dup hx hb dX10_toldOf_8 rfl ?_
    refine lv_aload_n hx hb dX10_toldOf_9 rfl (lv_at hl 0 rfl) ?_
    obtain ⟨F26, F27, S28, G29, hd30⟩ := ex4 (D_X8_init R_o C_o f_o)
    replace hR := bnd4_use hd30 hR
    refine call_I (n := 1) (As := [.ref g_o]) (rest := [.ref q21]) hX hB (k_X8_init κ l (w) q21 k_o j_o g_o b_o R_o C_o f_o h_o i_o s_o hng F26 F27 S28 G29 hd30) yk_X8_init rfl wm_6_129 wm_6_130 wm_1_15 wm_6_131 ⟨Nat.le_of_ble_eq_true rfl, Nat.le_of_ble_eq_true rfl⟩ ⟨Nat.le_of_ble_eq_true rfl, Nat.le_of_ble_eq_true rfl⟩ rfl hl.1 rfl (Nat.le_of_ble_eq_true rfl) dX10_toldOf_10 (fun o w' H locs hp hB => ?_)
    obtain ⟨g22, b23, g24, b25, rfl, hf31, hw9⟩ := hp
    replace hB : Bd κ A s (lA κ b23 (R_o * 5) F26 :: gO g22 R_o R_o b23 :: lA κ b25 (R_o * 5) F27 :: gO g24 R_o C_o b25 :: (q21, .inr (9, [.ref g24, .ref g22, .int S28, .int G29])) :: w) H locs := by rw [hw9] at hB; exact hB
    refine W.eq (g2 := F0 m 13 ls [.ref q21]) rfl ?_
    refine lv_astore_n (lv' := [(2, .ref q21), (0, .ref g_o), (1, .int y)]) hx hb dX10_toldOf_13 rfl hl (by decide) rfl (fun ls hl => ?_)
    refine lv_aload_n hx hb dX10_toldOf_14 rfl (lv_at hl 0 rfl) ?_
    refine gf (k0 := 4) hX hB rfl rfl in8 3 (by decide) wm_6_166 rfl rfl dX10_toldOf_15 ?_
    refine lv_if_eq (tgt := 25) hx hb dX10_toldOf_18 (by decide) (fun c32 => ?_) (fun c32 => ?_)
    · replace hR := ifp c32 hR
      refine lv_iload_n hx hb dX10_toldOf_25 rfl (lv_at hl 2 rfl) ?_
      refine lv_if_ne (tgt := 36) hx hb dX10_toldOf_26 (by decide) (fun c33 => ?_) (fun c33 => ?_)
      · replace hR := ifn c33 hR
        refine lv_aload_n hx hb dX10_toldOf_36 rfl (lv_at hl 0 rfl) ?_
        refine gf (k0 := 4) hX hB rfl rfl in8 1 (by decide) wm_6_162 rfl rfl dX10_toldOf_37 ?_
        replace hB : Bd κ A s (lA κ b23 (R_o * 5) F26 :: gO g22 R_o R_o b23 :: lA κ b25 (R_o * 5) F27 :: gO g24 R_o C_o b25 :: w) H locs := Bd_del 4 hB
        replace hB : Bd κ A s (lA κ b23 (R_o * 5) F26 :: gO g22 R_o R_o b23 :: lA κ b25 (R_o * 5) F27 :: w) H locs := Bd_del 3 hB
        replace hB : Bd κ A s (lA κ b23 (R_o * 5) F26 :: gO g22 R_o R_o b23 :: w) H locs := Bd_del 2 hB
        rw [← hQ]
        exact end_a hX hB hA3 rfl (Or.inr ⟨_, rfl⟩) (by obtain ⟨rfl, rfl, rfl, rfl⟩ := pr4 hR; exact (Or.inr ⟨rfl, g22, b23, rfl, ⟨⟨by omega, by omega, by omega, by omega⟩, (by first | exact TS_0 (by assumption) | exact TS_1 hyy.1 (by assumption) (by assumption) | exact TS_2 (by assumption) | exact TS_3 (by assumption) | exact TS_4 hyy.2 (by assumption) (by assumption) (by assumption))⟩, rfl⟩)) (Nat.le_of_ble_eq_true rfl) (Nat.le_of_ble_eq_true rfl) dX10_toldOf_40
      · replace hR := ifp c33 hR
        refine lv_aload_n hx hb dX10_toldOf_29 rfl (lv_at hl 0 rfl) ?_
        refine gf (k0 := 4) hX hB rfl rfl in8 0 (by decide) wm_6_160 rfl rfl dX10_toldOf_30 ?_
        refine lv_goto (tgt := 40) hx hb dX10_toldOf_33 (by decide) ?_
        replace hB : Bd κ A s (lA κ b23 (R_o * 5) F26 :: gO g22 R_o R_o b23 :: lA κ b25 (R_o * 5) F27 :: gO g24 R_o C_o b25 :: w) H locs := Bd_del 4 hB
        replace hB : Bd κ A s (lA κ b23 (R_o * 5) F26 :: lA κ b25 (R_o * 5) F27 :: gO g24 R_o C_o b25 :: w) H locs := Bd_del 1 hB
        replace hB : Bd κ A s (lA κ b25 (R_o * 5) F27 :: gO g24 R_o C_o b25 :: w) H locs := Bd_del 0 hB
        rw [← hQ]
        exact end_a hX hB hA3 rfl (Or.inr ⟨_, rfl⟩) (by obtain ⟨rfl, rfl, rfl, rfl⟩ := pr4 hR; exact (Or.inr ⟨rfl, g24, b25, rfl, ⟨⟨by omega, by omega, by omega, by omega⟩, (by first | exact TS_0 (by assumption) | exact TS_1 hyy.1 (by assumption) (by assumption) | exact TS_2 (by assumption) | exact TS_3 (by assumption) | exact TS_4 hyy.2 (by assumption) (by assumption) (by assumption))⟩, rfl⟩)) (Nat.le_of_ble_eq_true rfl) (Nat.le_of_ble_eq_true rfl) dX10_toldOf_40
    · replace hR := ifn c32 hR
      refine lv_null hx hb dX10_toldOf_21 ?_
      refine lv_goto (tgt := 40) hx hb dX10_toldOf_22 (by decide) ?_
      replace hB : Bd κ A s (lA κ b23 (R_o * 5) F26 :: gO g22 R_o R_o b23 :: lA κ b25 (R_o * 5) F27 :: gO g24 R_o C_o b25 :: w) H locs := Bd_del 4 hB
      replace hB : Bd κ A s (lA κ b23 (R_o * 5) F26 :: gO g22 R_o R_o b23 :: lA κ b25 (R_o * 5) F27 :: w) H locs := Bd_del 3 hB
      replace hB : Bd κ A s (lA κ b23 (R_o * 5) F26 :: gO g22 R_o R_o b23 :: w) H locs := Bd_del 2 hB
      replace hB : Bd κ A s (lA κ b23 (R_o * 5) F26 :: w) H locs := Bd_del 1 hB
      replace hB : Bd κ A s (w) H locs := Bd_del 0 hB
      rw [← hQ]
      exact end_a hX hB hA3 rfl (Or.inl rfl) (by obtain ⟨rfl, rfl, rfl, rfl⟩ := pr4 hR; exact (Or.inl ⟨rfl, rfl, rfl⟩)) (Nat.le_of_ble_eq_true rfl) (Nat.le_of_ble_eq_true rfl) dX10_toldOf_40
noncomputable def D_X10_leaving (R_o : Nat) (C_o : Nat) (f_o : Nat → Int64) : Int32 × Nat × Nat × (Nat → Int64) := (if R_o = C_o then (if (lg_cmp (mnv f_o C_o R_o (2 ^ R_o - 1) (2 ^ C_o - 1)) 0) = 0 then (0, 0, 0, fun _ => 0) else bnd4 (D_X8_init R_o C_o f_o) (fun (F8 : Nat → Int64) (F9 : Nat → Int64) (S10 : Int32) (G11 : Int32) => (if G11 = 0 then (1, R_o, C_o, F9) else (0, 0, 0, fun _ => 0)))) else (0, 0, 0, fun _ => 0))
theorem D_X10_leaving_s {R_o : Nat} {C_o : Nat} {f_o : Nat → Int64} : D_X10_leaving R_o C_o f_o = (if R_o = C_o then (if (lg_cmp (mnv f_o C_o R_o (2 ^ R_o - 1) (2 ^ C_o - 1)) 0) = 0 then (0, 0, 0, fun _ => 0) else bnd4 (D_X8_init R_o C_o f_o) (fun (F8 : Nat → Int64) (F9 : Nat → Int64) (S10 : Int32) (G11 : Int32) => (if G11 = 0 then (1, R_o, C_o, F9) else (0, 0, 0, fun _ => 0)))) else (0, 0, 0, fun _ => 0)) := rfl
set_option maxHeartbeats 4000000 in
set_option maxRecDepth 100000 in
theorem k_X10_leaving (κ : Kt) (l : Launch) (w : va_W) (k_o j_o g_o b_o R_o C_o : Nat) (f_o : Nat → Int64) (h_o : w[k_o]? = some (gO g_o R_o C_o b_o)) (i_o : w[j_o]? = some (lA κ b_o (R_o * 5) f_o)) (s_o : shp R_o C_o) (hC4 : C_o ≤ 4) (hng : ∀ k, k < R_o * 5 → ng (f_o k)) (o_z : Int32) (o_R : Nat) (o_C : Nat) (o_F : Nat → Int64) (hR : D_X10_leaving R_o C_o f_o = (o_z, o_R, o_C, o_F)) : CM κ l yX10_leaving cX10_leaving 2 (some (.object "GridmenderModel$Grid")) 7 188 5 50 [.ref g_o] (w) (fun o w' => (o_z = 0 ∧ o = some .null ∧ w' = w) ∨ o_z = 1 ∧ ∃ (q1 q2 : Nat), o = some (.ref q1) ∧ (o_R = R_o ∧ o_C = C_o ∧ R_o = C_o ∧ ∀ j, j < o_R → ¬ o_F (j * 5 + j) = 0) ∧ w' = lA κ q2 (o_R * 5) o_F :: gO q1 o_R o_C q2 :: w) := by
  have z_o := s_o
  obtain ⟨s_o1, s_o2, s_o3, s_o4⟩ := z_o
  refine CM_begin (plainFor_of_name pn_RX10) (Nat.le_of_ble_eq_true rfl) ?_
  intro p e s m args below meth c A Q hX hnm hA3 hQ hB ls hl
  have hx := hX.1.1
  have hb := hX.1.2.1
  have hl : lv_has ls 2 [(0, .ref g_o)] := hl
  replace hR := (D_X10_leaving_s).symm.trans hR
  refine lv_aload_n hx hb dX10_leaving_0 rfl (lv_at hl 0 rfl) ?_
  refine gf (k0 := k_o) hX hB h_o rfl in7 0 (by decide) wm_5_148 rfl rfl dX10_leaving_1 ?_
  refine lv_aload_n hx hb dX10_leaving_4 rfl (lv_at hl 0 rfl) ?_
  refine gf (k0 := k_o) hX hB h_o rfl in7 1 (by decide) wm_5_152 rfl rfl dX10_leaving_5 ?_
  refine lv_icmp_ne (tgt := 20) hx hb dX10_leaving_8 (by decide) (fun c1 => ?_) (fun c1 => ?_)
  · rw [neqP (a := R_o) (b := C_o) (by omega) (by omega)] at c1
    replace hR := ifn c1 hR
    refine lv_null hx hb dX10_leaving_20 ?_
    rw [← hQ]
    exact end_a hX hB hA3 rfl (Or.inl rfl) (by obtain ⟨rfl, rfl, rfl, rfl⟩ := pr4 hR; exact (Or.inl ⟨rfl, rfl, rfl⟩)) (Nat.le_of_ble_eq_true rfl) (Nat.le_of_ble_eq_true rfl) dX10_leaving_21
  · rw [neqP (a := R_o) (b := C_o) (by omega) (by omega)] at c1
    replace hR := ifp c1 hR
    refine lv_aload_n hx hb dX10_leaving_11 rfl (lv_at hl 0 rfl) ?_
    refine call_S (n := 1) (As := [.ref g_o]) (rest := []) hX hB (k_X10_determinantOf κ l (w) k_o j_o g_o b_o R_o C_o f_o h_o i_o s_o (by omega)) yk_X10_determinantOf wm_7_76 wm_7_77 wm_1_6 wm_7_78 ⟨Nat.le_of_ble_eq_true rfl, Nat.le_of_ble_eq_true rfl⟩ ⟨Nat.le_of_ble_eq_true rfl, Nat.le_of_ble_eq_true rfl⟩ rfl hl.1 rfl (Nat.le_of_ble_eq_true rfl) dX10_leaving_12 (fun o w' H locs hp hB => ?_)
    obtain ⟨rfl, hw9⟩ := hp
    replace hB : Bd κ A s (w) H locs := by rw [hw9] at hB; exact hB
    refine W.eq (g2 := F0 m 15 ls [.long (mnv f_o C_o R_o (2 ^ R_o - 1) (2 ^ C_o - 1))]) rfl ?_
    refine lv_lconst (v := 0) hx hb dX10_leaving_15 (by decide) ?_
    refine W.lcmp hx hb dX10_leaving_16 ?_
    refine lv_if_ne (tgt := 22) hx hb dX10_leaving_17 (by decide) (fun c2 => ?_) (fun c2 => ?_)
    · replace hR := ifn c2 hR
      refine newO (fs := [.null, .null, .int 0, .int 0]) hX hB (ci := 9) rfl in8 tyX8_ok wm_6_127 wm_6_128 wm_1_15 df9 (Nat.le_of_ble_eq_true rfl) (Nat.le_of_ble_eq_true rfl) dX10_leaving_22 (fun q3 H hB => ?_)
      refine lv_dup hx hb dX10_leaving_25 rfl ?_
      refine lv_aload_n hx hb dX10_leaving_26 rfl (lv_at hl 0 rfl) ?_
      obtain ⟨F8, F9, S10, G11, hd12⟩ := ex4 (D_X8_init R_o C_o f_o)
      replace hR := bnd4_use hd12 hR
      refine call_I (n := 1) (As := [.ref g_o]) (rest := [.ref q3]) hX hB (k_X8_init κ l (w) q3 k_o j_o g_o b_o R_o C_o f_o h_o i_o s_o hng F8 F9 S10 G11 hd12) yk_X8_init rfl wm_6_129 wm_6_130 wm_1_15 wm_6_131 ⟨Nat.le_of_ble_eq_true rfl, Nat.le_of_ble_eq_true rfl⟩ ⟨Nat.le_of_ble_eq_true rfl, Nat.le_of_ble_eq_true rfl⟩ rfl hl.1 rfl (Nat.le_of_ble_eq_true rfl) dX10_leaving_27 (fun o w' H locs hp hB => ?_)
      obtain ⟨g4, b5, g6, b7, rfl, hf13, hw9⟩ := hp
      replace hB : Bd κ A s (lA κ b5 (R_o * 5) F8 :: gO g4 R_o R_o b5 :: lA κ b7 (R_o * 5) F9 :: gO g6 R_o C_o b7 :: (q3, .inr (9, [.ref g6, .ref g4, .int S10, .int G11])) :: w) H locs := by rw [hw9] at hB; exact hB
      refine W.eq (g2 := F0 m 30 ls [.ref q3]) rfl ?_
      refine lv_astore_n (lv' := [(1, .ref q3), (0, .ref g_o)]) hx hb dX10_leaving_30 rfl hl (by decide) rfl (fun ls hl => ?_)
      refine lv_aload_n hx hb dX10_leaving_31 rfl (lv_at hl 0 rfl) ?_
      refine gf (k0 := 4) hX hB rfl rfl in8 3 (by decide) wm_6_166 rfl rfl dX10_leaving_32 ?_
      refine lv_if_eq (tgt := 42) hx hb dX10_leaving_35 (by decide) (fun c14 => ?_) (fun c14 => ?_)
      · replace hR := ifp c14 hR
        have hG0 := c14
        refine lv_aload_n hx hb dX10_leaving_42 rfl (lv_at hl 0 rfl) ?_
        refine gf (k0 := 4) hX hB rfl rfl in8 0 (by decide) wm_6_160 rfl rfl dX10_leaving_43 ?_
        replace hB : Bd κ A s (lA κ b5 (R_o * 5) F8 :: gO g4 R_o R_o b5 :: lA κ b7 (R_o * 5) F9 :: gO g6 R_o C_o b7 :: w) H locs := Bd_del 4 hB
        replace hB : Bd κ A s (lA κ b5 (R_o * 5) F8 :: lA κ b7 (R_o * 5) F9 :: gO g6 R_o C_o b7 :: w) H locs := Bd_del 1 hB
        replace hB : Bd κ A s (lA κ b7 (R_o * 5) F9 :: gO g6 R_o C_o b7 :: w) H locs := Bd_del 0 hB
        rw [← hQ]
        exact end_a hX hB hA3 rfl (Or.inr ⟨_, rfl⟩) (by obtain ⟨rfl, rfl, rfl, rfl⟩ := pr4 hR; exact (Or.inr ⟨rfl, g6, b7, rfl, ⟨rfl, rfl, by omega, hf13 hG0 (by omega) (dt_ne s_o1 s_o2 (by omega) (by assumption))⟩, rfl⟩)) (Nat.le_of_ble_eq_true rfl) (Nat.le_of_ble_eq_true rfl) dX10_leaving_46
      · replace hR := ifn c14 hR
        refine lv_null hx hb dX10_leaving_38 ?_
        refine lv_goto (tgt := 46) hx hb dX10_leaving_39 (by decide) ?_
        replace hB : Bd κ A s (lA κ b5 (R_o * 5) F8 :: gO g4 R_o R_o b5 :: lA κ b7 (R_o * 5) F9 :: gO g6 R_o C_o b7 :: w) H locs := Bd_del 4 hB
        replace hB : Bd κ A s (lA κ b5 (R_o * 5) F8 :: gO g4 R_o R_o b5 :: lA κ b7 (R_o * 5) F9 :: w) H locs := Bd_del 3 hB
        replace hB : Bd κ A s (lA κ b5 (R_o * 5) F8 :: gO g4 R_o R_o b5 :: w) H locs := Bd_del 2 hB
        replace hB : Bd κ A s (lA κ b5 (R_o * 5) F8 :: w) H locs := Bd_del 1 hB
        replace hB : Bd κ A s (w) H locs := Bd_del 0 hB
        rw [← hQ]
        exact end_a hX hB hA3 rfl (Or.inl rfl) (by obtain ⟨rfl, rfl, rfl, rfl⟩ := pr4 hR; exact (Or.inl ⟨rfl, rfl, rfl⟩)) (Nat.le_of_ble_eq_true rfl) (Nat.le_of_ble_eq_true rfl) dX10_leaving_46
    · replace hR := ifp c2 hR
      refine lv_null hx hb dX10_leaving_20 ?_
      rw [← hQ]
      exact end_a hX hB hA3 rfl (Or.inl rfl) (by obtain ⟨rfl, rfl, rfl, rfl⟩ := pr4 hR; exact (Or.inl ⟨rfl, rfl, rfl⟩)) (Nat.le_of_ble_eq_true rfl) (Nat.le_of_ble_eq_true rfl) dX10_leaving_21
noncomputable def D_X10_isByDivisors_j69 (y3_20 : Nat) (lb31 : Nat → (Nat → Int64) → Int32) (y4_31 : Nat) (fb2_31 : Nat → Int64) (z0_69 : Int64) : Int32 := (lb31 (y4_31 + 1) (vp_updL fb2_31 (y3_20 * 5 + y4_31) z0_69))
theorem D_X10_isByDivisors_j69_s {y3_20 : Nat} {lb31 : Nat → (Nat → Int64) → Int32} {y4_31 : Nat} {fb2_31 : Nat → Int64} {z0_69 : Int64} : D_X10_isByDivisors_j69 y3_20 lb31 y4_31 fb2_31 z0_69 = (lb31 (y4_31 + 1) (vp_updL fb2_31 (y3_20 * 5 + y4_31) z0_69)) := rfl
noncomputable def D_X10_isByDivisors_31 (C_o : Nat) (f_o : Nat → Int64) (f_u : Nat → Int64) (lb20 : Nat → (Nat → Int64) → Int32) (y3_20 : Nat) (nn : Nat) : Nat → (Nat → Int64) → Int32 := @Nat.rec (fun _ => Nat → (Nat → Int64) → Int32) (fun _ _ => default) (fun _ lb31 (y4_31 : Nat) (fb2_31 : Nat → Int64) => (if (C_o + 1) ≤ y4_31 then (lb20 (y3_20 + 1) fb2_31) else (if C_o ≤ y4_31 then (D_X10_isByDivisors_j69 y3_20 lb31 y4_31 fb2_31 (f_u (y3_20 * 5 + 0))) else (D_X10_isByDivisors_j69 y3_20 lb31 y4_31 fb2_31 (f_o (y3_20 * 5 + y4_31)))))) nn
theorem D_X10_isByDivisors_31_s {C_o : Nat} {f_o : Nat → Int64} {f_u : Nat → Int64} {lb20 : Nat → (Nat → Int64) → Int32} {y3_20 : Nat} {nn : Nat} {y4_31 : Nat} {fb2_31 : Nat → Int64} : D_X10_isByDivisors_31 C_o f_o f_u lb20 y3_20 (nn + 1) y4_31 fb2_31 = (if (C_o + 1) ≤ y4_31 then (lb20 (y3_20 + 1) fb2_31) else (if C_o ≤ y4_31 then (D_X10_isByDivisors_j69 y3_20 (D_X10_isByDivisors_31 C_o f_o f_u lb20 y3_20 nn) y4_31 fb2_31 (f_u (y3_20 * 5 + 0))) else (D_X10_isByDivisors_j69 y3_20 (D_X10_isByDivisors_31 C_o f_o f_u lb20 y3_20 nn) y4_31 fb2_31 (f_o (y3_20 * 5 + y4_31))))) := rfl
noncomputable def D_X10_isByDivisors_20 (R_o : Nat) (C_o : Nat) (f_o : Nat → Int64) (f_u : Nat → Int64) (nn : Nat) : Nat → (Nat → Int64) → Int32 := @Nat.rec (fun _ => Nat → (Nat → Int64) → Int32) (fun _ _ => default) (fun _ lb20 (y3_20 : Nat) (fb2_20 : Nat → Int64) => (if R_o ≤ y3_20 then bnd1 (D_X7_rank R_o C_o f_o) (fun (x74 : Int32) => bnd1 (D_X7_rank R_o (C_o + 1) fb2_20) (fun (x76 : Int32) => (if x76 = x74 then bnd1 (D_X7_divisor R_o (C_o + 1) fb2_20 x74) (fun (x79 : Int64) => bnd1 (D_X7_divisor R_o C_o f_o x74) (fun (x81 : Int64) => (if (lg_cmp x79 x81) = 0 then 1 else 0))) else 0))) else (D_X10_isByDivisors_31 C_o f_o f_u lb20 y3_20 ((C_o + 1) + 1 - 0 + 1) 0 fb2_20))) nn
theorem D_X10_isByDivisors_20_s {R_o : Nat} {C_o : Nat} {f_o : Nat → Int64} {f_u : Nat → Int64} {nn : Nat} {y3_20 : Nat} {fb2_20 : Nat → Int64} : D_X10_isByDivisors_20 R_o C_o f_o f_u (nn + 1) y3_20 fb2_20 = (if R_o ≤ y3_20 then bnd1 (D_X7_rank R_o C_o f_o) (fun (x74 : Int32) => bnd1 (D_X7_rank R_o (C_o + 1) fb2_20) (fun (x76 : Int32) => (if x76 = x74 then bnd1 (D_X7_divisor R_o (C_o + 1) fb2_20 x74) (fun (x79 : Int64) => bnd1 (D_X7_divisor R_o C_o f_o x74) (fun (x81 : Int64) => (if (lg_cmp x79 x81) = 0 then 1 else 0))) else 0))) else (D_X10_isByDivisors_31 C_o f_o f_u (D_X10_isByDivisors_20 R_o C_o f_o f_u nn) y3_20 ((C_o + 1) + 1 - 0 + 1) 0 fb2_20)) := rfl
noncomputable def D_X10_isByDivisors (R_o : Nat) (C_o : Nat) (f_o : Nat → Int64) (R_u : Nat) (C_u : Nat) (f_u : Nat → Int64) : Int32 := (D_X10_isByDivisors_20 R_o C_o f_o f_u (R_o + 1 - 0 + 1) 0 (fun _ => 0))
theorem D_X10_isByDivisors_s {R_o : Nat} {C_o : Nat} {f_o : Nat → Int64} {R_u : Nat} {C_u : Nat} {f_u : Nat → Int64} : D_X10_isByDivisors R_o C_o f_o R_u C_u f_u = (D_X10_isByDivisors_20 R_o C_o f_o f_u (R_o + 1 - 0 + 1) 0 (fun _ => 0)) := rfl
set_option maxHeartbeats 4000000 in
set_option maxRecDepth 100000 in
theorem k_X10_isByDivisors (κ : Kt) (l : Launch) (w : va_W) (k_o j_o g_o b_o R_o C_o : Nat) (f_o : Nat → Int64) (k_u j_u g_u b_u R_u C_u : Nat) (f_u : Nat → Int64) (h_o : w[k_o]? = some (gO g_o R_o C_o b_o)) (i_o : w[j_o]? = some (lA κ b_o (R_o * 5) f_o)) (s_o : shp R_o C_o) (h_u : w[k_u]? = some (gO g_u R_u C_u b_u)) (i_u : w[j_u]? = some (lA κ b_u (R_u * 5) f_u)) (s_u : shp R_u C_u) (hC4 : C_o ≤ 4) (hRu : R_o ≤ R_u) (o_x : Int32) (hR : D_X10_isByDivisors R_o C_o f_o R_u C_u f_u = o_x) : CM κ l yX10_isByDivisors cX10_isByDivisors 5 (some .boolean) 132 3037 2 23 [.ref g_o, .ref g_u] (w) (fun o w' => o = some (.int o_x) ∧ (o_x = 0 ∨ o_x = 1) ∧ w' = w) := by
  have z_o := s_o
  obtain ⟨s_o1, s_o2, s_o3, s_o4⟩ := z_o
  have z_u := s_u
  obtain ⟨s_u1, s_u2, s_u3, s_u4⟩ := z_u
  refine CM_begin (plainFor_of_name pn_RX10) (Nat.le_of_ble_eq_true rfl) ?_
  intro p e s m args below meth c A Q hX hnm hA3 hQ hB ls hl
  have hx := hX.1.1
  have hb := hX.1.2.1
  have hl : lv_has ls 5 [(0, .ref g_o), (1, .ref g_u)] := hl
  replace hR := (D_X10_isByDivisors_s).symm.trans hR
  refine newO (fs := [.int 0, .int 0, .null]) hX hB (ci := 8) rfl in7 tyX7_ok wm_5_138 wm_5_140 wm_1_7 df8 (Nat.le_of_ble_eq_true rfl) (Nat.le_of_ble_eq_true rfl) dX10_isByDivisors_0 (fun q1 H hB => ?_)
  refine lv_dup hx hb dX10_isByDivisors_3 rfl ?_
  refine lv_aload_n hx hb dX10_isByDivisors_4 rfl (lv_at hl 0 rfl) ?_
  refine gf (k0 := k_o + 1) hX hB h_o rfl in7 0 (by decide) wm_5_148 rfl rfl dX10_isByDivisors_5 ?_
  refine lv_aload_n hx hb dX10_isByDivisors_8 rfl (lv_at hl 0 rfl) ?_
  refine gf (k0 := k_o + 1) hX hB h_o rfl in7 1 (by decide) wm_5_152 rfl rfl dX10_isByDivisors_9 ?_
  refine lv_iconst (v := 1) hx hb dX10_isByDivisors_12 (by decide) ?_
  refine lv_iadd hx hb dX10_isByDivisors_13 ?_
  refine eqi (y := nI (C_o + 1)) (nI_add C_o 1) ?_
  refine call_I (n := 2) (As := [.int (nI R_o), .int (nI (C_o + 1))]) (rest := [.ref q1]) hX hB (k_X7_init κ l (w) q1 (nI R_o) R_o (nI (C_o + 1)) (C_o + 1) rfl rfl (by omega)) yk_X7_init rfl wm_5_141 wm_5_142 wm_1_7 wm_5_143 ⟨Nat.le_of_ble_eq_true rfl, Nat.le_of_ble_eq_true rfl⟩ ⟨Nat.le_of_ble_eq_true rfl, Nat.le_of_ble_eq_true rfl⟩ rfl hl.1 rfl (Nat.le_of_ble_eq_true rfl) dX10_isByDivisors_14 (fun o w' H locs hp hB => ?_)
  obtain ⟨b2, rfl, hw9⟩ := hp
  replace hB : Bd κ A s (lA κ b2 (R_o * 5) (fun _ => 0) :: gO q1 R_o (C_o + 1) b2 :: w) H locs := by rw [hw9] at hB; exact hB
  refine W.eq (g2 := F0 m 17 ls [.ref q1]) rfl ?_
  refine lv_astore_n (lv' := [(2, .ref q1), (0, .ref g_o), (1, .ref g_u)]) hx hb dX10_isByDivisors_17 rfl hl (by decide) rfl (fun ls hl => ?_)
  refine lv_iconst (v := 0) hx hb dX10_isByDivisors_18 (by decide) ?_
  refine lv_istore_n (lv' := [(3, .int 0), (2, .ref q1), (0, .ref g_o), (1, .ref g_u)]) hx hb dX10_isByDivisors_19 rfl hl (by decide) rfl (fun ls hl => ?_)
  have lp20 : ∀ (nn20 : Nat) (y3_20 : Nat) (fb2_20 : Nat → Int64) (H : Heap) (locs : List Loc), (y3_20 ≤ R_o) → R_o + 1 - y3_20 < nn20 → D_X10_isByDivisors_20 R_o C_o f_o f_u nn20 y3_20 fb2_20 = o_x → Bd κ A s (lA κ b2 (R_o * 5) fb2_20 :: gO q1 R_o (C_o + 1) b2 :: w) H locs → ∀ ls : Array Slot, lv_has ls 5 [(3, .int (nI y3_20)), (2, .ref q1), (0, .ref g_o), (1, .ref g_u)] → W p l e (Rm 132 3037 2 23) s m args below meth c H locs (2) (23) Q (F0 m 20 ls []) := by
    intro nn20
    induction nn20 with
    | zero => intro y3_20 fb2_20 H locs hn3_20 hμ; exact absurd hμ (Nat.not_lt_zero _)
    | succ nn20 ih20 =>
      intro y3_20 fb2_20 H locs hn3_20 hμ20 hR hB ls hl
      replace hR := (D_X10_isByDivisors_20_s).symm.trans hR
      refine lv_iload_n hx hb dX10_isByDivisors_20 rfl (lv_at hl 0 rfl) ?_
      refine lv_aload_n hx hb dX10_isByDivisors_21 rfl (lv_at hl 2 rfl) ?_
      refine gf (k0 := k_o + 2) hX hB h_o rfl in7 0 (by decide) wm_5_148 rfl rfl dX10_isByDivisors_22 ?_
      refine lv_icmp_ge (tgt := 84) hx hb dX10_isByDivisors_25 (by decide) (fun c73 => ?_) (fun c73 => ?_)
      · rw [nleP (a := R_o) (b := y3_20) (by omega) (by omega)] at c73
        replace hR := ifp c73 hR
        refine lv_aload_n hx hb dX10_isByDivisors_84 rfl (lv_at hl 2 rfl) ?_
        obtain ⟨x74, hd75⟩ := ex1 (D_X7_rank R_o C_o f_o)
        replace hR := bnd1_use hd75 hR
        refine call_V (n := 0) (k0 := (k_o + 2)) (As := []) (rest := []) hX hB (k_X7_rank κ l (lA κ b2 (R_o * 5) fb2_20 :: gO q1 R_o (C_o + 1) b2 :: w) (k_o + 2) (j_o + 2) g_o b_o R_o C_o f_o h_o i_o s_o x74 hd75) ⟨rfl, yk_X7_rank⟩ wm_7_115 wm_7_116 wm_7_117 wm_1_7 wm_7_118 ⟨Nat.le_of_ble_eq_true rfl, Nat.le_of_ble_eq_true rfl⟩ ⟨Nat.le_of_ble_eq_true rfl, Nat.le_of_ble_eq_true rfl⟩ h_o rfl rfl rfl hl.1 rfl (Nat.le_of_ble_eq_true rfl) dX10_isByDivisors_85 (fun o w' H locs hp hB => ?_)
        obtain ⟨rfl, hw9⟩ := hp
        replace hB : Bd κ A s (lA κ b2 (R_o * 5) fb2_20 :: gO q1 R_o (C_o + 1) b2 :: w) H locs := by rw [hw9] at hB; exact hB
        refine W.eq (g2 := F0 m 88 ls [.int x74]) rfl ?_
        refine lv_istore_n (lv' := [(3, .int x74), (2, .ref q1), (0, .ref g_o), (1, .ref g_u)]) hx hb dX10_isByDivisors_88 rfl hl (by decide) rfl (fun ls hl => ?_)
        refine lv_aload_n hx hb dX10_isByDivisors_89 rfl (lv_at hl 1 rfl) ?_
        obtain ⟨x76, hd77⟩ := ex1 (D_X7_rank R_o (C_o + 1) fb2_20)
        replace hR := bnd1_use hd77 hR
        refine call_V (n := 0) (k0 := 1) (As := []) (rest := []) hX hB (k_X7_rank κ l (lA κ b2 (R_o * 5) fb2_20 :: gO q1 R_o (C_o + 1) b2 :: w) 1 0 q1 b2 R_o (C_o + 1) fb2_20 rfl rfl ⟨by omega, by omega, by omega, by omega⟩ x76 hd77) ⟨rfl, yk_X7_rank⟩ wm_7_115 wm_7_116 wm_7_117 wm_1_7 wm_7_118 ⟨Nat.le_of_ble_eq_true rfl, Nat.le_of_ble_eq_true rfl⟩ ⟨Nat.le_of_ble_eq_true rfl, Nat.le_of_ble_eq_true rfl⟩ rfl rfl rfl rfl hl.1 rfl (Nat.le_of_ble_eq_true rfl) dX10_isByDivisors_90 (fun o w' H locs hp hB => ?_)
        obtain ⟨rfl, hw9⟩ := hp
        replace hB : Bd κ A s (lA κ b2 (R_o * 5) fb2_20 :: gO q1 R_o (C_o + 1) b2 :: w) H locs := by rw [hw9] at hB; exact hB
        refine W.eq (g2 := F0 m 93 ls [.int x76]) rfl ?_
        refine lv_iload_n hx hb dX10_isByDivisors_93 rfl (lv_at hl 0 rfl) ?_
        refine lv_icmp_ne (tgt := 115) hx hb dX10_isByDivisors_94 (by decide) (fun c78 => ?_) (fun c78 => ?_)
        · replace hR := ifn c78 hR
          refine lv_iconst (v := 0) hx hb dX10_isByDivisors_115 (by decide) ?_
          replace hB : Bd κ A s (lA κ b2 (R_o * 5) fb2_20 :: w) H locs := Bd_del 1 hB
          replace hB : Bd κ A s (w) H locs := Bd_del 0 hB
          rw [← hQ]
          exact end_i hX hB hA3 rfl rfl (by obtain rfl := hR; exact ⟨rfl, (Or.inl rfl), rfl⟩) (Nat.le_of_ble_eq_true rfl) (Nat.le_of_ble_eq_true rfl) dX10_isByDivisors_116
        · replace hR := ifp c78 hR
          refine lv_aload_n hx hb dX10_isByDivisors_97 rfl (lv_at hl 1 rfl) ?_
          refine lv_iload_n hx hb dX10_isByDivisors_98 rfl (lv_at hl 0 rfl) ?_
          obtain ⟨x79, hd80⟩ := ex1 (D_X7_divisor R_o (C_o + 1) fb2_20 x74)
          replace hR := bnd1_use hd80 hR
          refine call_V (n := 1) (k0 := 1) (As := [.int x74]) (rest := []) hX hB (k_X7_divisor κ l (lA κ b2 (R_o * 5) fb2_20 :: gO q1 R_o (C_o + 1) b2 :: w) 1 0 q1 b2 R_o (C_o + 1) fb2_20 x74 rfl rfl ⟨by omega, by omega, by omega, by omega⟩ x79 hd80) ⟨rfl, yk_X7_divisor⟩ wm_7_101 wm_7_102 wm_7_103 wm_1_7 wm_7_104 ⟨Nat.le_of_ble_eq_true rfl, Nat.le_of_ble_eq_true rfl⟩ ⟨Nat.le_of_ble_eq_true rfl, Nat.le_of_ble_eq_true rfl⟩ rfl rfl rfl rfl hl.1 rfl (Nat.le_of_ble_eq_true rfl) dX10_isByDivisors_99 (fun o w' H locs hp hB => ?_)
          obtain ⟨rfl, hw9⟩ := hp
          replace hB : Bd κ A s (lA κ b2 (R_o * 5) fb2_20 :: gO q1 R_o (C_o + 1) b2 :: w) H locs := by rw [hw9] at hB; exact hB
          refine W.eq (g2 := F0 m 102 ls [.long x79]) rfl ?_
          refine lv_aload_n hx hb dX10_isByDivisors_102 rfl (lv_at hl 2 rfl) ?_
          refine lv_iload_n hx hb dX10_isByDivisors_103 rfl (lv_at hl 0 rfl) ?_
          obtain ⟨x81, hd82⟩ := ex1 (D_X7_divisor R_o C_o f_o x74)
          replace hR := bnd1_use hd82 hR
          refine call_V (n := 1) (k0 := (k_o + 2)) (As := [.int x74]) (rest := [.long x79]) hX hB (k_X7_divisor κ l (lA κ b2 (R_o * 5) fb2_20 :: gO q1 R_o (C_o + 1) b2 :: w) (k_o + 2) (j_o + 2) g_o b_o R_o C_o f_o x74 h_o i_o s_o x81 hd82) ⟨rfl, yk_X7_divisor⟩ wm_7_101 wm_7_102 wm_7_103 wm_1_7 wm_7_104 ⟨Nat.le_of_ble_eq_true rfl, Nat.le_of_ble_eq_true rfl⟩ ⟨Nat.le_of_ble_eq_true rfl, Nat.le_of_ble_eq_true rfl⟩ h_o rfl rfl rfl hl.1 rfl (Nat.le_of_ble_eq_true rfl) dX10_isByDivisors_104 (fun o w' H locs hp hB => ?_)
          obtain ⟨rfl, hw9⟩ := hp
          replace hB : Bd κ A s (lA κ b2 (R_o * 5) fb2_20 :: gO q1 R_o (C_o + 1) b2 :: w) H locs := by rw [hw9] at hB; exact hB
          refine W.eq (g2 := F0 m 107 ls [.long x81, .long x79]) rfl ?_
          refine W.lcmp hx hb dX10_isByDivisors_107 ?_
          refine lv_if_ne (tgt := 115) hx hb dX10_isByDivisors_108 (by decide) (fun c83 => ?_) (fun c83 => ?_)
          · replace hR := ifn c83 hR
            refine lv_iconst (v := 0) hx hb dX10_isByDivisors_115 (by decide) ?_
            replace hB : Bd κ A s (lA κ b2 (R_o * 5) fb2_20 :: w) H locs := Bd_del 1 hB
            replace hB : Bd κ A s (w) H locs := Bd_del 0 hB
            rw [← hQ]
            exact end_i hX hB hA3 rfl rfl (by obtain rfl := hR; exact ⟨rfl, (Or.inl rfl), rfl⟩) (Nat.le_of_ble_eq_true rfl) (Nat.le_of_ble_eq_true rfl) dX10_isByDivisors_116
          · replace hR := ifp c83 hR
            refine lv_iconst (v := 1) hx hb dX10_isByDivisors_111 (by decide) ?_
            refine lv_goto (tgt := 116) hx hb dX10_isByDivisors_112 (by decide) ?_
            replace hB : Bd κ A s (lA κ b2 (R_o * 5) fb2_20 :: w) H locs := Bd_del 1 hB
            replace hB : Bd κ A s (w) H locs := Bd_del 0 hB
            rw [← hQ]
            exact end_i hX hB hA3 rfl rfl (by obtain rfl := hR; exact ⟨rfl, (Or.inr rfl), rfl⟩) (Nat.le_of_ble_eq_true rfl) (Nat.le_of_ble_eq_true rfl) dX10_isByDivisors_116
      · rw [nleP (a := R_o) (b := y3_20) (by omega) (by omega)] at c73
        replace hR := ifn c73 hR
        refine lv_iconst (v := 0) hx hb dX10_isByDivisors_28 (by decide) ?_
        refine lv_istore (lv' := [(4, .int 0), (3, .int (nI y3_20)), (2, .ref q1), (0, .ref g_o), (1, .ref g_u)]) hx hb dX10_isByDivisors_29 hl (by decide) rfl (fun ls hl => ?_)
        have lp31 : ∀ (nn31 : Nat) (y4_31 : Nat) (fb2_31 : Nat → Int64) (H : Heap) (locs : List Loc), (y4_31 ≤ (C_o + 1)) → (C_o + 1) + 1 - y4_31 < nn31 → D_X10_isByDivisors_31 C_o f_o f_u (D_X10_isByDivisors_20 R_o C_o f_o f_u nn20) y3_20 nn31 y4_31 fb2_31 = o_x → Bd κ A s (lA κ b2 (R_o * 5) fb2_31 :: gO q1 R_o (C_o + 1) b2 :: w) H locs → ∀ ls : Array Slot, lv_has ls 5 [(4, .int (nI y4_31)), (3, .int (nI y3_20)), (2, .ref q1), (0, .ref g_o), (1, .ref g_u)] → W p l e (Rm 132 3037 2 23) s m args below meth c H locs (2) (23) Q (F0 m 31 ls []) := by
          intro nn31
          induction nn31 with
          | zero => intro y4_31 fb2_31 H locs hn4_31 hμ; exact absurd hμ (Nat.not_lt_zero _)
          | succ nn31 ih31 =>
            intro y4_31 fb2_31 H locs hn4_31 hμ31 hR hB ls hl
            replace hR := (D_X10_isByDivisors_31_s).symm.trans hR
            refine lv_iload hx hb dX10_isByDivisors_31 (lv_at hl 0 rfl) ?_
            refine lv_aload_n hx hb dX10_isByDivisors_33 rfl (lv_at hl 2 rfl) ?_
            refine gf (k0 := 1) hX hB rfl rfl in7 1 (by decide) wm_5_152 rfl rfl dX10_isByDivisors_34 ?_
            refine lv_icmp_ge (tgt := 78) hx hb dX10_isByDivisors_37 (by decide) (fun c90 => ?_) (fun c90 => ?_)
            · rw [nleP (a := C_o + 1) (b := y4_31) (by omega) (by omega)] at c90
              replace hR := ifp c90 hR
              refine lv_iinc (v := nI (y3_20 + 1)) (lv' := [(3, .int (nI (y3_20 + 1))), (4, .int (nI y4_31)), (2, .ref q1), (0, .ref g_o), (1, .ref g_u)]) hx hb dX10_isByDivisors_78 hl (k := 1) rfl (nI_add y3_20 1) (by decide) rfl (fun ls hl => ?_)
              refine lv_goto (tgt := 20) hx hb dX10_isByDivisors_81 (by decide) ?_
              exact ih20 (y3_20 + 1) fb2_31 _ _ (by omega) (by omega) hR hB _ (lv_sub hl [0, 2, 3, 4] rfl)
            · rw [nleP (a := C_o + 1) (b := y4_31) (by omega) (by omega)] at c90
              replace hR := ifn c90 hR
              refine lv_aload_n hx hb dX10_isByDivisors_40 rfl (lv_at hl 2 rfl) ?_
              refine lv_iload_n hx hb dX10_isByDivisors_41 rfl (lv_at hl 1 rfl) ?_
              refine lv_iload hx hb dX10_isByDivisors_42 (lv_at hl 0 rfl) ?_
              refine lv_iload hx hb dX10_isByDivisors_44 (lv_at hl 0 rfl) ?_
              refine lv_aload_n hx hb dX10_isByDivisors_46 rfl (lv_at hl 3 rfl) ?_
              refine gf (k0 := k_o + 2) hX hB h_o rfl in7 1 (by decide) wm_5_152 rfl rfl dX10_isByDivisors_47 ?_
              have jn69 : ∀ (z0_69 : Int64) (H : Heap) (locs : List Loc), D_X10_isByDivisors_j69 y3_20 (D_X10_isByDivisors_31 C_o f_o f_u (D_X10_isByDivisors_20 R_o C_o f_o f_u nn20) y3_20 nn31) y4_31 fb2_31 z0_69 = o_x → Bd κ A s (lA κ b2 (R_o * 5) fb2_31 :: gO q1 R_o (C_o + 1) b2 :: w) H locs → ∀ ls : Array Slot, lv_has ls 5 [(4, .int (nI y4_31)), (3, .int (nI y3_20)), (2, .ref q1), (0, .ref g_o), (1, .ref g_u)] → W p l e (Rm 132 3037 2 23) s m args below meth c H locs (2) (23) Q (F0 m 69 ls [.long z0_69, .int (nI y4_31), .int (nI y3_20), .ref q1]) := by
                intro z0_69 H locs hR hB ls hl
                replace hR := (D_X10_isByDivisors_j69_s).symm.trans hR
                refine call_V (n := 3) (k0 := 1) (As := [.int (nI y3_20), .int (nI y4_31), .long z0_69]) (rest := []) hX hB (k_X7_put κ l (lA κ b2 (R_o * 5) fb2_31 :: gO q1 R_o (C_o + 1) b2 :: w) 1 0 q1 b2 R_o (C_o + 1) fb2_31 (nI y3_20) y3_20 (nI y4_31) y4_31 z0_69 rfl rfl ⟨by omega, by omega, by omega, by omega⟩ rfl rfl (by omega)) ⟨rfl, yk_X7_put⟩ wm_6_1 wm_5_222 wm_5_223 wm_1_7 wm_5_224 ⟨Nat.le_of_ble_eq_true rfl, Nat.le_of_ble_eq_true rfl⟩ ⟨Nat.le_of_ble_eq_true rfl, Nat.le_of_ble_eq_true rfl⟩ rfl rfl rfl rfl hl.1 rfl (Nat.le_of_ble_eq_true rfl) dX10_isByDivisors_69 (fun o w' H locs hp hB => ?_)
                obtain ⟨rfl, hw9⟩ := hp
                replace hB : Bd κ A s (lA κ b2 (R_o * 5) (vp_updL fb2_31 (y3_20 * 5 + y4_31) z0_69) :: gO q1 R_o (C_o + 1) b2 :: w) H locs := by rw [hw9] at hB; exact hB
                refine W.eq (g2 := F0 m 72 ls []) rfl ?_
                refine lv_iinc (v := nI (y4_31 + 1)) (lv' := [(4, .int (nI (y4_31 + 1))), (3, .int (nI y3_20)), (2, .ref q1), (0, .ref g_o), (1, .ref g_u)]) hx hb dX10_isByDivisors_72 hl (k := 0) rfl (nI_add y4_31 1) (by decide) rfl (fun ls hl => ?_)
                refine lv_goto (tgt := 31) hx hb dX10_isByDivisors_75 (by decide) ?_
                exact ih31 (y4_31 + 1) (vp_updL fb2_31 (y3_20 * 5 + y4_31) z0_69) _ _ (by omega) (by omega) hR hB _ hl
              refine lv_icmp_ge (tgt := 63) hx hb dX10_isByDivisors_50 (by decide) (fun c92 => ?_) (fun c92 => ?_)
              · rw [nleP (a := C_o) (b := y4_31) (by omega) (by omega)] at c92
                replace hR := ifp c92 hR
                refine lv_aload_n hx hb dX10_isByDivisors_63 rfl (lv_at hl 4 rfl) ?_
                refine lv_iload_n hx hb dX10_isByDivisors_64 rfl (lv_at hl 1 rfl) ?_
                refine lv_iconst (v := 0) hx hb dX10_isByDivisors_65 (by decide) ?_
                refine call_V (n := 2) (k0 := (k_u + 2)) (As := [.int (nI y3_20), .int 0]) (rest := [.int (nI y4_31), .int (nI y3_20), .ref q1]) hX hB (k_X7_at κ l (lA κ b2 (R_o * 5) fb2_31 :: gO q1 R_o (C_o + 1) b2 :: w) (k_u + 2) (j_u + 2) g_u b_u R_u C_u f_u (nI y3_20) y3_20 0 0 h_u i_u s_u rfl rfl (by omega)) ⟨rfl, yk_X7_at⟩ wm_5_237 wm_5_238 wm_5_239 wm_1_7 wm_6_0 ⟨Nat.le_of_ble_eq_true rfl, Nat.le_of_ble_eq_true rfl⟩ ⟨Nat.le_of_ble_eq_true rfl, Nat.le_of_ble_eq_true rfl⟩ h_u rfl rfl rfl hl.1 rfl (Nat.le_of_ble_eq_true rfl) dX10_isByDivisors_66 (fun o w' H locs hp hB => ?_)
                obtain ⟨rfl, hw9⟩ := hp
                replace hB : Bd κ A s (lA κ b2 (R_o * 5) fb2_31 :: gO q1 R_o (C_o + 1) b2 :: w) H locs := by rw [hw9] at hB; exact hB
                refine W.eq (g2 := F0 m 69 ls [.long (f_u (y3_20 * 5 + 0)), .int (nI y4_31), .int (nI y3_20), .ref q1]) rfl ?_
                exact jn69 (f_u (y3_20 * 5 + 0)) _ _  hR hB _ hl
              · rw [nleP (a := C_o) (b := y4_31) (by omega) (by omega)] at c92
                replace hR := ifn c92 hR
                refine lv_aload_n hx hb dX10_isByDivisors_53 rfl (lv_at hl 3 rfl) ?_
                refine lv_iload_n hx hb dX10_isByDivisors_54 rfl (lv_at hl 1 rfl) ?_
                refine lv_iload hx hb dX10_isByDivisors_55 (lv_at hl 0 rfl) ?_
                refine call_V (n := 2) (k0 := (k_o + 2)) (As := [.int (nI y3_20), .int (nI y4_31)]) (rest := [.int (nI y4_31), .int (nI y3_20), .ref q1]) hX hB (k_X7_at κ l (lA κ b2 (R_o * 5) fb2_31 :: gO q1 R_o (C_o + 1) b2 :: w) (k_o + 2) (j_o + 2) g_o b_o R_o C_o f_o (nI y3_20) y3_20 (nI y4_31) y4_31 h_o i_o s_o rfl rfl (by omega)) ⟨rfl, yk_X7_at⟩ wm_5_237 wm_5_238 wm_5_239 wm_1_7 wm_6_0 ⟨Nat.le_of_ble_eq_true rfl, Nat.le_of_ble_eq_true rfl⟩ ⟨Nat.le_of_ble_eq_true rfl, Nat.le_of_ble_eq_true rfl⟩ h_o rfl rfl rfl hl.1 rfl (Nat.le_of_ble_eq_true rfl) dX10_isByDivisors_57 (fun o w' H locs hp hB => ?_)
                obtain ⟨rfl, hw9⟩ := hp
                replace hB : Bd κ A s (lA κ b2 (R_o * 5) fb2_31 :: gO q1 R_o (C_o + 1) b2 :: w) H locs := by rw [hw9] at hB; exact hB
                refine W.eq (g2 := F0 m 60 ls [.long (f_o (y3_20 * 5 + y4_31)), .int (nI y4_31), .int (nI y3_20), .ref q1]) rfl ?_
                refine lv_goto (tgt := 69) hx hb dX10_isByDivisors_60 (by decide) ?_
                exact jn69 (f_o (y3_20 * 5 + y4_31)) _ _  hR hB _ hl
        exact lp31 _ 0 fb2_20 _ _ (by omega) (Nat.lt_succ_self _) hR hB _ hl
  exact lp20 _ 0 (fun _ => 0) _ _ (by omega) (Nat.lt_succ_self _) hR hB _ hl
noncomputable def D_X10_goes_2 (f_w : Nat → Int64) (K_t : Nat) (R_u : Nat) (f_u : Nat → Int64) (nn : Nat) : Nat → Int32 := @Nat.rec (fun _ => Nat → Int32) (fun _ => default) (fun _ lb2 (y2_2 : Nat) => (if R_u ≤ y2_2 then 1 else (if K_t ≤ y2_2 then (if (lg_cmp (f_u (y2_2 * 5 + 0)) 0) = 0 then (lb2 (y2_2 + 1)) else 0) else (if (lg_cmp ((f_u (y2_2 * 5 + 0)) - (f_u (y2_2 * 5 + 0)) / (f_w (y2_2 * 5 + y2_2)) * (f_w (y2_2 * 5 + y2_2))) 0) = 0 then (lb2 (y2_2 + 1)) else 0)))) nn
theorem D_X10_goes_2_s {f_w : Nat → Int64} {K_t : Nat} {R_u : Nat} {f_u : Nat → Int64} {nn : Nat} {y2_2 : Nat} : D_X10_goes_2 f_w K_t R_u f_u (nn + 1) y2_2 = (if R_u ≤ y2_2 then 1 else (if K_t ≤ y2_2 then (if (lg_cmp (f_u (y2_2 * 5 + 0)) 0) = 0 then ((D_X10_goes_2 f_w K_t R_u f_u nn) (y2_2 + 1)) else 0) else (if (lg_cmp ((f_u (y2_2 * 5 + 0)) - (f_u (y2_2 * 5 + 0)) / (f_w (y2_2 * 5 + y2_2)) * (f_w (y2_2 * 5 + y2_2))) 0) = 0 then ((D_X10_goes_2 f_w K_t R_u f_u nn) (y2_2 + 1)) else 0))) := rfl
noncomputable def D_X10_goes (R_w : Nat) (C_w : Nat) (f_w : Nat → Int64) (K_t : Nat) (p_t : Int32) (q_t : Int32) (r_t : Int32) (R_u : Nat) (C_u : Nat) (f_u : Nat → Int64) : Int32 := (D_X10_goes_2 f_w K_t R_u f_u (R_u + 1 - 0 + 1) 0)
theorem D_X10_goes_s {R_w : Nat} {C_w : Nat} {f_w : Nat → Int64} {K_t : Nat} {p_t : Int32} {q_t : Int32} {r_t : Int32} {R_u : Nat} {C_u : Nat} {f_u : Nat → Int64} : D_X10_goes R_w C_w f_w K_t p_t q_t r_t R_u C_u f_u = (D_X10_goes_2 f_w K_t R_u f_u (R_u + 1 - 0 + 1) 0) := rfl
set_option maxHeartbeats 4000000 in
set_option maxRecDepth 100000 in
theorem k_X10_goes (κ : Kt) (l : Launch) (w : va_W) (k_w j_w g_w b_w R_w C_w : Nat) (f_w : Nat → Int64) (k_t a_t l_t m_t K_t : Nat) (p_t q_t r_t : Int32) (k_u j_u g_u b_u R_u C_u : Nat) (f_u : Nat → Int64) (h_w : w[k_w]? = some (gO g_w R_w C_w b_w)) (i_w : w[j_w]? = some (lA κ b_w (R_w * 5) f_w)) (s_w : shp R_w C_w) (h_t : w[k_t]? = some (a_t, .inr (10, [.ref g_w, .ref l_t, .ref m_t, .int p_t, .int q_t, .int (nI K_t), .int r_t]))) (h_u : w[k_u]? = some (gO g_u R_u C_u b_u)) (i_u : w[j_u]? = some (lA κ b_u (R_u * 5) f_u)) (s_u : shp R_u C_u) (hK : K_t ≤ R_w ∧ K_t ≤ C_w ∧ ∀ j, j < K_t → ¬ f_w (j * 5 + j) = 0) (o_x : Int32) (hR : D_X10_goes R_w C_w f_w K_t p_t q_t r_t R_u C_u f_u = o_x) : CM κ l yX10_goes cX10_goes 3 (some .boolean) 1 22 0 0 [.ref a_t, .ref g_u] (w) (fun o w' => o = some (.int o_x) ∧ (o_x = 0 ∨ o_x = 1) ∧ w' = w) := by
  have z_w := s_w
  obtain ⟨s_w1, s_w2, s_w3, s_w4⟩ := z_w
  have z_u := s_u
  obtain ⟨s_u1, s_u2, s_u3, s_u4⟩ := z_u
  refine CM_begin (plainFor_of_name pn_RX10) (Nat.le_of_ble_eq_true rfl) ?_
  intro p e s m args below meth c A Q hX hnm hA3 hQ hB ls hl
  have hx := hX.1.1
  have hb := hX.1.2.1
  have hl : lv_has ls 3 [(0, .ref a_t), (1, .ref g_u)] := hl
  obtain ⟨hK1, hK2, hK3⟩ := hK
  replace hR := (D_X10_goes_s).symm.trans hR
  refine lv_iconst (v := 0) hx hb dX10_goes_0 (by decide) ?_
  refine lv_istore_n (lv' := [(2, .int 0), (0, .ref a_t), (1, .ref g_u)]) hx hb dX10_goes_1 rfl hl (by decide) rfl (fun ls hl => ?_)
  have lp2 : ∀ (nn2 : Nat) (y2_2 : Nat) (H : Heap) (locs : List Loc), (y2_2 ≤ R_u) → R_u + 1 - y2_2 < nn2 → D_X10_goes_2 f_w K_t R_u f_u nn2 y2_2 = o_x → Bd κ A s (w) H locs → ∀ ls : Array Slot, lv_has ls 3 [(2, .int (nI y2_2)), (0, .ref a_t), (1, .ref g_u)] → W p l e (Rm 1 22 0 0) s m args below meth c H locs (0) (0) Q (F0 m 2 ls []) := by
    intro nn2
    induction nn2 with
    | zero => intro y2_2 H locs hn2_2 hμ; exact absurd hμ (Nat.not_lt_zero _)
    | succ nn2 ih2 =>
      intro y2_2 H locs hn2_2 hμ2 hR hB ls hl
      replace hR := (D_X10_goes_2_s).symm.trans hR
      refine lv_iload_n hx hb dX10_goes_2 rfl (lv_at hl 0 rfl) ?_
      refine lv_aload_n hx hb dX10_goes_3 rfl (lv_at hl 2 rfl) ?_
      refine gf (k0 := k_u) hX hB h_u rfl in7 0 (by decide) wm_5_148 rfl rfl dX10_goes_4 ?_
      refine lv_icmp_ge (tgt := 61) hx hb dX10_goes_7 (by decide) (fun c9 => ?_) (fun c9 => ?_)
      · rw [nleP (a := R_u) (b := y2_2) (by omega) (by omega)] at c9
        replace hR := ifp c9 hR
        refine lv_iconst (v := 1) hx hb dX10_goes_61 (by decide) ?_
        rw [← hQ]
        exact end_i hX hB hA3 rfl rfl (by obtain rfl := hR; exact ⟨rfl, (Or.inr rfl), rfl⟩) (Nat.le_of_ble_eq_true rfl) (Nat.le_of_ble_eq_true rfl) dX10_goes_62
      · rw [nleP (a := R_u) (b := y2_2) (by omega) (by omega)] at c9
        replace hR := ifn c9 hR
        refine lv_iload_n hx hb dX10_goes_10 rfl (lv_at hl 0 rfl) ?_
        refine lv_aload_n hx hb dX10_goes_11 rfl (lv_at hl 1 rfl) ?_
        refine gf (k0 := k_t) hX hB h_t rfl in9 5 (by decide) wm_6_232 rfl rfl dX10_goes_12 ?_
        refine lv_icmp_ge (tgt := 42) hx hb dX10_goes_15 (by decide) (fun c10 => ?_) (fun c10 => ?_)
        · rw [nleP (a := K_t) (b := y2_2) (by omega) (by omega)] at c10
          replace hR := ifp c10 hR
          refine lv_aload_n hx hb dX10_goes_42 rfl (lv_at hl 2 rfl) ?_
          refine lv_iload_n hx hb dX10_goes_43 rfl (lv_at hl 0 rfl) ?_
          refine lv_iconst (v := 0) hx hb dX10_goes_44 (by decide) ?_
          refine call_V (n := 2) (k0 := k_u) (As := [.int (nI y2_2), .int 0]) (rest := []) hX hB (k_X7_at κ l (w) k_u j_u g_u b_u R_u C_u f_u (nI y2_2) y2_2 0 0 h_u i_u s_u rfl rfl (by omega)) ⟨rfl, yk_X7_at⟩ wm_5_237 wm_5_238 wm_5_239 wm_1_7 wm_6_0 ⟨Nat.le_of_ble_eq_true rfl, Nat.le_of_ble_eq_true rfl⟩ ⟨Nat.le_of_ble_eq_true rfl, Nat.le_of_ble_eq_true rfl⟩ h_u rfl rfl rfl hl.1 rfl (Nat.le_of_ble_eq_true rfl) dX10_goes_45 (fun o w' H locs hp hB => ?_)
          obtain ⟨rfl, hw9⟩ := hp
          replace hB : Bd κ A s (w) H locs := by rw [hw9] at hB; exact hB
          refine W.eq (g2 := F0 m 48 ls [.long (f_u (y2_2 * 5 + 0))]) rfl ?_
          refine lv_lconst (v := 0) hx hb dX10_goes_48 (by decide) ?_
          refine W.lcmp hx hb dX10_goes_49 ?_
          refine lv_if_eq (tgt := 55) hx hb dX10_goes_50 (by decide) (fun c11 => ?_) (fun c11 => ?_)
          · replace hR := ifp c11 hR
            refine lv_iinc (v := nI (y2_2 + 1)) (lv' := [(2, .int (nI (y2_2 + 1))), (0, .ref a_t), (1, .ref g_u)]) hx hb dX10_goes_55 hl (k := 0) rfl (nI_add y2_2 1) (by decide) rfl (fun ls hl => ?_)
            refine lv_goto (tgt := 2) hx hb dX10_goes_58 (by decide) ?_
            exact ih2 (y2_2 + 1) _ _ (by omega) (by omega) hR hB _ hl
          · replace hR := ifn c11 hR
            refine lv_iconst (v := 0) hx hb dX10_goes_53 (by decide) ?_
            rw [← hQ]
            exact end_i hX hB hA3 rfl rfl (by obtain rfl := hR; exact ⟨rfl, (Or.inl rfl), rfl⟩) (Nat.le_of_ble_eq_true rfl) (Nat.le_of_ble_eq_true rfl) dX10_goes_54
        · rw [nleP (a := K_t) (b := y2_2) (by omega) (by omega)] at c10
          replace hR := ifn c10 hR
          refine lv_aload_n hx hb dX10_goes_18 rfl (lv_at hl 2 rfl) ?_
          refine lv_iload_n hx hb dX10_goes_19 rfl (lv_at hl 0 rfl) ?_
          refine lv_iconst (v := 0) hx hb dX10_goes_20 (by decide) ?_
          refine call_V (n := 2) (k0 := k_u) (As := [.int (nI y2_2), .int 0]) (rest := []) hX hB (k_X7_at κ l (w) k_u j_u g_u b_u R_u C_u f_u (nI y2_2) y2_2 0 0 h_u i_u s_u rfl rfl (by omega)) ⟨rfl, yk_X7_at⟩ wm_5_237 wm_5_238 wm_5_239 wm_1_7 wm_6_0 ⟨Nat.le_of_ble_eq_true rfl, Nat.le_of_ble_eq_true rfl⟩ ⟨Nat.le_of_ble_eq_true rfl, Nat.le_of_ble_eq_true rfl⟩ h_u rfl rfl rfl hl.1 rfl (Nat.le_of_ble_eq_true rfl) dX10_goes_21 (fun o w' H locs hp hB => ?_)
          obtain ⟨rfl, hw9⟩ := hp
          replace hB : Bd κ A s (w) H locs := by rw [hw9] at hB; exact hB
          refine W.eq (g2 := F0 m 24 ls [.long (f_u (y2_2 * 5 + 0))]) rfl ?_
          refine lv_aload_n hx hb dX10_goes_24 rfl (lv_at hl 1 rfl) ?_
          refine gf (k0 := k_t) hX hB h_t rfl in9 0 (by decide) wm_6_222 rfl rfl dX10_goes_25 ?_
          refine lv_iload_n hx hb dX10_goes_28 rfl (lv_at hl 0 rfl) ?_
          refine lv_iload_n hx hb dX10_goes_29 rfl (lv_at hl 0 rfl) ?_
          refine call_V (n := 2) (k0 := k_w) (As := [.int (nI y2_2), .int (nI y2_2)]) (rest := [.long (f_u (y2_2 * 5 + 0))]) hX hB (k_X7_at κ l (w) k_w j_w g_w b_w R_w C_w f_w (nI y2_2) y2_2 (nI y2_2) y2_2 h_w i_w s_w rfl rfl (by omega)) ⟨rfl, yk_X7_at⟩ wm_5_237 wm_5_238 wm_5_239 wm_1_7 wm_6_0 ⟨Nat.le_of_ble_eq_true rfl, Nat.le_of_ble_eq_true rfl⟩ ⟨Nat.le_of_ble_eq_true rfl, Nat.le_of_ble_eq_true rfl⟩ h_w rfl rfl rfl hl.1 rfl (Nat.le_of_ble_eq_true rfl) dX10_goes_30 (fun o w' H locs hp hB => ?_)
          obtain ⟨rfl, hw9⟩ := hp
          replace hB : Bd κ A s (w) H locs := by rw [hw9] at hB; exact hB
          refine W.eq (g2 := F0 m 33 ls [.long (f_w (y2_2 * 5 + y2_2)), .long (f_u (y2_2 * 5 + 0))]) rfl ?_
          refine lv_lrem hx hb dX10_goes_33 (hK3 _ (by omega)) ?_
          refine lv_lconst (v := 0) hx hb dX10_goes_34 (by decide) ?_
          refine W.lcmp hx hb dX10_goes_35 ?_
          refine lv_if_eq (tgt := 55) hx hb dX10_goes_36 (by decide) (fun c12 => ?_) (fun c12 => ?_)
          · replace hR := ifp c12 hR
            refine lv_iinc (v := nI (y2_2 + 1)) (lv' := [(2, .int (nI (y2_2 + 1))), (0, .ref a_t), (1, .ref g_u)]) hx hb dX10_goes_55 hl (k := 0) rfl (nI_add y2_2 1) (by decide) rfl (fun ls hl => ?_)
            refine lv_goto (tgt := 2) hx hb dX10_goes_58 (by decide) ?_
            exact ih2 (y2_2 + 1) _ _ (by omega) (by omega) hR hB _ hl
          · replace hR := ifn c12 hR
            refine lv_goto (tgt := 53) hx hb dX10_goes_39 (by decide) ?_
            refine lv_iconst (v := 0) hx hb dX10_goes_53 (by decide) ?_
            rw [← hQ]
            exact end_i hX hB hA3 rfl rfl (by obtain rfl := hR; exact ⟨rfl, (Or.inl rfl), rfl⟩) (Nat.le_of_ble_eq_true rfl) (Nat.le_of_ble_eq_true rfl) dX10_goes_54
  exact lp2 _ 0 _ _ (by omega) (Nat.lt_succ_self _) hR hB _ hl
noncomputable def D_X10_column_21 (R_o : Nat) (f_o : Nat → Int64) (c0 : Nat) (nn : Nat) : Nat → (Nat → Int64) → (Nat → Int64) := @Nat.rec (fun _ => Nat → (Nat → Int64) → (Nat → Int64)) (fun _ _ => default) (fun _ lb21 (y4_21 : Nat) (fb2_21 : Nat → Int64) => (if R_o ≤ y4_21 then fb2_21 else (lb21 (y4_21 + 1) (vp_updL fb2_21 (y4_21 * 5 + 0) (f_o (y4_21 * 5 + c0)))))) nn
theorem D_X10_column_21_s {R_o : Nat} {f_o : Nat → Int64} {c0 : Nat} {nn : Nat} {y4_21 : Nat} {fb2_21 : Nat → Int64} : D_X10_column_21 R_o f_o c0 (nn + 1) y4_21 fb2_21 = (if R_o ≤ y4_21 then fb2_21 else ((D_X10_column_21 R_o f_o c0 nn) (y4_21 + 1) (vp_updL fb2_21 (y4_21 * 5 + 0) (f_o (y4_21 * 5 + c0))))) := rfl
noncomputable def D_X10_column (p_x : Int32) (q_x : Int32) (r_x : Int32) (u_x : Int32) (R_o : Nat) (C_o : Nat) (f_o : Nat → Int64) (y : Int32) (c0 : Nat) : (Nat → Int64) := (D_X10_column_21 R_o f_o c0 (R_o + 1 - 0 + 1) 0 (fun _ => 0))
theorem D_X10_column_s {p_x : Int32} {q_x : Int32} {r_x : Int32} {u_x : Int32} {R_o : Nat} {C_o : Nat} {f_o : Nat → Int64} {y : Int32} {c0 : Nat} : D_X10_column p_x q_x r_x u_x R_o C_o f_o y c0 = (D_X10_column_21 R_o f_o c0 (R_o + 1 - 0 + 1) 0 (fun _ => 0)) := rfl
set_option maxHeartbeats 4000000 in
set_option maxRecDepth 100000 in
theorem k_X10_column (κ : Kt) (l : Launch) (w : va_W) (k_x a_x t_x j_x : Nat) (p_x q_x r_x u_x : Int32) (T_x : Nat → Option Nat) (k_o j_o g_o b_o R_o C_o : Nat) (f_o : Nat → Int64) (y : Int32) (xc0 : Int32) (c0 : Nat) (h_x : w[k_x]? = some (a_x, .inr (11, [.ref t_x, .int p_x, .int q_x, .int r_x, .int u_x]))) (i_x : w[j_x]? = some (t_x, .inl (κ.2.1 2, 4, .inr (.inr (.inr (.inr T_x)))))) (h_o : w[k_o]? = some (gO g_o R_o C_o b_o)) (i_o : w[j_o]? = some (lA κ b_o (R_o * 5) f_o)) (s_o : shp R_o C_o) (hxc0 : xc0 = nI c0) (hy : vp_in y 4) (hT : T_x y.toNatClampNeg = some g_o) (hc0 : c0 < C_o) (o_F : Nat → Int64) (hR : D_X10_column p_x q_x r_x u_x R_o C_o f_o y c0 = o_F) : CM κ l yX10_column cX10_column 5 (some (.object "GridmenderModel$Grid")) 2 42 2 23 [.ref a_x, .int y, .int xc0] (w) (fun o w' => ∃ (q1 : Nat) (q2 : Nat), o = some (.ref q1) ∧ w' = lA κ q2 (R_o * 5) o_F :: gO q1 R_o 1 q2 :: w) := by
  have z_o := s_o
  obtain ⟨s_o1, s_o2, s_o3, s_o4⟩ := z_o
  subst hxc0
  refine CM_begin (plainFor_of_name pn_RX10) (Nat.le_of_ble_eq_true rfl) ?_
  intro p e s m args below meth c A Q hX hnm hA3 hQ hB ls hl
  have hx := hX.1.1
  have hb := hX.1.2.1
  have hl : lv_has ls 5 [(0, .ref a_x), (1, .int y), (2, .int (nI c0))] := hl
  replace hR := (D_X10_column_s).symm.trans hR
  refine newO (fs := [.int 0, .int 0, .null]) hX hB (ci := 8) rfl in7 tyX7_ok wm_5_138 wm_5_140 wm_1_7 df8 (Nat.le_of_ble_eq_true rfl) (Nat.le_of_ble_eq_true rfl) dX10_column_0 (fun q1 H hB => ?_)
  refine lv_dup hx hb dX10_column_3 rfl ?_
  refine lv_aload_n hx hb dX10_column_4 rfl (lv_at hl 0 rfl) ?_
  refine gf (k0 := k_x + 1) hX hB h_x rfl in10 0 (by decide) wm_5_162 rfl rfl dX10_column_5 ?_
  refine lv_iload_n hx hb dX10_column_8 rfl (lv_at hl 1 rfl) ?_
  refine aaldM (k0 := j_x + 1) hX hB i_x hy hT dX10_column_9 ?_
  refine gf (k0 := k_o + 1) hX hB h_o rfl in7 0 (by decide) wm_5_148 rfl rfl dX10_column_10 ?_
  refine lv_iconst (v := 1) hx hb dX10_column_13 (by decide) ?_
  refine call_I (n := 2) (As := [.int (nI R_o), .int 1]) (rest := [.ref q1]) hX hB (k_X7_init κ l (w) q1 (nI R_o) R_o 1 1 rfl rfl (by omega)) yk_X7_init rfl wm_5_141 wm_5_142 wm_1_7 wm_5_143 ⟨Nat.le_of_ble_eq_true rfl, Nat.le_of_ble_eq_true rfl⟩ ⟨Nat.le_of_ble_eq_true rfl, Nat.le_of_ble_eq_true rfl⟩ rfl hl.1 rfl (Nat.le_of_ble_eq_true rfl) dX10_column_14 (fun o w' H locs hp hB => ?_)
  obtain ⟨b2, rfl, hw9⟩ := hp
  replace hB : Bd κ A s (lA κ b2 (R_o * 5) (fun _ => 0) :: gO q1 R_o 1 b2 :: w) H locs := by rw [hw9] at hB; exact hB
  refine W.eq (g2 := F0 m 17 ls [.ref q1]) rfl ?_
  refine lv_astore_n (lv' := [(3, .ref q1), (0, .ref a_x), (1, .int y), (2, .int (nI c0))]) hx hb dX10_column_17 rfl hl (by decide) rfl (fun ls hl => ?_)
  refine lv_iconst (v := 0) hx hb dX10_column_18 (by decide) ?_
  refine lv_istore (lv' := [(4, .int 0), (3, .ref q1), (0, .ref a_x), (1, .int y), (2, .int (nI c0))]) hx hb dX10_column_19 hl (by decide) rfl (fun ls hl => ?_)
  have lp21 : ∀ (nn21 : Nat) (y4_21 : Nat) (fb2_21 : Nat → Int64) (H : Heap) (locs : List Loc), (y4_21 ≤ R_o) → R_o + 1 - y4_21 < nn21 → D_X10_column_21 R_o f_o c0 nn21 y4_21 fb2_21 = o_F → Bd κ A s (lA κ b2 (R_o * 5) fb2_21 :: gO q1 R_o 1 b2 :: w) H locs → ∀ ls : Array Slot, lv_has ls 5 [(4, .int (nI y4_21)), (3, .ref q1), (0, .ref a_x), (1, .int y), (2, .int (nI c0))] → W p l e (Rm 2 42 2 23) s m args below meth c H locs (2) (23) Q (F0 m 21 ls []) := by
    intro nn21
    induction nn21 with
    | zero => intro y4_21 fb2_21 H locs hn4_21 hμ; exact absurd hμ (Nat.not_lt_zero _)
    | succ nn21 ih21 =>
      intro y4_21 fb2_21 H locs hn4_21 hμ21 hR hB ls hl
      replace hR := (D_X10_column_21_s).symm.trans hR
      refine lv_iload hx hb dX10_column_21 (lv_at hl 0 rfl) ?_
      refine lv_aload_n hx hb dX10_column_23 rfl (lv_at hl 1 rfl) ?_
      refine gf (k0 := 1) hX hB rfl rfl in7 0 (by decide) wm_5_148 rfl rfl dX10_column_24 ?_
      refine lv_icmp_ge (tgt := 55) hx hb dX10_column_27 (by decide) (fun c5 => ?_) (fun c5 => ?_)
      · rw [nleP (a := R_o) (b := y4_21) (by omega) (by omega)] at c5
        replace hR := ifp c5 hR
        refine lv_aload_n hx hb dX10_column_55 rfl (lv_at hl 1 rfl) ?_
        rw [← hQ]
        exact end_a hX hB hA3 rfl (Or.inr ⟨_, rfl⟩) (by obtain rfl := hR; exact ⟨q1, b2, rfl, rfl⟩) (Nat.le_of_ble_eq_true rfl) (Nat.le_of_ble_eq_true rfl) dX10_column_56
      · rw [nleP (a := R_o) (b := y4_21) (by omega) (by omega)] at c5
        replace hR := ifn c5 hR
        refine lv_aload_n hx hb dX10_column_30 rfl (lv_at hl 1 rfl) ?_
        refine lv_iload hx hb dX10_column_31 (lv_at hl 0 rfl) ?_
        refine lv_iconst (v := 0) hx hb dX10_column_33 (by decide) ?_
        refine lv_aload_n hx hb dX10_column_34 rfl (lv_at hl 2 rfl) ?_
        refine gf (k0 := k_x + 2) hX hB h_x rfl in10 0 (by decide) wm_5_162 rfl rfl dX10_column_35 ?_
        refine lv_iload_n hx hb dX10_column_38 rfl (lv_at hl 3 rfl) ?_
        refine aaldM (k0 := j_x + 2) hX hB i_x hy hT dX10_column_39 ?_
        refine lv_iload hx hb dX10_column_40 (lv_at hl 0 rfl) ?_
        refine lv_iload_n hx hb dX10_column_42 rfl (lv_at hl 4 rfl) ?_
        refine call_V (n := 2) (k0 := (k_o + 2)) (As := [.int (nI y4_21), .int (nI c0)]) (rest := [.int 0, .int (nI y4_21), .ref q1]) hX hB (k_X7_at κ l (lA κ b2 (R_o * 5) fb2_21 :: gO q1 R_o 1 b2 :: w) (k_o + 2) (j_o + 2) g_o b_o R_o C_o f_o (nI y4_21) y4_21 (nI c0) c0 h_o i_o s_o rfl rfl (by omega)) ⟨rfl, yk_X7_at⟩ wm_5_237 wm_5_238 wm_5_239 wm_1_7 wm_6_0 ⟨Nat.le_of_ble_eq_true rfl, Nat.le_of_ble_eq_true rfl⟩ ⟨Nat.le_of_ble_eq_true rfl, Nat.le_of_ble_eq_true rfl⟩ h_o rfl rfl rfl hl.1 rfl (Nat.le_of_ble_eq_true rfl) dX10_column_43 (fun o w' H locs hp hB => ?_)
        obtain ⟨rfl, hw9⟩ := hp
        replace hB : Bd κ A s (lA κ b2 (R_o * 5) fb2_21 :: gO q1 R_o 1 b2 :: w) H locs := by rw [hw9] at hB; exact hB
        refine W.eq (g2 := F0 m 46 ls [.long (f_o (y4_21 * 5 + c0)), .int 0, .int (nI y4_21), .ref q1]) rfl ?_
        refine call_V (n := 3) (k0 := 1) (As := [.int (nI y4_21), .int 0, .long (f_o (y4_21 * 5 + c0))]) (rest := []) hX hB (k_X7_put κ l (lA κ b2 (R_o * 5) fb2_21 :: gO q1 R_o 1 b2 :: w) 1 0 q1 b2 R_o 1 fb2_21 (nI y4_21) y4_21 0 0 (f_o (y4_21 * 5 + c0)) rfl rfl ⟨by omega, by omega, by omega, by omega⟩ rfl rfl (by omega)) ⟨rfl, yk_X7_put⟩ wm_6_1 wm_5_222 wm_5_223 wm_1_7 wm_5_224 ⟨Nat.le_of_ble_eq_true rfl, Nat.le_of_ble_eq_true rfl⟩ ⟨Nat.le_of_ble_eq_true rfl, Nat.le_of_ble_eq_true rfl⟩ rfl rfl rfl rfl hl.1 rfl (Nat.le_of_ble_eq_true rfl) dX10_column_46 (fun o w' H locs hp hB => ?_)
        obtain ⟨rfl, hw9⟩ := hp
        replace hB : Bd κ A s (lA κ b2 (R_o * 5) (vp_updL fb2_21 (y4_21 * 5 + 0) (f_o (y4_21 * 5 + c0))) :: gO q1 R_o 1 b2 :: w) H locs := by rw [hw9] at hB; exact hB
        refine W.eq (g2 := F0 m 49 ls []) rfl ?_
        refine lv_iinc (v := nI (y4_21 + 1)) (lv' := [(4, .int (nI (y4_21 + 1))), (3, .ref q1), (0, .ref a_x), (1, .int y), (2, .int (nI c0))]) hx hb dX10_column_49 hl (k := 0) rfl (nI_add y4_21 1) (by decide) rfl (fun ls hl => ?_)
        refine lv_goto (tgt := 21) hx hb dX10_column_52 (by decide) ?_
        exact ih21 (y4_21 + 1) (vp_updL fb2_21 (y4_21 * 5 + 0) (f_o (y4_21 * 5 + c0))) _ _ (by omega) (by omega) hR hB _ hl
  exact lp21 _ 0 (fun _ => 0) _ _ (by omega) (Nat.lt_succ_self _) hR hB _ hl
end
section
-- 43.rmm
theorem mwGx {κ : Kt} {a r : Nat → Nat} {f : Nat → Nat → Int64} {q : Nat → Int32} {T : Nat → Option Nat} {w : va_W} {i g : Nat} (hi : i < 4) (h : a (2 + 2 * i) = g) : (mw κ a r f q T w)[2 + 2 * i]? = some (gO g (r (2 * i)) (r (2 * i + 1)) (a (3 + 2 * i))) := by subst h; exact mwG hi
theorem mw0x {κ : Kt} {a r : Nat → Nat} {f : Nat → Nat → Int64} {q : Nat → Int32} {T : Nat → Option Nat} {w : va_W} {x : Nat} (h : a 0 = x) : (mw κ a r f q T w)[0]? = some (x, .inr (11, [.ref (a 1), .int (q 0), .int (q 1), .int (q 2), .int (q 3)])) := by subst h; exact mw0
section MWX
variable {κ : Kt} {a r : Nat → Nat} {f : Nat → Nat → Int64} {q : Nat → Int32} {T : Nat → Option Nat} {w : va_W} {y : Nat}
theorem mwQ0x (h : a 0 = y) (x : Int32) : (mw κ a r f q T w).set 0 (y, .inr (11, [.ref (a 1), .int x, .int (q 1), .int (q 2), .int (q 3)])) = mw κ a r f (va_up q 0 x) T w := by subst h; exact mwQ0 x
theorem mwQ1x (h : a 0 = y) (x : Int32) : (mw κ a r f q T w).set 0 (y, .inr (11, [.ref (a 1), .int (q 0), .int x, .int (q 2), .int (q 3)])) = mw κ a r f (va_up q 1 x) T w := by subst h; exact mwQ1 x
theorem mwQ2x (h : a 0 = y) (x : Int32) : (mw κ a r f q T w).set 0 (y, .inr (11, [.ref (a 1), .int (q 0), .int (q 1), .int x, .int (q 3)])) = mw κ a r f (va_up q 2 x) T w := by subst h; exact mwQ2 x
theorem mwQ3x (h : a 0 = y) (x : Int32) : (mw κ a r f q T w).set 0 (y, .inr (11, [.ref (a 1), .int (q 0), .int (q 1), .int (q 2), .int x])) = mw κ a r f (va_up q 3 x) T w := by subst h; exact mwQ3 x
end MWX
theorem Bd_repl2 {s : State} {H : Heap} {locs : List Loc} {A : Nat → Prop} {κ : Kt} {a r : Nat → Nat} {f : Nat → Nat → Int64} {q : Nat → Int32} {w : va_W} {t g b R C : Nat} {F : Nat → Int64} (ht : t < 4) (hB : Bd κ A s (lA κ b (R * 5) F :: gO g R C b :: mw κ a r f q (va_up (tb a) t (some g)) w) H locs) : ∃ a1 : Nat → Nat, a1 0 = a 0 ∧ a1 (2 + 2 * t) = g ∧ Bd κ A s (mw κ a1 (va_up (va_up r (2 * t) R) (2 * t + 1) C) (va_up f t F) q (tb a1) w) H locs :=
  ⟨_, by unfold va_up; rw [if_neg (by omega), if_neg (by omega)], by unfold va_up; rw [if_neg (by omega), if_pos rfl], Bd_repl ht hB⟩
theorem Bd_swap2 {s : State} {H : Heap} {locs : List Loc} {A : Nat → Prop} {κ : Kt} {a r : Nat → Nat} {f : Nat → Nat → Int64} {q : Nat → Int32} {w : va_W} {t u : Nat} (ht : t < 4) (hu : u < 4) (hB : Bd κ A s (mw κ a r f q (va_up (va_up (tb a) t (some (a (2 + 2 * u)))) u (some (a (2 + 2 * t)))) w) H locs) : ∃ a1 : Nat → Nat, a1 0 = a 0 ∧ Bd κ A s (mw κ a1 (fun k => r (swr t u k)) (fun k => f (sw1 t u k)) q (tb a1) w) H locs :=
  ⟨fun k => a (sw2 t u k), by show a (sw2 t u 0) = a 0; congr 1; unfold sw2; (repeat' split) <;> omega, Bd_swap ht hu hB⟩
theorem mok_r {r : Nat → Nat} {f : Nat → Nat → Int64} (h : mok r f) : ∀ i, i < 4 → 1 ≤ r (2 * i) ∧ r (2 * i) ≤ 4 ∧ 1 ≤ r (2 * i + 1) ∧ r (2 * i + 1) ≤ 4 := fun i hi => (h i hi).1

noncomputable def D_X10_isRow (r : Nat → Nat) (f : Nat → Nat → Int64) (q : Nat → Int32) (y : Int32) (z : Int32) : Int32 := bnd1 (D_X10_isTable y) (fun (z1 : Int32) => (if z1 = 0 then 0 else (if z < 0 then 0 else (if (nI (r (2 * y.toNatClampNeg))) ≤ z then 0 else 1))))
theorem D_X10_isRow_s {r : Nat → Nat} {f : Nat → Nat → Int64} {q : Nat → Int32} {y : Int32} {z : Int32} : D_X10_isRow r f q y z = bnd1 (D_X10_isTable y) (fun (z1 : Int32) => (if z1 = 0 then 0 else (if z < 0 then 0 else (if (nI (r (2 * y.toNatClampNeg))) ≤ z then 0 else 1)))) := rfl
set_option maxHeartbeats 4000000 in
set_option maxRecDepth 100000 in
theorem k_X10_isRow (κ : Kt) (l : Launch) (w : va_W) (a r : Nat → Nat) (f : Nat → Nat → Int64) (q : Nat → Int32) (y : Int32) (z : Int32) (hm : mok r f) (o_x : Int32) (hR : D_X10_isRow r f q y z = o_x) : CM κ l yX10_isRow cX10_isRow 3 (some .boolean) 1 20 0 0 [.ref (a 0), .int y, .int z] (mw κ a r f q (tb a) w) (fun o w' => o = some (.int o_x) ∧ (o_x = 0 ∨ o_x = 1 ∧ 0 ≤ y ∧ y.toNatClampNeg < 4 ∧ 0 ≤ z ∧ z.toNatClampNeg < r (2 * y.toNatClampNeg)) ∧ w' = mw κ a r f q (tb a) w) := by
  refine CM_begin (plainFor_of_name pn_RX10) (Nat.le_of_ble_eq_true rfl) ?_
  intro p e s m args below meth c A Q hX hnm hA3 hQ hB ls hl
  have hx := hX.1.1
  have hb := hX.1.2.1
  have hl : lv_has ls 3 [(0, .ref (a 0)), (1, .int y), (2, .int z)] := hl
  replace hR := (D_X10_isRow_s).symm.trans hR
  refine lv_iload_n hx hb dX10_isRow_0 rfl (lv_at hl 1 rfl) ?_
  obtain ⟨z1, hd2⟩ := ex1 (D_X10_isTable y)
  replace hR := bnd1_use hd2 hR
  refine call_S (n := 1) (As := [.int y]) (rest := []) hX hB (k_X10_isTable κ l (mw κ a r f q (tb a) w) y z1 hd2) yk_X10_isTable wm_5_186 wm_5_187 wm_1_6 wm_5_188 ⟨Nat.le_of_ble_eq_true rfl, Nat.le_of_ble_eq_true rfl⟩ ⟨Nat.le_of_ble_eq_true rfl, Nat.le_of_ble_eq_true rfl⟩ rfl hl.1 rfl (Nat.le_of_ble_eq_true rfl) dX10_isRow_1 (fun o w' H locs hp hB => ?_)
  obtain ⟨rfl, hf3, hw9⟩ := hp
  replace hB : Bd κ A s (mw κ a r f q (tb a) w) H locs := by rw [hw9] at hB; exact hB
  rcases hf3 with rfl | ⟨rfl, hz4a, hz4b⟩
  · replace hR := ifp rfl hR
    refine W.eq (g2 := F0 m 4 ls [.int 0]) rfl ?_
    refine lv_if_eq (tgt := 28) hx hb dX10_isRow_4 (by decide) (fun _ => ?_) (fun c5 => False.elim (by revert c5; decide))
    refine lv_iconst (v := 0) hx hb dX10_isRow_28 (by decide) ?_
    rw [← hQ]
    exact end_i hX hB hA3 rfl rfl (by obtain rfl := hR; exact ⟨rfl, (Or.inl rfl), rfl⟩) (Nat.le_of_ble_eq_true rfl) (Nat.le_of_ble_eq_true rfl) dX10_isRow_29
  · replace hR := ifn (by decide) hR
    refine W.eq (g2 := F0 m 4 ls [.int 1]) rfl ?_
    refine lv_if_eq (tgt := 28) hx hb dX10_isRow_4 (by decide) (fun c6 => False.elim (by revert c6; decide)) (fun _ => ?_)
    refine lv_iload_n hx hb dX10_isRow_7 rfl (lv_at hl 2 rfl) ?_
    refine lv_if_lt (tgt := 28) hx hb dX10_isRow_8 (by decide) (fun c7 => ?_) (fun c7 => ?_)
    · replace hR := ifp c7 hR
      refine lv_iconst (v := 0) hx hb dX10_isRow_28 (by decide) ?_
      rw [← hQ]
      exact end_i hX hB hA3 rfl rfl (by obtain rfl := hR; exact ⟨rfl, (Or.inl rfl), rfl⟩) (Nat.le_of_ble_eq_true rfl) (Nat.le_of_ble_eq_true rfl) dX10_isRow_29
    · replace hR := ifn c7 hR
      refine lv_iload_n hx hb dX10_isRow_11 rfl (lv_at hl 2 rfl) ?_
      refine lv_aload_n hx hb dX10_isRow_12 rfl (lv_at hl 0 rfl) ?_
      refine gf (k0 := 0) hX hB (mw0x (a := a) (r := r) (f := f) (q := q) (T := tb a) (w := w) rfl) rfl in10 0 (by decide) wm_5_162 rfl rfl dX10_isRow_13 ?_
      refine lv_iload_n hx hb dX10_isRow_16 rfl (lv_at hl 1 rfl) ?_
      refine aaldM (k0 := 1) hX hB (mw1 (a := a) (r := r) (f := f) (q := q) (T := tb a) (w := w)) (vp_in_mk (by assumption) (by assumption)) rfl dX10_isRow_17 ?_
      have hb8 := mok_r hm y.toNatClampNeg (by omega)
      refine gf (k0 := 2 + 2 * y.toNatClampNeg) hX hB (mwG (i := y.toNatClampNeg) (a := a) (r := r) (f := f) (q := q) (T := tb a) (w := w) (by omega)) rfl in7 0 (by decide) wm_5_148 rfl rfl dX10_isRow_18 ?_
      refine lv_icmp_ge (tgt := 28) hx hb dX10_isRow_21 (by decide) (fun c10 => ?_) (fun c10 => ?_)
      · replace hR := ifp c10 hR
        refine lv_iconst (v := 0) hx hb dX10_isRow_28 (by decide) ?_
        rw [← hQ]
        exact end_i hX hB hA3 rfl rfl (by obtain rfl := hR; exact ⟨rfl, (Or.inl rfl), rfl⟩) (Nat.le_of_ble_eq_true rfl) (Nat.le_of_ble_eq_true rfl) dX10_isRow_29
      · replace hR := ifn c10 hR
        have hq9 := nlt_of (x := z) (n := r (2 * y.toNatClampNeg)) c7 (by omega) c10
        refine lv_iconst (v := 1) hx hb dX10_isRow_24 (by decide) ?_
        refine lv_goto (tgt := 29) hx hb dX10_isRow_25 (by decide) ?_
        rw [← hQ]
        exact end_i hX hB hA3 rfl rfl (by obtain rfl := hR; exact ⟨rfl, (Or.inr ⟨rfl, by assumption, by assumption, Int32.not_lt.mp (by assumption), nlt_of (by assumption) (by omega) (by assumption)⟩), rfl⟩) (Nat.le_of_ble_eq_true rfl) (Nat.le_of_ble_eq_true rfl) dX10_isRow_29
noncomputable def D_X10_isColumn (r : Nat → Nat) (f : Nat → Nat → Int64) (q : Nat → Int32) (y : Int32) (z : Int32) : Int32 := bnd1 (D_X10_isTable y) (fun (z1 : Int32) => (if z1 = 0 then 0 else (if z < 0 then 0 else (if (nI (r (2 * y.toNatClampNeg + 1))) ≤ z then 0 else 1))))
theorem D_X10_isColumn_s {r : Nat → Nat} {f : Nat → Nat → Int64} {q : Nat → Int32} {y : Int32} {z : Int32} : D_X10_isColumn r f q y z = bnd1 (D_X10_isTable y) (fun (z1 : Int32) => (if z1 = 0 then 0 else (if z < 0 then 0 else (if (nI (r (2 * y.toNatClampNeg + 1))) ≤ z then 0 else 1)))) := rfl
set_option maxHeartbeats 4000000 in
set_option maxRecDepth 100000 in
theorem k_X10_isColumn (κ : Kt) (l : Launch) (w : va_W) (a r : Nat → Nat) (f : Nat → Nat → Int64) (q : Nat → Int32) (y : Int32) (z : Int32) (hm : mok r f) (o_x : Int32) (hR : D_X10_isColumn r f q y z = o_x) : CM κ l yX10_isColumn cX10_isColumn 3 (some .boolean) 1 20 0 0 [.ref (a 0), .int y, .int z] (mw κ a r f q (tb a) w) (fun o w' => o = some (.int o_x) ∧ (o_x = 0 ∨ o_x = 1 ∧ 0 ≤ y ∧ y.toNatClampNeg < 4 ∧ 0 ≤ z ∧ z.toNatClampNeg < r (2 * y.toNatClampNeg + 1)) ∧ w' = mw κ a r f q (tb a) w) := by
  refine CM_begin (plainFor_of_name pn_RX10) (Nat.le_of_ble_eq_true rfl) ?_
  intro p e s m args below meth c A Q hX hnm hA3 hQ hB ls hl
  have hx := hX.1.1
  have hb := hX.1.2.1
  have hl : lv_has ls 3 [(0, .ref (a 0)), (1, .int y), (2, .int z)] := hl
  replace hR := (D_X10_isColumn_s).symm.trans hR
  refine lv_iload_n hx hb dX10_isColumn_0 rfl (lv_at hl 1 rfl) ?_
  obtain ⟨z1, hd2⟩ := ex1 (D_X10_isTable y)
  replace hR := bnd1_use hd2 hR
  refine call_S (n := 1) (As := [.int y]) (rest := []) hX hB (k_X10_isTable κ l (mw κ a r f q (tb a) w) y z1 hd2) yk_X10_isTable wm_5_186 wm_5_187 wm_1_6 wm_5_188 ⟨Nat.le_of_ble_eq_true rfl, Nat.le_of_ble_eq_true rfl⟩ ⟨Nat.le_of_ble_eq_true rfl, Nat.le_of_ble_eq_true rfl⟩ rfl hl.1 rfl (Nat.le_of_ble_eq_true rfl) dX10_isColumn_1 (fun o w' H locs hp hB => ?_)
  obtain ⟨rfl, hf3, hw9⟩ := hp
  replace hB : Bd κ A s (mw κ a r f q (tb a) w) H locs := by rw [hw9] at hB; exact hB
  rcases hf3 with rfl | ⟨rfl, hz4a, hz4b⟩
  · replace hR := ifp rfl hR
    refine W.eq (g2 := F0 m 4 ls [.int 0]) rfl ?_
    refine lv_if_eq (tgt := 28) hx hb dX10_isColumn_4 (by decide) (fun _ => ?_) (fun c5 => False.elim (by revert c5; decide))
    refine lv_iconst (v := 0) hx hb dX10_isColumn_28 (by decide) ?_
    rw [← hQ]
    exact end_i hX hB hA3 rfl rfl (by obtain rfl := hR; exact ⟨rfl, (Or.inl rfl), rfl⟩) (Nat.le_of_ble_eq_true rfl) (Nat.le_of_ble_eq_true rfl) dX10_isColumn_29
  · replace hR := ifn (by decide) hR
    refine W.eq (g2 := F0 m 4 ls [.int 1]) rfl ?_
    refine lv_if_eq (tgt := 28) hx hb dX10_isColumn_4 (by decide) (fun c6 => False.elim (by revert c6; decide)) (fun _ => ?_)
    refine lv_iload_n hx hb dX10_isColumn_7 rfl (lv_at hl 2 rfl) ?_
    refine lv_if_lt (tgt := 28) hx hb dX10_isColumn_8 (by decide) (fun c7 => ?_) (fun c7 => ?_)
    · replace hR := ifp c7 hR
      refine lv_iconst (v := 0) hx hb dX10_isColumn_28 (by decide) ?_
      rw [← hQ]
      exact end_i hX hB hA3 rfl rfl (by obtain rfl := hR; exact ⟨rfl, (Or.inl rfl), rfl⟩) (Nat.le_of_ble_eq_true rfl) (Nat.le_of_ble_eq_true rfl) dX10_isColumn_29
    · replace hR := ifn c7 hR
      refine lv_iload_n hx hb dX10_isColumn_11 rfl (lv_at hl 2 rfl) ?_
      refine lv_aload_n hx hb dX10_isColumn_12 rfl (lv_at hl 0 rfl) ?_
      refine gf (k0 := 0) hX hB (mw0x (a := a) (r := r) (f := f) (q := q) (T := tb a) (w := w) rfl) rfl in10 0 (by decide) wm_5_162 rfl rfl dX10_isColumn_13 ?_
      refine lv_iload_n hx hb dX10_isColumn_16 rfl (lv_at hl 1 rfl) ?_
      refine aaldM (k0 := 1) hX hB (mw1 (a := a) (r := r) (f := f) (q := q) (T := tb a) (w := w)) (vp_in_mk (by assumption) (by assumption)) rfl dX10_isColumn_17 ?_
      have hb8 := mok_r hm y.toNatClampNeg (by omega)
      refine gf (k0 := 2 + 2 * y.toNatClampNeg) hX hB (mwG (i := y.toNatClampNeg) (a := a) (r := r) (f := f) (q := q) (T := tb a) (w := w) (by omega)) rfl in7 1 (by decide) wm_5_152 rfl rfl dX10_isColumn_18 ?_
      refine lv_icmp_ge (tgt := 28) hx hb dX10_isColumn_21 (by decide) (fun c10 => ?_) (fun c10 => ?_)
      · replace hR := ifp c10 hR
        refine lv_iconst (v := 0) hx hb dX10_isColumn_28 (by decide) ?_
        rw [← hQ]
        exact end_i hX hB hA3 rfl rfl (by obtain rfl := hR; exact ⟨rfl, (Or.inl rfl), rfl⟩) (Nat.le_of_ble_eq_true rfl) (Nat.le_of_ble_eq_true rfl) dX10_isColumn_29
      · replace hR := ifn c10 hR
        have hq9 := nlt_of (x := z) (n := r (2 * y.toNatClampNeg + 1)) c7 (by omega) c10
        refine lv_iconst (v := 1) hx hb dX10_isColumn_24 (by decide) ?_
        refine lv_goto (tgt := 29) hx hb dX10_isColumn_25 (by decide) ?_
        rw [← hQ]
        exact end_i hX hB hA3 rfl rfl (by obtain rfl := hR; exact ⟨rfl, (Or.inr ⟨rfl, by assumption, by assumption, Int32.not_lt.mp (by assumption), nlt_of (by assumption) (by omega) (by assumption)⟩), rfl⟩) (Nat.le_of_ble_eq_true rfl) (Nat.le_of_ble_eq_true rfl) dX10_isColumn_29
end
section
-- 44.rma
theorem sm_01 {x : Int64} (h : x = 0 ∨ x = 1) : sm x := by rcases h with rfl | rfl <;> constructor <;> decide
theorem sm_i {v : Int32} (h1 : ¬ v < -20) (h2 : ¬ 20 < v) : sm v.toInt64 := by
  rw [i32_lt] at h1 h2
  rw [show (-20 : Int32).toInt = -20 from rfl] at h1
  rw [show (20 : Int32).toInt = 20 from rfl] at h2
  constructor
  · rw [Int64.le_iff_toInt_le, Int32.toInt_toInt64]
    show (-20 : Int) ≤ _
    omega
  · rw [Int64.le_iff_toInt_le, Int32.toInt_toInt64]
    show _ ≤ (20 : Int)
    omega
theorem sm_neg {x : Int64} (h : sm x) : sm (-x) := by
  have h1 := neg_int (sm_ng h)
  have h2 := Int64.le_iff_toInt_le.mp h.1
  have h3 := Int64.le_iff_toInt_le.mp h.2
  constructor
  · rw [Int64.le_iff_toInt_le, h1]
    rw [show (20 : Int64).toInt = 20 from rfl] at h3
    show (-20 : Int) ≤ _
    omega
  · rw [Int64.le_iff_toInt_le, h1]
    rw [show (-20 : Int64).toInt = -20 from rfl] at h2
    show _ ≤ (20 : Int)
    omega
theorem sm_xr {R C i j : Nat} {f : Nat → Int64} (hi : i < R) (hj : j < R) (h : ∀ k, k < R * 5 → sm (f k)) : ∀ k, k < R * 5 → sm (xr C i j f k) := by
  intro k hk
  unfold xr
  split
  · exact h _ (by omega)
  · split
    · exact h _ (by omega)
    · exact h k hk
theorem sm_xc {R i j : Nat} {f : Nat → Int64} (hi : i < 5) (hj : j < 5) (h : ∀ k, k < R * 5 → sm (f k)) : ∀ k, k < R * 5 → sm (xc R i j f k) := by
  intro k hk
  unfold xc
  split
  · exact h _ (by omega)
  · split
    · exact h _ (by omega)
    · exact h k hk
theorem sm_tr {R C i : Nat} {f : Nat → Int64} (h : ∀ k, k < R * 5 → sm (f k)) : ∀ k, k < R * 5 → sm (tr C i f k) := by
  intro k hk
  unfold tr
  split
  · exact sm_neg (h _ hk)
  · exact h k hk
theorem ne_nat {x y : Int32} (hx : 0 ≤ x) (hy : 0 ≤ y) (h : ¬ x = y) : x.toNatClampNeg ≠ y.toNatClampNeg := fun e => h (by rw [nI_rep hx, nI_rep hy, e])

noncomputable def D_X10_isLine (r : Nat → Nat) (f : Nat → Nat → Int64) (q : Nat → Int32) (y : Int32) (c0 : Int32) (z : Int32) : Int32 := (if c0 = 0 then bnd1 (D_X10_isRow r f q y z) (fun (x2 : Int32) => (if x2 = 0 then 0 else 1)) else bnd1 (D_X10_isColumn r f q y z) (fun (x6 : Int32) => (if x6 = 0 then 0 else 1)))
theorem D_X10_isLine_s {r : Nat → Nat} {f : Nat → Nat → Int64} {q : Nat → Int32} {y : Int32} {c0 : Int32} {z : Int32} : D_X10_isLine r f q y c0 z = (if c0 = 0 then bnd1 (D_X10_isRow r f q y z) (fun (x2 : Int32) => (if x2 = 0 then 0 else 1)) else bnd1 (D_X10_isColumn r f q y z) (fun (x6 : Int32) => (if x6 = 0 then 0 else 1))) := rfl
set_option maxHeartbeats 4000000 in
set_option maxRecDepth 100000 in
theorem k_X10_isLine (κ : Kt) (l : Launch) (w : va_W) (a r : Nat → Nat) (f : Nat → Nat → Int64) (q : Nat → Int32) (y : Int32) (c0 : Int32) (z : Int32) (hm : mok r f) (o_x : Int32) (hR : D_X10_isLine r f q y c0 z = o_x) : CM κ l yX10_isLine cX10_isLine 4 (some .boolean) 2 42 0 0 [.ref (a 0), .int y, .int c0, .int z] (mw κ a r f q (tb a) w) (fun o w' => o = some (.int o_x) ∧ (o_x = 0 ∨ o_x = 1 ∧ 0 ≤ y ∧ y.toNatClampNeg < 4 ∧ 0 ≤ z ∧ (c0 = 0 → z.toNatClampNeg < r (2 * y.toNatClampNeg)) ∧ (¬ c0 = 0 → z.toNatClampNeg < r (2 * y.toNatClampNeg + 1))) ∧ w' = mw κ a r f q (tb a) w) := by
  refine CM_begin (plainFor_of_name pn_RX10) (Nat.le_of_ble_eq_true rfl) ?_
  intro p e s m args below meth c A Q hX hnm hA3 hQ hB ls hl
  have hx := hX.1.1
  have hb := hX.1.2.1
  have hl : lv_has ls 4 [(0, .ref (a 0)), (1, .int y), (2, .int c0), (3, .int z)] := hl
  replace hR := (D_X10_isLine_s).symm.trans hR
  refine lv_iload_n hx hb dX10_isLine_0 rfl (lv_at hl 2 rfl) ?_
  refine lv_if_eq (tgt := 13) hx hb dX10_isLine_1 (by decide) (fun c1 => ?_) (fun c1 => ?_)
  · replace hR := ifp c1 hR
    refine lv_aload_n hx hb dX10_isLine_13 rfl (lv_at hl 0 rfl) ?_
    refine lv_iload_n hx hb dX10_isLine_14 rfl (lv_at hl 1 rfl) ?_
    refine lv_iload_n hx hb dX10_isLine_15 rfl (lv_at hl 3 rfl) ?_
    obtain ⟨x2, hd3⟩ := ex1 (D_X10_isRow r f q y z)
    replace hR := bnd1_use hd3 hR
    refine call_V (n := 2) (k0 := 0) (As := [.int y, .int z]) (rest := []) hX hB (k_X10_isRow κ l w a r f q y z hm x2 hd3) ⟨rfl, yk_X10_isRow⟩ wm_5_229 wm_5_231 wp_31 wm_1_6 wm_5_232 ⟨Nat.le_of_ble_eq_true rfl, Nat.le_of_ble_eq_true rfl⟩ ⟨Nat.le_of_ble_eq_true rfl, Nat.le_of_ble_eq_true rfl⟩ (mw0x (a := a) (r := r) (f := f) (q := q) (T := tb a) (w := w) rfl) rfl rfl rfl hl.1 rfl (Nat.le_of_ble_eq_true rfl) dX10_isLine_16 (fun o w' H locs hp hB => ?_)
    obtain ⟨rfl, hf4, hw9⟩ := hp
    replace hB : Bd κ A s (mw κ a r f q (tb a) w) H locs := by rw [hw9] at hB; exact hB
    rcases hf4 with rfl | ⟨rfl, hz5a, hz5b, hz5c, hz5d⟩
    · replace hR := ifp rfl hR
      refine W.eq (g2 := F0 m 19 ls [.int 0]) rfl ?_
      rw [← hQ]
      exact end_i hX hB hA3 rfl rfl (by obtain rfl := hR; exact ⟨rfl, (Or.inl rfl), rfl⟩) (Nat.le_of_ble_eq_true rfl) (Nat.le_of_ble_eq_true rfl) dX10_isLine_19
    · replace hR := ifn (by decide) hR
      refine W.eq (g2 := F0 m 19 ls [.int 1]) rfl ?_
      rw [← hQ]
      exact end_i hX hB hA3 rfl rfl (by obtain rfl := hR; exact ⟨rfl, (Or.inr ⟨rfl, by assumption, by assumption, by assumption, (by first | exact fun _ => by assumption | exact fun h => absurd h (by assumption)), (by first | exact fun _ => by assumption | exact fun h => absurd (by assumption) h)⟩), rfl⟩) (Nat.le_of_ble_eq_true rfl) (Nat.le_of_ble_eq_true rfl) dX10_isLine_19
  · replace hR := ifn c1 hR
    refine lv_aload_n hx hb dX10_isLine_4 rfl (lv_at hl 0 rfl) ?_
    refine lv_iload_n hx hb dX10_isLine_5 rfl (lv_at hl 1 rfl) ?_
    refine lv_iload_n hx hb dX10_isLine_6 rfl (lv_at hl 3 rfl) ?_
    obtain ⟨x6, hd7⟩ := ex1 (D_X10_isColumn r f q y z)
    replace hR := bnd1_use hd7 hR
    refine call_V (n := 2) (k0 := 0) (As := [.int y, .int z]) (rest := []) hX hB (k_X10_isColumn κ l w a r f q y z hm x6 hd7) ⟨rfl, yk_X10_isColumn⟩ wm_5_233 wm_5_235 wp_32 wm_1_6 wm_5_236 ⟨Nat.le_of_ble_eq_true rfl, Nat.le_of_ble_eq_true rfl⟩ ⟨Nat.le_of_ble_eq_true rfl, Nat.le_of_ble_eq_true rfl⟩ (mw0x (a := a) (r := r) (f := f) (q := q) (T := tb a) (w := w) rfl) rfl rfl rfl hl.1 rfl (Nat.le_of_ble_eq_true rfl) dX10_isLine_7 (fun o w' H locs hp hB => ?_)
    obtain ⟨rfl, hf8, hw9⟩ := hp
    replace hB : Bd κ A s (mw κ a r f q (tb a) w) H locs := by rw [hw9] at hB; exact hB
    rcases hf8 with rfl | ⟨rfl, hz9a, hz9b, hz9c, hz9d⟩
    · replace hR := ifp rfl hR
      refine W.eq (g2 := F0 m 10 ls [.int 0]) rfl ?_
      refine lv_goto (tgt := 19) hx hb dX10_isLine_10 (by decide) ?_
      rw [← hQ]
      exact end_i hX hB hA3 rfl rfl (by obtain rfl := hR; exact ⟨rfl, (Or.inl rfl), rfl⟩) (Nat.le_of_ble_eq_true rfl) (Nat.le_of_ble_eq_true rfl) dX10_isLine_19
    · replace hR := ifn (by decide) hR
      refine W.eq (g2 := F0 m 10 ls [.int 1]) rfl ?_
      refine lv_goto (tgt := 19) hx hb dX10_isLine_10 (by decide) ?_
      rw [← hQ]
      exact end_i hX hB hA3 rfl rfl (by obtain rfl := hR; exact ⟨rfl, (Or.inr ⟨rfl, by assumption, by assumption, by assumption, (by first | exact fun _ => by assumption | exact fun h => absurd h (by assumption)), (by first | exact fun _ => by assumption | exact fun h => absurd (by assumption) h)⟩), rfl⟩) (Nat.le_of_ble_eq_true rfl) (Nat.le_of_ble_eq_true rfl) dX10_isLine_19
noncomputable def D_X10_become (r : Nat → Nat) (f : Nat → Nat → Int64) (q : Nat → Int32) (y : Int32) (R_o : Nat) (C_o : Nat) (f_o : Nat → Int64) : Int32 × (Nat → Nat) × (Nat → Nat → Int64) × (Nat → Int32) := bnd1 (D_X7_isLet R_o C_o f_o) (fun (x1 : Int32) => (if x1 = 0 then (-9, r, f, va_up q 1 ((q 1) + 1)) else bnd1 (D_X7_others ((va_up (va_up r (2 * y.toNatClampNeg) R_o) (2 * y.toNatClampNeg + 1) C_o) (2 * y.toNatClampNeg)) ((va_up (va_up r (2 * y.toNatClampNeg) R_o) (2 * y.toNatClampNeg + 1) C_o) (2 * y.toNatClampNeg + 1)) ((va_up f y.toNatClampNeg f_o) y.toNatClampNeg)) (fun (x10 : Int32) => (x10, va_up (va_up r (2 * y.toNatClampNeg) R_o) (2 * y.toNatClampNeg + 1) C_o, va_up f y.toNatClampNeg f_o, va_up q 0 ((q 0) + 1)))))
theorem D_X10_become_s {r : Nat → Nat} {f : Nat → Nat → Int64} {q : Nat → Int32} {y : Int32} {R_o : Nat} {C_o : Nat} {f_o : Nat → Int64} : D_X10_become r f q y R_o C_o f_o = bnd1 (D_X7_isLet R_o C_o f_o) (fun (x1 : Int32) => (if x1 = 0 then (-9, r, f, va_up q 1 ((q 1) + 1)) else bnd1 (D_X7_others ((va_up (va_up r (2 * y.toNatClampNeg) R_o) (2 * y.toNatClampNeg + 1) C_o) (2 * y.toNatClampNeg)) ((va_up (va_up r (2 * y.toNatClampNeg) R_o) (2 * y.toNatClampNeg + 1) C_o) (2 * y.toNatClampNeg + 1)) ((va_up f y.toNatClampNeg f_o) y.toNatClampNeg)) (fun (x10 : Int32) => (x10, va_up (va_up r (2 * y.toNatClampNeg) R_o) (2 * y.toNatClampNeg + 1) C_o, va_up f y.toNatClampNeg f_o, va_up q 0 ((q 0) + 1))))) := rfl
set_option maxHeartbeats 4000000 in
set_option maxRecDepth 100000 in
theorem k_X10_become (κ : Kt) (l : Launch) (w : va_W) (a r : Nat → Nat) (f : Nat → Nat → Int64) (q : Nat → Int32) (y : Int32) (g_o b_o R_o C_o : Nat) (f_o : Nat → Int64) (hm : mok r f) (ho : 1 ≤ R_o ∧ R_o ≤ 4 ∧ 1 ≤ C_o ∧ C_o ≤ 4) (hy0 : 0 ≤ y) (hy4 : y.toNatClampNeg < 4) (o_x : Int32) (o_r' : Nat → Nat) (o_f' : Nat → Nat → Int64) (o_q' : Nat → Int32) (hR : D_X10_become r f q y R_o C_o f_o = (o_x, o_r', o_f', o_q')) : CM κ l yX10_become cX10_become 3 (some .int) 1 26 0 0 [.ref (a 0), .int y, .ref g_o] (lA κ b_o (R_o * 5) f_o :: gO g_o R_o C_o b_o :: mw κ a r f q (tb a) w) (fun o w' => ∃ (a' : Nat → Nat), o = some (.int o_x) ∧ (a' 0 = a 0) ∧ (mok o_r' o_f') ∧ (o_q' 2 = q 2) ∧ w' = mw κ a' o_r' o_f' o_q' (tb a') w) := by
  refine CM_begin (plainFor_of_name pn_RX10) (Nat.le_of_ble_eq_true rfl) ?_
  intro p e s m args below meth c A Q hX hnm hA3 hQ hB ls hl
  have hx := hX.1.1
  have hb := hX.1.2.1
  have hl : lv_has ls 3 [(0, .ref (a 0)), (1, .int y), (2, .ref g_o)] := hl
  obtain ⟨ho1, ho2, ho3, ho4⟩ := ho
  replace hR := (D_X10_become_s).symm.trans hR
  refine lv_aload_n hx hb dX10_become_0 rfl (lv_at hl 2 rfl) ?_
  obtain ⟨x1, hd2⟩ := ex1 (D_X7_isLet R_o C_o f_o)
  replace hR := bnd1_use hd2 hR
  refine call_V (n := 0) (k0 := 1) (As := []) (rest := []) hX hB (k_X7_isLet κ l (lA κ b_o (R_o * 5) f_o :: gO g_o R_o C_o b_o :: mw κ a r f q (tb a) w) 1 0 g_o b_o R_o C_o f_o rfl rfl ⟨by omega, by omega, by omega, by omega⟩ x1 hd2) ⟨rfl, yk_X7_isLet⟩ wm_6_83 wm_6_84 wm_6_85 wm_1_7 wm_6_86 ⟨Nat.le_of_ble_eq_true rfl, Nat.le_of_ble_eq_true rfl⟩ ⟨Nat.le_of_ble_eq_true rfl, Nat.le_of_ble_eq_true rfl⟩ rfl rfl rfl rfl hl.1 rfl (Nat.le_of_ble_eq_true rfl) dX10_become_1 (fun o w' H locs hp hB => ?_)
  obtain ⟨rfl, hf3, hf4, hw9⟩ := hp
  replace hB : Bd κ A s (lA κ b_o (R_o * 5) f_o :: gO g_o R_o C_o b_o :: mw κ a r f q (tb a) w) H locs := by rw [hw9] at hB; exact hB
  rcases hf3 with rfl | rfl
  · replace hR := ifp rfl hR
    refine W.eq (g2 := F0 m 4 ls [.int 0]) rfl ?_
    refine lv_if_ne (tgt := 12) hx hb dX10_become_4 (by decide) (fun c5 => False.elim (by revert c5; decide)) (fun _ => ?_)
    refine lv_aload_n hx hb dX10_become_7 rfl (lv_at hl 0 rfl) ?_
    refine call_V (n := 0) (k0 := 2) (As := []) (rest := []) hX hB (k_X10_no κ l (lA κ b_o (R_o * 5) f_o :: gO g_o R_o C_o b_o :: mw κ a r f q (tb a) w) 2 (a 0) (a 1) (q 0) (q 1) (q 2) (q 3) (mw0x (a := a) (r := r) (f := f) (q := q) (T := tb a) (w := w) rfl)) ⟨rfl, yk_X10_no⟩ wm_6_89 wm_6_91 wp_36 wm_1_6 wm_6_92 ⟨Nat.le_of_ble_eq_true rfl, Nat.le_of_ble_eq_true rfl⟩ ⟨Nat.le_of_ble_eq_true rfl, Nat.le_of_ble_eq_true rfl⟩ (mw0x (a := a) (r := r) (f := f) (q := q) (T := tb a) (w := w) rfl) rfl rfl rfl hl.1 rfl (Nat.le_of_ble_eq_true rfl) dX10_become_8 (fun o w' H locs hp hB => ?_)
    obtain ⟨rfl, hw9⟩ := hp
    replace hB : Bd κ A s (lA κ b_o (R_o * 5) f_o :: gO g_o R_o C_o b_o :: mw κ a r f (va_up q 1 ((q 1) + 1)) (tb a) w) H locs := by exact Bd_eq (congrArg (List.cons _) (congrArg (List.cons _) (mwQ1x rfl _))) (by rw [hw9] at hB; exact hB)
    refine W.eq (g2 := F0 m 11 ls [.int (-9)]) rfl ?_
    replace hB : Bd κ A s (lA κ b_o (R_o * 5) f_o :: mw κ a r f (va_up q 1 ((q 1) + 1)) (tb a) w) H locs := Bd_del 1 hB
    replace hB : Bd κ A s (mw κ a r f (va_up q 1 ((q 1) + 1)) (tb a) w) H locs := Bd_del 0 hB
    rw [← hQ]
    exact end_i hX hB hA3 rfl rfl (by obtain ⟨rfl, rfl, rfl, rfl⟩ := pr4 hR; exact ⟨a, rfl, rfl, hm, rfl, rfl⟩) (Nat.le_of_ble_eq_true rfl) (Nat.le_of_ble_eq_true rfl) dX10_become_11
  · replace hR := ifn (by decide) hR
    refine W.eq (g2 := F0 m 4 ls [.int 1]) rfl ?_
    refine lv_if_ne (tgt := 12) hx hb dX10_become_4 (by decide) (fun _ => ?_) (fun c6 => False.elim (by revert c6; decide))
    refine lv_aload_n hx hb dX10_become_12 rfl (lv_at hl 0 rfl) ?_
    refine gf (k0 := 2) hX hB (mw0x (a := a) (r := r) (f := f) (q := q) (T := tb a) (w := w) rfl) rfl in10 0 (by decide) wm_5_162 rfl rfl dX10_become_13 ?_
    refine lv_iload_n hx hb dX10_become_16 rfl (lv_at hl 1 rfl) ?_
    refine lv_aload_n hx hb dX10_become_17 rfl (lv_at hl 2 rfl) ?_
    refine astM (f := tb a) (k0 := 3) (k1 := 1) hX hB (mw1 (a := a) (r := r) (f := f) (q := q) (T := tb a) (w := w)) rfl (vp_in_mk (by assumption) (by assumption)) (w1 := lA κ b_o (R_o * 5) f_o :: gO g_o R_o C_o b_o :: mw κ a r f q (va_up (tb a) y.toNatClampNeg (some g_o)) w) (congrArg (List.cons _) (congrArg (List.cons _) (mwST _))) dX10_become_18 (fun H locs hB => ?_)
    obtain ⟨a7, ha8, hg9, hB⟩ := Bd_repl2 (t := y.toNatClampNeg) (by omega) hB
    have hba7 := mok_r hm y.toNatClampNeg (by omega)
    refine lv_aload_n hx hb dX10_become_19 rfl (lv_at hl 0 rfl) ?_
    refine lv_aload_n hx hb dX10_become_20 rfl (lv_at hl 2 rfl) ?_
    obtain ⟨x10, hd11⟩ := ex1 (D_X7_others ((va_up (va_up r (2 * y.toNatClampNeg) R_o) (2 * y.toNatClampNeg + 1) C_o) (2 * y.toNatClampNeg)) ((va_up (va_up r (2 * y.toNatClampNeg) R_o) (2 * y.toNatClampNeg + 1) C_o) (2 * y.toNatClampNeg + 1)) ((va_up f y.toNatClampNeg f_o) y.toNatClampNeg))
    replace hR := bnd1_use hd11 hR
    refine call_V (n := 0) (k0 := (2 + 2 * y.toNatClampNeg)) (As := []) (rest := [.ref (a 0)]) hX hB (k_X7_others κ l (mw κ a7 (va_up (va_up r (2 * y.toNatClampNeg) R_o) (2 * y.toNatClampNeg + 1) C_o) (va_up f y.toNatClampNeg f_o) q (tb a7) w) (2 + 2 * y.toNatClampNeg) (3 + 2 * y.toNatClampNeg) g_o (a7 (3 + 2 * y.toNatClampNeg)) ((va_up (va_up r (2 * y.toNatClampNeg) R_o) (2 * y.toNatClampNeg + 1) C_o) (2 * y.toNatClampNeg)) ((va_up (va_up r (2 * y.toNatClampNeg) R_o) (2 * y.toNatClampNeg + 1) C_o) (2 * y.toNatClampNeg + 1)) ((va_up f y.toNatClampNeg f_o) y.toNatClampNeg) (mwGx (i := y.toNatClampNeg) (a := a7) (r := (va_up (va_up r (2 * y.toNatClampNeg) R_o) (2 * y.toNatClampNeg + 1) C_o)) (f := (va_up f y.toNatClampNeg f_o)) (q := q) (T := tb a7) (w := w) (by omega) hg9) (mwA (i := y.toNatClampNeg) (a := a7) (r := (va_up (va_up r (2 * y.toNatClampNeg) R_o) (2 * y.toNatClampNeg + 1) C_o)) (f := (va_up f y.toNatClampNeg f_o)) (q := q) (T := tb a7) (w := w) (by omega)) (mok_shp (i := y.toNatClampNeg) (mok_repl (t := y.toNatClampNeg) (R := R_o) (C := C_o) (F := f_o) hm ⟨by omega, by omega, by omega, by omega⟩ (hf4 rfl)) (by omega)) x10 hd11) ⟨rfl, yk_X7_others⟩ wm_5_204 wm_5_205 wm_5_206 wm_1_7 wm_5_207 ⟨Nat.le_of_ble_eq_true rfl, Nat.le_of_ble_eq_true rfl⟩ ⟨Nat.le_of_ble_eq_true rfl, Nat.le_of_ble_eq_true rfl⟩ (mwGx (i := y.toNatClampNeg) (a := a7) (r := (va_up (va_up r (2 * y.toNatClampNeg) R_o) (2 * y.toNatClampNeg + 1) C_o)) (f := (va_up f y.toNatClampNeg f_o)) (q := q) (T := tb a7) (w := w) (by omega) hg9) rfl rfl rfl hl.1 rfl (Nat.le_of_ble_eq_true rfl) dX10_become_21 (fun o w' H locs hp hB => ?_)
    obtain ⟨rfl, hw9⟩ := hp
    replace hB : Bd κ A s (mw κ a7 (va_up (va_up r (2 * y.toNatClampNeg) R_o) (2 * y.toNatClampNeg + 1) C_o) (va_up f y.toNatClampNeg f_o) q (tb a7) w) H locs := by rw [hw9] at hB; exact hB
    refine W.eq (g2 := F0 m 24 ls [.int x10, .ref (a 0)]) rfl ?_
    refine call_V (n := 1) (k0 := 0) (As := [.int x10]) (rest := []) hX hB (k_X10_told κ l (mw κ a7 (va_up (va_up r (2 * y.toNatClampNeg) R_o) (2 * y.toNatClampNeg + 1) C_o) (va_up f y.toNatClampNeg f_o) q (tb a7) w) 0 (a 0) (a7 1) (q 0) (q 1) (q 2) (q 3) x10 (mw0x (a := a7) (r := (va_up (va_up r (2 * y.toNatClampNeg) R_o) (2 * y.toNatClampNeg + 1) C_o)) (f := (va_up f y.toNatClampNeg f_o)) (q := q) (T := tb a7) (w := w) (ha8.trans rfl))) ⟨rfl, yk_X10_told⟩ wm_5_208 wm_5_210 wp_30 wm_1_6 wm_5_211 ⟨Nat.le_of_ble_eq_true rfl, Nat.le_of_ble_eq_true rfl⟩ ⟨Nat.le_of_ble_eq_true rfl, Nat.le_of_ble_eq_true rfl⟩ (mw0x (a := a7) (r := (va_up (va_up r (2 * y.toNatClampNeg) R_o) (2 * y.toNatClampNeg + 1) C_o)) (f := (va_up f y.toNatClampNeg f_o)) (q := q) (T := tb a7) (w := w) (ha8.trans rfl)) rfl rfl rfl hl.1 rfl (Nat.le_of_ble_eq_true rfl) dX10_become_24 (fun o w' H locs hp hB => ?_)
    obtain ⟨rfl, hw9⟩ := hp
    replace hB : Bd κ A s (mw κ a7 (va_up (va_up r (2 * y.toNatClampNeg) R_o) (2 * y.toNatClampNeg + 1) C_o) (va_up f y.toNatClampNeg f_o) (va_up q 0 ((q 0) + 1)) (tb a7) w) H locs := by exact Bd_eq (mwQ0x (ha8.trans rfl) _) (by rw [hw9] at hB; exact hB)
    refine W.eq (g2 := F0 m 27 ls [.int x10]) rfl ?_
    rw [← hQ]
    exact end_i hX hB hA3 rfl rfl (by obtain ⟨rfl, rfl, rfl, rfl⟩ := pr4 hR; exact ⟨a7, rfl, (ha8.trans rfl), (mok_repl (t := y.toNatClampNeg) (R := R_o) (C := C_o) (F := f_o) hm ⟨by omega, by omega, by omega, by omega⟩ (hf4 rfl)), rfl, rfl⟩) (Nat.le_of_ble_eq_true rfl) (Nat.le_of_ble_eq_true rfl) dX10_become_27
noncomputable def D_X10_lay (r : Nat → Nat) (f : Nat → Nat → Int64) (q : Nat → Int32) (y : Int32) (R_o : Nat) (C_o : Nat) (f_o : Nat → Int64) : Int32 × (Nat → Nat) × (Nat → Nat → Int64) × (Nat → Int32) := bnd1 (D_X7_others (r (2 * y.toNatClampNeg)) (r (2 * y.toNatClampNeg + 1)) (f y.toNatClampNeg)) (fun (x2 : Int32) => (x2, va_up (va_up r (2 * y.toNatClampNeg) R_o) (2 * y.toNatClampNeg + 1) C_o, va_up f y.toNatClampNeg f_o, va_up q 0 ((q 0) + 1)))
theorem D_X10_lay_s {r : Nat → Nat} {f : Nat → Nat → Int64} {q : Nat → Int32} {y : Int32} {R_o : Nat} {C_o : Nat} {f_o : Nat → Int64} : D_X10_lay r f q y R_o C_o f_o = bnd1 (D_X7_others (r (2 * y.toNatClampNeg)) (r (2 * y.toNatClampNeg + 1)) (f y.toNatClampNeg)) (fun (x2 : Int32) => (x2, va_up (va_up r (2 * y.toNatClampNeg) R_o) (2 * y.toNatClampNeg + 1) C_o, va_up f y.toNatClampNeg f_o, va_up q 0 ((q 0) + 1))) := rfl
set_option maxHeartbeats 4000000 in
set_option maxRecDepth 100000 in
theorem k_X10_lay (κ : Kt) (l : Launch) (w : va_W) (a r : Nat → Nat) (f : Nat → Nat → Int64) (q : Nat → Int32) (y : Int32) (g_o b_o R_o C_o : Nat) (f_o : Nat → Int64) (hm : mok r f) (ho : 1 ≤ R_o ∧ R_o ≤ 4 ∧ 1 ≤ C_o ∧ C_o ≤ 4) (hy0 : 0 ≤ y) (hy4 : y.toNatClampNeg < 4) (hso : ∀ k, k < R_o * 5 → sm (f_o k)) (o_x : Int32) (o_r' : Nat → Nat) (o_f' : Nat → Nat → Int64) (o_q' : Nat → Int32) (hR : D_X10_lay r f q y R_o C_o f_o = (o_x, o_r', o_f', o_q')) : CM κ l yX10_lay cX10_lay 4 (some .int) 1 26 0 0 [.ref (a 0), .int y, .ref g_o] (lA κ b_o (R_o * 5) f_o :: gO g_o R_o C_o b_o :: mw κ a r f q (tb a) w) (fun o w' => ∃ (a' : Nat → Nat), o = some (.int o_x) ∧ (a' 0 = a 0) ∧ (mok o_r' o_f') ∧ (o_q' 2 = q 2) ∧ w' = mw κ a' o_r' o_f' o_q' (tb a') w) := by
  refine CM_begin (plainFor_of_name pn_RX10) (Nat.le_of_ble_eq_true rfl) ?_
  intro p e s m args below meth c A Q hX hnm hA3 hQ hB ls hl
  have hx := hX.1.1
  have hb := hX.1.2.1
  have hl : lv_has ls 4 [(0, .ref (a 0)), (1, .int y), (2, .ref g_o)] := hl
  obtain ⟨ho1, ho2, ho3, ho4⟩ := ho
  replace hR := (D_X10_lay_s).symm.trans hR
  refine lv_aload_n hx hb dX10_lay_0 rfl (lv_at hl 0 rfl) ?_
  refine gf (k0 := 2) hX hB (mw0x (a := a) (r := r) (f := f) (q := q) (T := tb a) (w := w) rfl) rfl in10 0 (by decide) wm_5_162 rfl rfl dX10_lay_1 ?_
  refine lv_iload_n hx hb dX10_lay_4 rfl (lv_at hl 1 rfl) ?_
  refine aaldM (k0 := 3) hX hB (mw1 (a := a) (r := r) (f := f) (q := q) (T := tb a) (w := w)) (vp_in_mk (by assumption) (by assumption)) rfl dX10_lay_5 ?_
  have hb1 := mok_r hm y.toNatClampNeg (by omega)
  obtain ⟨x2, hd3⟩ := ex1 (D_X7_others (r (2 * y.toNatClampNeg)) (r (2 * y.toNatClampNeg + 1)) (f y.toNatClampNeg))
  replace hR := bnd1_use hd3 hR
  refine call_V (n := 0) (k0 := (2 + 2 * y.toNatClampNeg + 2)) (As := []) (rest := []) hX hB (k_X7_others κ l (lA κ b_o (R_o * 5) f_o :: gO g_o R_o C_o b_o :: mw κ a r f q (tb a) w) (2 + 2 * y.toNatClampNeg + 2) (3 + 2 * y.toNatClampNeg + 2) (a (2 + 2 * y.toNatClampNeg)) (a (3 + 2 * y.toNatClampNeg)) (r (2 * y.toNatClampNeg)) (r (2 * y.toNatClampNeg + 1)) (f y.toNatClampNeg) (mwG (i := y.toNatClampNeg) (a := a) (r := r) (f := f) (q := q) (T := tb a) (w := w) (by omega)) (mwA (i := y.toNatClampNeg) (a := a) (r := r) (f := f) (q := q) (T := tb a) (w := w) (by omega)) (mok_shp (i := y.toNatClampNeg) hm (by omega)) x2 hd3) ⟨rfl, yk_X7_others⟩ wm_5_204 wm_5_205 wm_5_206 wm_1_7 wm_5_207 ⟨Nat.le_of_ble_eq_true rfl, Nat.le_of_ble_eq_true rfl⟩ ⟨Nat.le_of_ble_eq_true rfl, Nat.le_of_ble_eq_true rfl⟩ (mwG (i := y.toNatClampNeg) (a := a) (r := r) (f := f) (q := q) (T := tb a) (w := w) (by omega)) rfl rfl rfl hl.1 rfl (Nat.le_of_ble_eq_true rfl) dX10_lay_6 (fun o w' H locs hp hB => ?_)
  obtain ⟨rfl, hw9⟩ := hp
  replace hB : Bd κ A s (lA κ b_o (R_o * 5) f_o :: gO g_o R_o C_o b_o :: mw κ a r f q (tb a) w) H locs := by rw [hw9] at hB; exact hB
  refine W.eq (g2 := F0 m 9 ls [.int x2]) rfl ?_
  refine lv_istore_n (lv' := [(3, .int x2), (0, .ref (a 0)), (1, .int y), (2, .ref g_o)]) hx hb dX10_lay_9 rfl hl (by decide) rfl (fun ls hl => ?_)
  refine lv_aload_n hx hb dX10_lay_10 rfl (lv_at hl 1 rfl) ?_
  refine gf (k0 := 2) hX hB (mw0x (a := a) (r := r) (f := f) (q := q) (T := tb a) (w := w) rfl) rfl in10 0 (by decide) wm_5_162 rfl rfl dX10_lay_11 ?_
  refine lv_iload_n hx hb dX10_lay_14 rfl (lv_at hl 2 rfl) ?_
  refine lv_aload_n hx hb dX10_lay_15 rfl (lv_at hl 3 rfl) ?_
  refine astM (f := tb a) (k0 := 3) (k1 := 1) hX hB (mw1 (a := a) (r := r) (f := f) (q := q) (T := tb a) (w := w)) rfl (vp_in_mk (by assumption) (by assumption)) (w1 := lA κ b_o (R_o * 5) f_o :: gO g_o R_o C_o b_o :: mw κ a r f q (va_up (tb a) y.toNatClampNeg (some g_o)) w) (congrArg (List.cons _) (congrArg (List.cons _) (mwST _))) dX10_lay_16 (fun H locs hB => ?_)
  obtain ⟨a4, ha5, hg6, hB⟩ := Bd_repl2 (t := y.toNatClampNeg) (by omega) hB
  have hba4 := mok_r hm y.toNatClampNeg (by omega)
  refine lv_aload_n hx hb dX10_lay_17 rfl (lv_at hl 1 rfl) ?_
  refine lv_iload_n hx hb dX10_lay_18 rfl (lv_at hl 0 rfl) ?_
  refine call_V (n := 1) (k0 := 0) (As := [.int x2]) (rest := []) hX hB (k_X10_told κ l (mw κ a4 (va_up (va_up r (2 * y.toNatClampNeg) R_o) (2 * y.toNatClampNeg + 1) C_o) (va_up f y.toNatClampNeg f_o) q (tb a4) w) 0 (a 0) (a4 1) (q 0) (q 1) (q 2) (q 3) x2 (mw0x (a := a4) (r := (va_up (va_up r (2 * y.toNatClampNeg) R_o) (2 * y.toNatClampNeg + 1) C_o)) (f := (va_up f y.toNatClampNeg f_o)) (q := q) (T := tb a4) (w := w) (ha5.trans rfl))) ⟨rfl, yk_X10_told⟩ wm_5_208 wm_5_210 wp_30 wm_1_6 wm_5_211 ⟨Nat.le_of_ble_eq_true rfl, Nat.le_of_ble_eq_true rfl⟩ ⟨Nat.le_of_ble_eq_true rfl, Nat.le_of_ble_eq_true rfl⟩ (mw0x (a := a4) (r := (va_up (va_up r (2 * y.toNatClampNeg) R_o) (2 * y.toNatClampNeg + 1) C_o)) (f := (va_up f y.toNatClampNeg f_o)) (q := q) (T := tb a4) (w := w) (ha5.trans rfl)) rfl rfl rfl hl.1 rfl (Nat.le_of_ble_eq_true rfl) dX10_lay_19 (fun o w' H locs hp hB => ?_)
  obtain ⟨rfl, hw9⟩ := hp
  replace hB : Bd κ A s (mw κ a4 (va_up (va_up r (2 * y.toNatClampNeg) R_o) (2 * y.toNatClampNeg + 1) C_o) (va_up f y.toNatClampNeg f_o) (va_up q 0 ((q 0) + 1)) (tb a4) w) H locs := by exact Bd_eq (mwQ0x (ha5.trans rfl) _) (by rw [hw9] at hB; exact hB)
  refine W.eq (g2 := F0 m 22 ls [.int x2]) rfl ?_
  rw [← hQ]
  exact end_i hX hB hA3 rfl rfl (by obtain ⟨rfl, rfl, rfl, rfl⟩ := pr4 hR; exact ⟨a4, rfl, (ha5.trans rfl), (mok_repl (t := y.toNatClampNeg) (R := R_o) (C := C_o) (F := f_o) hm ⟨by omega, by omega, by omega, by omega⟩ hso), rfl, rfl⟩) (Nat.le_of_ble_eq_true rfl) (Nat.le_of_ble_eq_true rfl) dX10_lay_22
noncomputable def D_X10_changed (r : Nat → Nat) (f : Nat → Nat → Int64) (q : Nat → Int32) (y : Int32) (R_o : Nat) (C_o : Nat) (f_o : Nat → Int64) : Int32 × (Nat → Nat) × (Nat → Nat → Int64) × (Nat → Int32) := bnd1 (D_X7_unlike R_o C_o f_o (r (2 * y.toNatClampNeg)) (r (2 * y.toNatClampNeg + 1)) (f y.toNatClampNeg)) (fun (x2 : Int32) => (x2, va_up (va_up r (2 * y.toNatClampNeg) R_o) (2 * y.toNatClampNeg + 1) C_o, va_up f y.toNatClampNeg f_o, va_up q 0 ((q 0) + 1)))
theorem D_X10_changed_s {r : Nat → Nat} {f : Nat → Nat → Int64} {q : Nat → Int32} {y : Int32} {R_o : Nat} {C_o : Nat} {f_o : Nat → Int64} : D_X10_changed r f q y R_o C_o f_o = bnd1 (D_X7_unlike R_o C_o f_o (r (2 * y.toNatClampNeg)) (r (2 * y.toNatClampNeg + 1)) (f y.toNatClampNeg)) (fun (x2 : Int32) => (x2, va_up (va_up r (2 * y.toNatClampNeg) R_o) (2 * y.toNatClampNeg + 1) C_o, va_up f y.toNatClampNeg f_o, va_up q 0 ((q 0) + 1))) := rfl
set_option maxHeartbeats 4000000 in
set_option maxRecDepth 100000 in
theorem k_X10_changed (κ : Kt) (l : Launch) (w : va_W) (a r : Nat → Nat) (f : Nat → Nat → Int64) (q : Nat → Int32) (y : Int32) (g_o b_o R_o C_o : Nat) (f_o : Nat → Int64) (hm : mok r f) (ho : 1 ≤ R_o ∧ R_o ≤ 4 ∧ 1 ≤ C_o ∧ C_o ≤ 4) (hy0 : 0 ≤ y) (hy4 : y.toNatClampNeg < 4) (hrr : R_o = r (2 * y.toNatClampNeg)) (hso : ∀ k, k < R_o * 5 → sm (f_o k)) (o_x : Int32) (o_r' : Nat → Nat) (o_f' : Nat → Nat → Int64) (o_q' : Nat → Int32) (hR : D_X10_changed r f q y R_o C_o f_o = (o_x, o_r', o_f', o_q')) : CM κ l yX10_changed cX10_changed 4 (some .int) 1 23 0 0 [.ref (a 0), .int y, .ref g_o] (lA κ b_o (R_o * 5) f_o :: gO g_o R_o C_o b_o :: mw κ a r f q (tb a) w) (fun o w' => ∃ (a' : Nat → Nat), o = some (.int o_x) ∧ (a' 0 = a 0) ∧ (mok o_r' o_f') ∧ (o_q' 2 = q 2) ∧ w' = mw κ a' o_r' o_f' o_q' (tb a') w) := by
  refine CM_begin (plainFor_of_name pn_RX10) (Nat.le_of_ble_eq_true rfl) ?_
  intro p e s m args below meth c A Q hX hnm hA3 hQ hB ls hl
  have hx := hX.1.1
  have hb := hX.1.2.1
  have hl : lv_has ls 4 [(0, .ref (a 0)), (1, .int y), (2, .ref g_o)] := hl
  obtain ⟨ho1, ho2, ho3, ho4⟩ := ho
  replace hR := (D_X10_changed_s).symm.trans hR
  refine lv_aload_n hx hb dX10_changed_0 rfl (lv_at hl 2 rfl) ?_
  refine lv_aload_n hx hb dX10_changed_1 rfl (lv_at hl 0 rfl) ?_
  refine gf (k0 := 2) hX hB (mw0x (a := a) (r := r) (f := f) (q := q) (T := tb a) (w := w) rfl) rfl in10 0 (by decide) wm_5_162 rfl rfl dX10_changed_2 ?_
  refine lv_iload_n hx hb dX10_changed_5 rfl (lv_at hl 1 rfl) ?_
  refine aaldM (k0 := 3) hX hB (mw1 (a := a) (r := r) (f := f) (q := q) (T := tb a) (w := w)) (vp_in_mk (by assumption) (by assumption)) rfl dX10_changed_6 ?_
  have hb1 := mok_r hm y.toNatClampNeg (by omega)
  obtain ⟨x2, hd3⟩ := ex1 (D_X7_unlike R_o C_o f_o (r (2 * y.toNatClampNeg)) (r (2 * y.toNatClampNeg + 1)) (f y.toNatClampNeg))
  replace hR := bnd1_use hd3 hR
  refine call_V (n := 1) (k0 := 1) (As := [.ref (a (2 + 2 * y.toNatClampNeg))]) (rest := []) hX hB (k_X7_unlike κ l (lA κ b_o (R_o * 5) f_o :: gO g_o R_o C_o b_o :: mw κ a r f q (tb a) w) 1 0 g_o b_o R_o C_o f_o (2 + 2 * y.toNatClampNeg + 2) (3 + 2 * y.toNatClampNeg + 2) (a (2 + 2 * y.toNatClampNeg)) (a (3 + 2 * y.toNatClampNeg)) (r (2 * y.toNatClampNeg)) (r (2 * y.toNatClampNeg + 1)) (f y.toNatClampNeg) rfl rfl ⟨by omega, by omega, by omega, by omega⟩ (mwG (i := y.toNatClampNeg) (a := a) (r := r) (f := f) (q := q) (T := tb a) (w := w) (by omega)) (mwA (i := y.toNatClampNeg) (a := a) (r := r) (f := f) (q := q) (T := tb a) (w := w) (by omega)) (mok_shp (i := y.toNatClampNeg) hm (by omega)) (by omega) x2 hd3) ⟨rfl, yk_X7_unlike⟩ wm_6_59 wm_6_60 wm_6_61 wm_1_7 wm_6_62 ⟨Nat.le_of_ble_eq_true rfl, Nat.le_of_ble_eq_true rfl⟩ ⟨Nat.le_of_ble_eq_true rfl, Nat.le_of_ble_eq_true rfl⟩ rfl rfl rfl rfl hl.1 rfl (Nat.le_of_ble_eq_true rfl) dX10_changed_7 (fun o w' H locs hp hB => ?_)
  obtain ⟨rfl, hw9⟩ := hp
  replace hB : Bd κ A s (lA κ b_o (R_o * 5) f_o :: gO g_o R_o C_o b_o :: mw κ a r f q (tb a) w) H locs := by rw [hw9] at hB; exact hB
  refine W.eq (g2 := F0 m 10 ls [.int x2]) rfl ?_
  refine lv_istore_n (lv' := [(3, .int x2), (0, .ref (a 0)), (1, .int y), (2, .ref g_o)]) hx hb dX10_changed_10 rfl hl (by decide) rfl (fun ls hl => ?_)
  refine lv_aload_n hx hb dX10_changed_11 rfl (lv_at hl 1 rfl) ?_
  refine gf (k0 := 2) hX hB (mw0x (a := a) (r := r) (f := f) (q := q) (T := tb a) (w := w) rfl) rfl in10 0 (by decide) wm_5_162 rfl rfl dX10_changed_12 ?_
  refine lv_iload_n hx hb dX10_changed_15 rfl (lv_at hl 2 rfl) ?_
  refine lv_aload_n hx hb dX10_changed_16 rfl (lv_at hl 3 rfl) ?_
  refine astM (f := tb a) (k0 := 3) (k1 := 1) hX hB (mw1 (a := a) (r := r) (f := f) (q := q) (T := tb a) (w := w)) rfl (vp_in_mk (by assumption) (by assumption)) (w1 := lA κ b_o (R_o * 5) f_o :: gO g_o R_o C_o b_o :: mw κ a r f q (va_up (tb a) y.toNatClampNeg (some g_o)) w) (congrArg (List.cons _) (congrArg (List.cons _) (mwST _))) dX10_changed_17 (fun H locs hB => ?_)
  obtain ⟨a4, ha5, hg6, hB⟩ := Bd_repl2 (t := y.toNatClampNeg) (by omega) hB
  have hba4 := mok_r hm y.toNatClampNeg (by omega)
  refine lv_aload_n hx hb dX10_changed_18 rfl (lv_at hl 1 rfl) ?_
  refine lv_iload_n hx hb dX10_changed_19 rfl (lv_at hl 0 rfl) ?_
  refine call_V (n := 1) (k0 := 0) (As := [.int x2]) (rest := []) hX hB (k_X10_told κ l (mw κ a4 (va_up (va_up r (2 * y.toNatClampNeg) R_o) (2 * y.toNatClampNeg + 1) C_o) (va_up f y.toNatClampNeg f_o) q (tb a4) w) 0 (a 0) (a4 1) (q 0) (q 1) (q 2) (q 3) x2 (mw0x (a := a4) (r := (va_up (va_up r (2 * y.toNatClampNeg) R_o) (2 * y.toNatClampNeg + 1) C_o)) (f := (va_up f y.toNatClampNeg f_o)) (q := q) (T := tb a4) (w := w) (ha5.trans rfl))) ⟨rfl, yk_X10_told⟩ wm_5_208 wm_5_210 wp_30 wm_1_6 wm_5_211 ⟨Nat.le_of_ble_eq_true rfl, Nat.le_of_ble_eq_true rfl⟩ ⟨Nat.le_of_ble_eq_true rfl, Nat.le_of_ble_eq_true rfl⟩ (mw0x (a := a4) (r := (va_up (va_up r (2 * y.toNatClampNeg) R_o) (2 * y.toNatClampNeg + 1) C_o)) (f := (va_up f y.toNatClampNeg f_o)) (q := q) (T := tb a4) (w := w) (ha5.trans rfl)) rfl rfl rfl hl.1 rfl (Nat.le_of_ble_eq_true rfl) dX10_changed_20 (fun o w' H locs hp hB => ?_)
  obtain ⟨rfl, hw9⟩ := hp
  replace hB : Bd κ A s (mw κ a4 (va_up (va_up r (2 * y.toNatClampNeg) R_o) (2 * y.toNatClampNeg + 1) C_o) (va_up f y.toNatClampNeg f_o) (va_up q 0 ((q 0) + 1)) (tb a4) w) H locs := by exact Bd_eq (mwQ0x (ha5.trans rfl) _) (by rw [hw9] at hB; exact hB)
  refine W.eq (g2 := F0 m 23 ls [.int x2]) rfl ?_
  rw [← hQ]
  exact end_i hX hB hA3 rfl rfl (by obtain ⟨rfl, rfl, rfl, rfl⟩ := pr4 hR; exact ⟨a4, rfl, (ha5.trans rfl), (mok_repl (t := y.toNatClampNeg) (R := R_o) (C := C_o) (F := f_o) hm ⟨by omega, by omega, by omega, by omega⟩ hso), rfl, rfl⟩) (Nat.le_of_ble_eq_true rfl) (Nat.le_of_ble_eq_true rfl) dX10_changed_23
noncomputable def D_X10_make (r : Nat → Nat) (f : Nat → Nat → Int64) (q : Nat → Int32) (y : Int32) (z : Int32) (u : Int32) : Int32 × (Nat → Nat) × (Nat → Nat → Int64) × (Nat → Int32) := bnd1 (D_X10_isTable y) (fun (z1 : Int32) => (if z1 = 0 then bnd1 (D_X10_isShort z) (fun (z6 : Int32) => (if z6 = 0 then bnd2 (D_X10_isThrown_ (q 0) (q 1) (q 2) (q 3) 1 1) (fun (x11 : Int32) (t12 : Int32) => (0, r, f, va_up q 3 t12)) else bnd1 (D_X10_isShort u) (fun (z17 : Int32) => (if z17 = 0 then bnd2 (D_X10_isThrown_ (q 0) (q 1) (q 2) (q 3) 1 1) (fun (x22 : Int32) (t23 : Int32) => (0, r, f, va_up q 3 t23)) else bnd2 (D_X10_isThrown_ (q 0) (q 1) (q 2) (q 3) 1 0) (fun (x28 : Int32) (t29 : Int32) => (0, r, f, va_up q 3 t29)))))) else bnd1 (D_X10_isShort z) (fun (z34 : Int32) => (if z34 = 0 then bnd2 (D_X10_isThrown_ (q 0) (q 1) (q 2) (q 3) 0 1) (fun (x39 : Int32) (t40 : Int32) => (0, r, f, va_up q 3 t40)) else bnd1 (D_X10_isShort u) (fun (z45 : Int32) => (if z45 = 0 then bnd2 (D_X10_isThrown_ (q 0) (q 1) (q 2) (q 3) 0 1) (fun (x50 : Int32) (t51 : Int32) => (0, r, f, va_up q 3 t51)) else bnd2 (D_X10_isThrown_ (q 0) (q 1) (q 2) (q 3) 0 0) (fun (x56 : Int32) (t57 : Int32) => bnd4 (D_X10_lay r f (va_up q 3 t57) y ((z).toNatClampNeg) ((u).toNatClampNeg) (fun _ => 0)) (fun (x63 : Int32) (rn65 : Nat → Nat) (fn66 : Nat → Nat → Int64) (qn67 : Nat → Int32) => (x63, rn65, fn66, qn67)))))))))
theorem D_X10_make_s {r : Nat → Nat} {f : Nat → Nat → Int64} {q : Nat → Int32} {y : Int32} {z : Int32} {u : Int32} : D_X10_make r f q y z u = bnd1 (D_X10_isTable y) (fun (z1 : Int32) => (if z1 = 0 then bnd1 (D_X10_isShort z) (fun (z6 : Int32) => (if z6 = 0 then bnd2 (D_X10_isThrown_ (q 0) (q 1) (q 2) (q 3) 1 1) (fun (x11 : Int32) (t12 : Int32) => (0, r, f, va_up q 3 t12)) else bnd1 (D_X10_isShort u) (fun (z17 : Int32) => (if z17 = 0 then bnd2 (D_X10_isThrown_ (q 0) (q 1) (q 2) (q 3) 1 1) (fun (x22 : Int32) (t23 : Int32) => (0, r, f, va_up q 3 t23)) else bnd2 (D_X10_isThrown_ (q 0) (q 1) (q 2) (q 3) 1 0) (fun (x28 : Int32) (t29 : Int32) => (0, r, f, va_up q 3 t29)))))) else bnd1 (D_X10_isShort z) (fun (z34 : Int32) => (if z34 = 0 then bnd2 (D_X10_isThrown_ (q 0) (q 1) (q 2) (q 3) 0 1) (fun (x39 : Int32) (t40 : Int32) => (0, r, f, va_up q 3 t40)) else bnd1 (D_X10_isShort u) (fun (z45 : Int32) => (if z45 = 0 then bnd2 (D_X10_isThrown_ (q 0) (q 1) (q 2) (q 3) 0 1) (fun (x50 : Int32) (t51 : Int32) => (0, r, f, va_up q 3 t51)) else bnd2 (D_X10_isThrown_ (q 0) (q 1) (q 2) (q 3) 0 0) (fun (x56 : Int32) (t57 : Int32) => bnd4 (D_X10_lay r f (va_up q 3 t57) y ((z).toNatClampNeg) ((u).toNatClampNeg) (fun _ => 0)) (fun (x63 : Int32) (rn65 : Nat → Nat) (fn66 : Nat → Nat → Int64) (qn67 : Nat → Int32) => (x63, rn65, fn66, qn67))))))))) := rfl
set_option maxHeartbeats 4000000 in
set_option maxRecDepth 100000 in
theorem k_X10_make (κ : Kt) (l : Launch) (w : va_W) (a r : Nat → Nat) (f : Nat → Nat → Int64) (q : Nat → Int32) (y : Int32) (z : Int32) (u : Int32) (hm : mok r f) (o_x : Int32) (o_r' : Nat → Nat) (o_f' : Nat → Nat → Int64) (o_q' : Nat → Int32) (hR : D_X10_make r f q y z u = (o_x, o_r', o_f', o_q')) : CM κ l yX10_make cX10_make 4 (some .int) 2 49 2 23 [.ref (a 0), .int y, .int z, .int u] (mw κ a r f q (tb a) w) (fun o w' => ∃ (a' : Nat → Nat), o = some (.int o_x) ∧ (a' 0 = a 0) ∧ (mok o_r' o_f') ∧ (o_q' 2 = q 2) ∧ w' = mw κ a' o_r' o_f' o_q' (tb a') w) := by
  refine CM_begin (plainFor_of_name pn_RX10) (Nat.le_of_ble_eq_true rfl) ?_
  intro p e s m args below meth c A Q hX hnm hA3 hQ hB ls hl
  have hx := hX.1.1
  have hb := hX.1.2.1
  have hl : lv_has ls 4 [(0, .ref (a 0)), (1, .int y), (2, .int z), (3, .int u)] := hl
  replace hR := (D_X10_make_s).symm.trans hR
  refine lv_aload_n hx hb dX10_make_0 rfl (lv_at hl 0 rfl) ?_
  refine lv_iload_n hx hb dX10_make_1 rfl (lv_at hl 1 rfl) ?_
  obtain ⟨z1, hd2⟩ := ex1 (D_X10_isTable y)
  replace hR := bnd1_use hd2 hR
  refine call_S (n := 1) (As := [.int y]) (rest := [.ref (a 0)]) hX hB (k_X10_isTable κ l (mw κ a r f q (tb a) w) y z1 hd2) yk_X10_isTable wm_5_186 wm_5_187 wm_1_6 wm_5_188 ⟨Nat.le_of_ble_eq_true rfl, Nat.le_of_ble_eq_true rfl⟩ ⟨Nat.le_of_ble_eq_true rfl, Nat.le_of_ble_eq_true rfl⟩ rfl hl.1 rfl (Nat.le_of_ble_eq_true rfl) dX10_make_2 (fun o w' H locs hp hB => ?_)
  obtain ⟨rfl, hf3, hw9⟩ := hp
  replace hB : Bd κ A s (mw κ a r f q (tb a) w) H locs := by rw [hw9] at hB; exact hB
  rcases hf3 with rfl | ⟨rfl, hz4a, hz4b⟩
  · replace hR := ifp rfl hR
    refine W.eq (g2 := F0 m 5 ls [.int 0, .ref (a 0)]) rfl ?_
    refine lv_if_ne (tgt := 12) hx hb dX10_make_5 (by decide) (fun c5 => False.elim (by revert c5; decide)) (fun _ => ?_)
    refine lv_iconst (v := 1) hx hb dX10_make_8 (by decide) ?_
    refine lv_goto (tgt := 13) hx hb dX10_make_9 (by decide) ?_
    refine lv_iload_n hx hb dX10_make_13 rfl (lv_at hl 2 rfl) ?_
    obtain ⟨z6, hd7⟩ := ex1 (D_X10_isShort z)
    replace hR := bnd1_use hd7 hR
    refine call_S (n := 1) (As := [.int z]) (rest := [.int 1, .ref (a 0)]) hX hB (k_X10_isShort κ l (mw κ a r f q (tb a) w) z z6 hd7) yk_X10_isShort wm_5_189 wm_5_190 wm_1_6 wm_5_191 ⟨Nat.le_of_ble_eq_true rfl, Nat.le_of_ble_eq_true rfl⟩ ⟨Nat.le_of_ble_eq_true rfl, Nat.le_of_ble_eq_true rfl⟩ rfl hl.1 rfl (Nat.le_of_ble_eq_true rfl) dX10_make_14 (fun o w' H locs hp hB => ?_)
    obtain ⟨rfl, hf8, hw9⟩ := hp
    replace hB : Bd κ A s (mw κ a r f q (tb a) w) H locs := by rw [hw9] at hB; exact hB
    rcases hf8 with rfl | ⟨rfl, hz9a, hz9b, hz9c⟩
    · replace hR := ifp rfl hR
      refine W.eq (g2 := F0 m 17 ls [.int 0, .int 1, .ref (a 0)]) rfl ?_
      refine lv_if_eq (tgt := 27) hx hb dX10_make_17 (by decide) (fun _ => ?_) (fun c10 => False.elim (by revert c10; decide))
      refine lv_iconst (v := 1) hx hb dX10_make_27 (by decide) ?_
      refine lv_goto (tgt := 32) hx hb dX10_make_28 (by decide) ?_
      obtain ⟨x11, t12, hd13⟩ := ex2 (D_X10_isThrown_ (q 0) (q 1) (q 2) (q 3) 1 1)
      replace hR := bnd2_use hd13 hR
      refine call_V (n := 2) (k0 := 0) (As := [.int 1, .int 1]) (rest := []) hX hB (k_X10_isThrown_ κ l (mw κ a r f q (tb a) w) 0 (a 0) (a 1) (q 0) (q 1) (q 2) (q 3) 1 1 (mw0x (a := a) (r := r) (f := f) (q := q) (T := tb a) (w := w) rfl) x11 t12 hd13) ⟨rfl, yk_X10_isThrown_⟩ wm_5_192 wm_5_194 wp_27 wm_1_6 wm_5_195 ⟨Nat.le_of_ble_eq_true rfl, Nat.le_of_ble_eq_true rfl⟩ ⟨Nat.le_of_ble_eq_true rfl, Nat.le_of_ble_eq_true rfl⟩ (mw0x (a := a) (r := r) (f := f) (q := q) (T := tb a) (w := w) rfl) rfl rfl rfl hl.1 rfl (Nat.le_of_ble_eq_true rfl) dX10_make_32 (fun o w' H locs hp hB => ?_)
      obtain ⟨rfl, hf14, hw9⟩ := hp
      replace hB : Bd κ A s (mw κ a r f (va_up q 3 t12) (tb a) w) H locs := by exact Bd_eq (mwQ3x rfl _) (by rw [hw9] at hB; exact hB)
      obtain rfl : x11 = 1 := hf14.trans (by decide)
      refine W.eq (g2 := F0 m 35 ls [.int 1]) rfl ?_
      refine lv_if_eq (tgt := 42) hx hb dX10_make_35 (by decide) (fun c15 => False.elim (by revert c15; decide)) (fun _ => ?_)
      refine lv_iconst (v := 0) hx hb dX10_make_38 (by decide) ?_
      refine lv_goto (tgt := 56) hx hb dX10_make_39 (by decide) ?_
      rw [← hQ]
      exact end_i hX hB hA3 rfl rfl (by obtain ⟨rfl, rfl, rfl, rfl⟩ := pr4 hR; exact ⟨a, rfl, rfl, hm, rfl, rfl⟩) (Nat.le_of_ble_eq_true rfl) (Nat.le_of_ble_eq_true rfl) dX10_make_56
    · replace hR := ifn (by decide) hR
      refine W.eq (g2 := F0 m 17 ls [.int 1, .int 1, .ref (a 0)]) rfl ?_
      refine lv_if_eq (tgt := 27) hx hb dX10_make_17 (by decide) (fun c16 => False.elim (by revert c16; decide)) (fun _ => ?_)
      refine lv_iload_n hx hb dX10_make_20 rfl (lv_at hl 3 rfl) ?_
      obtain ⟨z17, hd18⟩ := ex1 (D_X10_isShort u)
      replace hR := bnd1_use hd18 hR
      refine call_S (n := 1) (As := [.int u]) (rest := [.int 1, .ref (a 0)]) hX hB (k_X10_isShort κ l (mw κ a r f q (tb a) w) u z17 hd18) yk_X10_isShort wm_5_189 wm_5_190 wm_1_6 wm_5_191 ⟨Nat.le_of_ble_eq_true rfl, Nat.le_of_ble_eq_true rfl⟩ ⟨Nat.le_of_ble_eq_true rfl, Nat.le_of_ble_eq_true rfl⟩ rfl hl.1 rfl (Nat.le_of_ble_eq_true rfl) dX10_make_21 (fun o w' H locs hp hB => ?_)
      obtain ⟨rfl, hf19, hw9⟩ := hp
      replace hB : Bd κ A s (mw κ a r f q (tb a) w) H locs := by rw [hw9] at hB; exact hB
      rcases hf19 with rfl | ⟨rfl, hz20a, hz20b, hz20c⟩
      · replace hR := ifp rfl hR
        refine W.eq (g2 := F0 m 24 ls [.int 0, .int 1, .ref (a 0)]) rfl ?_
        refine lv_if_ne (tgt := 31) hx hb dX10_make_24 (by decide) (fun c21 => False.elim (by revert c21; decide)) (fun _ => ?_)
        refine lv_iconst (v := 1) hx hb dX10_make_27 (by decide) ?_
        refine lv_goto (tgt := 32) hx hb dX10_make_28 (by decide) ?_
        obtain ⟨x22, t23, hd24⟩ := ex2 (D_X10_isThrown_ (q 0) (q 1) (q 2) (q 3) 1 1)
        replace hR := bnd2_use hd24 hR
        refine call_V (n := 2) (k0 := 0) (As := [.int 1, .int 1]) (rest := []) hX hB (k_X10_isThrown_ κ l (mw κ a r f q (tb a) w) 0 (a 0) (a 1) (q 0) (q 1) (q 2) (q 3) 1 1 (mw0x (a := a) (r := r) (f := f) (q := q) (T := tb a) (w := w) rfl) x22 t23 hd24) ⟨rfl, yk_X10_isThrown_⟩ wm_5_192 wm_5_194 wp_27 wm_1_6 wm_5_195 ⟨Nat.le_of_ble_eq_true rfl, Nat.le_of_ble_eq_true rfl⟩ ⟨Nat.le_of_ble_eq_true rfl, Nat.le_of_ble_eq_true rfl⟩ (mw0x (a := a) (r := r) (f := f) (q := q) (T := tb a) (w := w) rfl) rfl rfl rfl hl.1 rfl (Nat.le_of_ble_eq_true rfl) dX10_make_32 (fun o w' H locs hp hB => ?_)
        obtain ⟨rfl, hf25, hw9⟩ := hp
        replace hB : Bd κ A s (mw κ a r f (va_up q 3 t23) (tb a) w) H locs := by exact Bd_eq (mwQ3x rfl _) (by rw [hw9] at hB; exact hB)
        obtain rfl : x22 = 1 := hf25.trans (by decide)
        refine W.eq (g2 := F0 m 35 ls [.int 1]) rfl ?_
        refine lv_if_eq (tgt := 42) hx hb dX10_make_35 (by decide) (fun c26 => False.elim (by revert c26; decide)) (fun _ => ?_)
        refine lv_iconst (v := 0) hx hb dX10_make_38 (by decide) ?_
        refine lv_goto (tgt := 56) hx hb dX10_make_39 (by decide) ?_
        rw [← hQ]
        exact end_i hX hB hA3 rfl rfl (by obtain ⟨rfl, rfl, rfl, rfl⟩ := pr4 hR; exact ⟨a, rfl, rfl, hm, rfl, rfl⟩) (Nat.le_of_ble_eq_true rfl) (Nat.le_of_ble_eq_true rfl) dX10_make_56
      · replace hR := ifn (by decide) hR
        refine W.eq (g2 := F0 m 24 ls [.int 1, .int 1, .ref (a 0)]) rfl ?_
        refine lv_if_ne (tgt := 31) hx hb dX10_make_24 (by decide) (fun _ => ?_) (fun c27 => False.elim (by revert c27; decide))
        refine lv_iconst (v := 0) hx hb dX10_make_31 (by decide) ?_
        obtain ⟨x28, t29, hd30⟩ := ex2 (D_X10_isThrown_ (q 0) (q 1) (q 2) (q 3) 1 0)
        replace hR := bnd2_use hd30 hR
        refine call_V (n := 2) (k0 := 0) (As := [.int 1, .int 0]) (rest := []) hX hB (k_X10_isThrown_ κ l (mw κ a r f q (tb a) w) 0 (a 0) (a 1) (q 0) (q 1) (q 2) (q 3) 1 0 (mw0x (a := a) (r := r) (f := f) (q := q) (T := tb a) (w := w) rfl) x28 t29 hd30) ⟨rfl, yk_X10_isThrown_⟩ wm_5_192 wm_5_194 wp_27 wm_1_6 wm_5_195 ⟨Nat.le_of_ble_eq_true rfl, Nat.le_of_ble_eq_true rfl⟩ ⟨Nat.le_of_ble_eq_true rfl, Nat.le_of_ble_eq_true rfl⟩ (mw0x (a := a) (r := r) (f := f) (q := q) (T := tb a) (w := w) rfl) rfl rfl rfl hl.1 rfl (Nat.le_of_ble_eq_true rfl) dX10_make_32 (fun o w' H locs hp hB => ?_)
        obtain ⟨rfl, hf31, hw9⟩ := hp
        replace hB : Bd κ A s (mw κ a r f (va_up q 3 t29) (tb a) w) H locs := by exact Bd_eq (mwQ3x rfl _) (by rw [hw9] at hB; exact hB)
        obtain rfl : x28 = 1 := hf31.trans (by decide)
        refine W.eq (g2 := F0 m 35 ls [.int 1]) rfl ?_
        refine lv_if_eq (tgt := 42) hx hb dX10_make_35 (by decide) (fun c32 => False.elim (by revert c32; decide)) (fun _ => ?_)
        refine lv_iconst (v := 0) hx hb dX10_make_38 (by decide) ?_
        refine lv_goto (tgt := 56) hx hb dX10_make_39 (by decide) ?_
        rw [← hQ]
        exact end_i hX hB hA3 rfl rfl (by obtain ⟨rfl, rfl, rfl, rfl⟩ := pr4 hR; exact ⟨a, rfl, rfl, hm, rfl, rfl⟩) (Nat.le_of_ble_eq_true rfl) (Nat.le_of_ble_eq_true rfl) dX10_make_56
  · replace hR := ifn (by decide) hR
    refine W.eq (g2 := F0 m 5 ls [.int 1, .ref (a 0)]) rfl ?_
    refine lv_if_ne (tgt := 12) hx hb dX10_make_5 (by decide) (fun _ => ?_) (fun c33 => False.elim (by revert c33; decide))
    refine lv_iconst (v := 0) hx hb dX10_make_12 (by decide) ?_
    refine lv_iload_n hx hb dX10_make_13 rfl (lv_at hl 2 rfl) ?_
    obtain ⟨z34, hd35⟩ := ex1 (D_X10_isShort z)
    replace hR := bnd1_use hd35 hR
    refine call_S (n := 1) (As := [.int z]) (rest := [.int 0, .ref (a 0)]) hX hB (k_X10_isShort κ l (mw κ a r f q (tb a) w) z z34 hd35) yk_X10_isShort wm_5_189 wm_5_190 wm_1_6 wm_5_191 ⟨Nat.le_of_ble_eq_true rfl, Nat.le_of_ble_eq_true rfl⟩ ⟨Nat.le_of_ble_eq_true rfl, Nat.le_of_ble_eq_true rfl⟩ rfl hl.1 rfl (Nat.le_of_ble_eq_true rfl) dX10_make_14 (fun o w' H locs hp hB => ?_)
    obtain ⟨rfl, hf36, hw9⟩ := hp
    replace hB : Bd κ A s (mw κ a r f q (tb a) w) H locs := by rw [hw9] at hB; exact hB
    rcases hf36 with rfl | ⟨rfl, hz37a, hz37b, hz37c⟩
    · replace hR := ifp rfl hR
      refine W.eq (g2 := F0 m 17 ls [.int 0, .int 0, .ref (a 0)]) rfl ?_
      refine lv_if_eq (tgt := 27) hx hb dX10_make_17 (by decide) (fun _ => ?_) (fun c38 => False.elim (by revert c38; decide))
      refine lv_iconst (v := 1) hx hb dX10_make_27 (by decide) ?_
      refine lv_goto (tgt := 32) hx hb dX10_make_28 (by decide) ?_
      obtain ⟨x39, t40, hd41⟩ := ex2 (D_X10_isThrown_ (q 0) (q 1) (q 2) (q 3) 0 1)
      replace hR := bnd2_use hd41 hR
      refine call_V (n := 2) (k0 := 0) (As := [.int 0, .int 1]) (rest := []) hX hB (k_X10_isThrown_ κ l (mw κ a r f q (tb a) w) 0 (a 0) (a 1) (q 0) (q 1) (q 2) (q 3) 0 1 (mw0x (a := a) (r := r) (f := f) (q := q) (T := tb a) (w := w) rfl) x39 t40 hd41) ⟨rfl, yk_X10_isThrown_⟩ wm_5_192 wm_5_194 wp_27 wm_1_6 wm_5_195 ⟨Nat.le_of_ble_eq_true rfl, Nat.le_of_ble_eq_true rfl⟩ ⟨Nat.le_of_ble_eq_true rfl, Nat.le_of_ble_eq_true rfl⟩ (mw0x (a := a) (r := r) (f := f) (q := q) (T := tb a) (w := w) rfl) rfl rfl rfl hl.1 rfl (Nat.le_of_ble_eq_true rfl) dX10_make_32 (fun o w' H locs hp hB => ?_)
      obtain ⟨rfl, hf42, hw9⟩ := hp
      replace hB : Bd κ A s (mw κ a r f (va_up q 3 t40) (tb a) w) H locs := by exact Bd_eq (mwQ3x rfl _) (by rw [hw9] at hB; exact hB)
      obtain rfl : x39 = 1 := hf42.trans (by decide)
      refine W.eq (g2 := F0 m 35 ls [.int 1]) rfl ?_
      refine lv_if_eq (tgt := 42) hx hb dX10_make_35 (by decide) (fun c43 => False.elim (by revert c43; decide)) (fun _ => ?_)
      refine lv_iconst (v := 0) hx hb dX10_make_38 (by decide) ?_
      refine lv_goto (tgt := 56) hx hb dX10_make_39 (by decide) ?_
      rw [← hQ]
      exact end_i hX hB hA3 rfl rfl (by obtain ⟨rfl, rfl, rfl, rfl⟩ := pr4 hR; exact ⟨a, rfl, rfl, hm, rfl, rfl⟩) (Nat.le_of_ble_eq_true rfl) (Nat.le_of_ble_eq_true rfl) dX10_make_56
    · replace hR := ifn (by decide) hR
      refine W.eq (g2 := F0 m 17 ls [.int 1, .int 0, .ref (a 0)]) rfl ?_
      refine lv_if_eq (tgt := 27) hx hb dX10_make_17 (by decide) (fun c44 => False.elim (by revert c44; decide)) (fun _ => ?_)
      refine lv_iload_n hx hb dX10_make_20 rfl (lv_at hl 3 rfl) ?_
      obtain ⟨z45, hd46⟩ := ex1 (D_X10_isShort u)
      replace hR := bnd1_use hd46 hR
      refine call_S (n := 1) (As := [.int u]) (rest := [.int 0, .ref (a 0)]) hX hB (k_X10_isShort κ l (mw κ a r f q (tb a) w) u z45 hd46) yk_X10_isShort wm_5_189 wm_5_190 wm_1_6 wm_5_191 ⟨Nat.le_of_ble_eq_true rfl, Nat.le_of_ble_eq_true rfl⟩ ⟨Nat.le_of_ble_eq_true rfl, Nat.le_of_ble_eq_true rfl⟩ rfl hl.1 rfl (Nat.le_of_ble_eq_true rfl) dX10_make_21 (fun o w' H locs hp hB => ?_)
      obtain ⟨rfl, hf47, hw9⟩ := hp
      replace hB : Bd κ A s (mw κ a r f q (tb a) w) H locs := by rw [hw9] at hB; exact hB
      rcases hf47 with rfl | ⟨rfl, hz48a, hz48b, hz48c⟩
      · replace hR := ifp rfl hR
        refine W.eq (g2 := F0 m 24 ls [.int 0, .int 0, .ref (a 0)]) rfl ?_
        refine lv_if_ne (tgt := 31) hx hb dX10_make_24 (by decide) (fun c49 => False.elim (by revert c49; decide)) (fun _ => ?_)
        refine lv_iconst (v := 1) hx hb dX10_make_27 (by decide) ?_
        refine lv_goto (tgt := 32) hx hb dX10_make_28 (by decide) ?_
        obtain ⟨x50, t51, hd52⟩ := ex2 (D_X10_isThrown_ (q 0) (q 1) (q 2) (q 3) 0 1)
        replace hR := bnd2_use hd52 hR
        refine call_V (n := 2) (k0 := 0) (As := [.int 0, .int 1]) (rest := []) hX hB (k_X10_isThrown_ κ l (mw κ a r f q (tb a) w) 0 (a 0) (a 1) (q 0) (q 1) (q 2) (q 3) 0 1 (mw0x (a := a) (r := r) (f := f) (q := q) (T := tb a) (w := w) rfl) x50 t51 hd52) ⟨rfl, yk_X10_isThrown_⟩ wm_5_192 wm_5_194 wp_27 wm_1_6 wm_5_195 ⟨Nat.le_of_ble_eq_true rfl, Nat.le_of_ble_eq_true rfl⟩ ⟨Nat.le_of_ble_eq_true rfl, Nat.le_of_ble_eq_true rfl⟩ (mw0x (a := a) (r := r) (f := f) (q := q) (T := tb a) (w := w) rfl) rfl rfl rfl hl.1 rfl (Nat.le_of_ble_eq_true rfl) dX10_make_32 (fun o w' H locs hp hB => ?_)
        obtain ⟨rfl, hf53, hw9⟩ := hp
        replace hB : Bd κ A s (mw κ a r f (va_up q 3 t51) (tb a) w) H locs := by exact Bd_eq (mwQ3x rfl _) (by rw [hw9] at hB; exact hB)
        obtain rfl : x50 = 1 := hf53.trans (by decide)
        refine W.eq (g2 := F0 m 35 ls [.int 1]) rfl ?_
        refine lv_if_eq (tgt := 42) hx hb dX10_make_35 (by decide) (fun c54 => False.elim (by revert c54; decide)) (fun _ => ?_)
        refine lv_iconst (v := 0) hx hb dX10_make_38 (by decide) ?_
        refine lv_goto (tgt := 56) hx hb dX10_make_39 (by decide) ?_
        rw [← hQ]
        exact end_i hX hB hA3 rfl rfl (by obtain ⟨rfl, rfl, rfl, rfl⟩ := pr4 hR; exact ⟨a, rfl, rfl, hm, rfl, rfl⟩) (Nat.le_of_ble_eq_true rfl) (Nat.le_of_ble_eq_true rfl) dX10_make_56
      · replace hR := ifn (by decide) hR
        refine W.eq (g2 := F0 m 24 ls [.int 1, .int 0, .ref (a 0)]) rfl ?_
        refine lv_if_ne (tgt := 31) hx hb dX10_make_24 (by decide) (fun _ => ?_) (fun c55 => False.elim (by revert c55; decide))
        refine lv_iconst (v := 0) hx hb dX10_make_31 (by decide) ?_
        obtain ⟨x56, t57, hd58⟩ := ex2 (D_X10_isThrown_ (q 0) (q 1) (q 2) (q 3) 0 0)
        replace hR := bnd2_use hd58 hR
        refine call_V (n := 2) (k0 := 0) (As := [.int 0, .int 0]) (rest := []) hX hB (k_X10_isThrown_ κ l (mw κ a r f q (tb a) w) 0 (a 0) (a 1) (q 0) (q 1) (q 2) (q 3) 0 0 (mw0x (a := a) (r := r) (f := f) (q := q) (T := tb a) (w := w) rfl) x56 t57 hd58) ⟨rfl, yk_X10_isThrown_⟩ wm_5_192 wm_5_194 wp_27 wm_1_6 wm_5_195 ⟨Nat.le_of_ble_eq_true rfl, Nat.le_of_ble_eq_true rfl⟩ ⟨Nat.le_of_ble_eq_true rfl, Nat.le_of_ble_eq_true rfl⟩ (mw0x (a := a) (r := r) (f := f) (q := q) (T := tb a) (w := w) rfl) rfl rfl rfl hl.1 rfl (Nat.le_of_ble_eq_true rfl) dX10_make_32 (fun o w' H locs hp hB => ?_)
        obtain ⟨rfl, hf59, hw9⟩ := hp
        replace hB : Bd κ A s (mw κ a r f (va_up q 3 t57) (tb a) w) H locs := by exact Bd_eq (mwQ3x rfl _) (by rw [hw9] at hB; exact hB)
        obtain rfl : x56 = 0 := hf59.trans (by decide)
        refine W.eq (g2 := F0 m 35 ls [.int 0]) rfl ?_
        refine lv_if_eq (tgt := 42) hx hb dX10_make_35 (by decide) (fun _ => ?_) (fun c60 => False.elim (by revert c60; decide))
        refine lv_aload_n hx hb dX10_make_42 rfl (lv_at hl 0 rfl) ?_
        refine lv_iload_n hx hb dX10_make_43 rfl (lv_at hl 1 rfl) ?_
        refine newO (fs := [.int 0, .int 0, .null]) hX hB (ci := 8) rfl in7 tyX7_ok wm_5_138 wm_5_140 wm_1_7 df8 (Nat.le_of_ble_eq_true rfl) (Nat.le_of_ble_eq_true rfl) dX10_make_44 (fun q61 H hB => ?_)
        refine lv_dup hx hb dX10_make_47 rfl ?_
        refine lv_iload_n hx hb dX10_make_48 rfl (lv_at hl 2 rfl) ?_
        refine lv_iload_n hx hb dX10_make_49 rfl (lv_at hl 3 rfl) ?_
        refine call_I (n := 2) (As := [.int z, .int u]) (rest := [.ref q61, .int y, .ref (a 0)]) hX hB (k_X7_init κ l (mw κ a r f (va_up q 3 t57) (tb a) w) q61 z ((z).toNatClampNeg) u ((u).toNatClampNeg) (nI_rep (by assumption)) (nI_rep (by assumption)) (by omega)) yk_X7_init rfl wm_5_141 wm_5_142 wm_1_7 wm_5_143 ⟨Nat.le_of_ble_eq_true rfl, Nat.le_of_ble_eq_true rfl⟩ ⟨Nat.le_of_ble_eq_true rfl, Nat.le_of_ble_eq_true rfl⟩ rfl hl.1 rfl (Nat.le_of_ble_eq_true rfl) dX10_make_50 (fun o w' H locs hp hB => ?_)
        obtain ⟨b62, rfl, hw9⟩ := hp
        replace hB : Bd κ A s (lA κ b62 (((z).toNatClampNeg) * 5) (fun _ => 0) :: gO q61 ((z).toNatClampNeg) ((u).toNatClampNeg) b62 :: mw κ a r f (va_up q 3 t57) (tb a) w) H locs := by rw [hw9] at hB; exact hB
        refine W.eq (g2 := F0 m 53 ls [.ref q61, .int y, .ref (a 0)]) rfl ?_
        obtain ⟨x63, rn65, fn66, qn67, hd68⟩ := ex4 (D_X10_lay r f (va_up q 3 t57) y ((z).toNatClampNeg) ((u).toNatClampNeg) (fun _ => 0))
        replace hR := bnd4_use hd68 hR
        refine call_V (n := 2) (k0 := 2) (As := [.int y, .ref q61]) (rest := []) hX hB (k_X10_lay κ l w a r f (va_up q 3 t57) y q61 b62 ((z).toNatClampNeg) ((u).toNatClampNeg) (fun _ => 0) hm ⟨by omega, by omega, by omega, by omega⟩ (by assumption) (by assumption) (fun _ _ => sm_0) x63 rn65 fn66 qn67 hd68) ⟨rfl, yk_X10_lay⟩ wm_5_200 wm_5_202 wp_29 wm_1_6 wm_5_203 ⟨Nat.le_of_ble_eq_true rfl, Nat.le_of_ble_eq_true rfl⟩ ⟨Nat.le_of_ble_eq_true rfl, Nat.le_of_ble_eq_true rfl⟩ (mw0x (a := a) (r := r) (f := f) (q := (va_up q 3 t57)) (T := tb a) (w := w) rfl) rfl rfl rfl hl.1 rfl (Nat.le_of_ble_eq_true rfl) dX10_make_53 (fun o w' H locs hp hB => ?_)
        obtain ⟨an64, rfl, hf69, hf70, hf71, hw9⟩ := hp
        replace hB : Bd κ A s (mw κ an64 rn65 fn66 qn67 (tb an64) w) H locs := by rw [hw9] at hB; exact hB
        refine W.eq (g2 := F0 m 56 ls [.int x63]) rfl ?_
        rw [← hQ]
        exact end_i hX hB hA3 rfl rfl (by obtain ⟨rfl, rfl, rfl, rfl⟩ := pr4 hR; exact ⟨an64, rfl, (hf69.trans rfl), hf70, (hf71.trans rfl), rfl⟩) (Nat.le_of_ble_eq_true rfl) (Nat.le_of_ble_eq_true rfl) dX10_make_56
noncomputable def D_X10_unit (r : Nat → Nat) (f : Nat → Nat → Int64) (q : Nat → Int32) (y : Int32) (z : Int32) : Int32 × (Nat → Nat) × (Nat → Nat → Int64) × (Nat → Int32) := bnd1 (D_X10_isTable y) (fun (z1 : Int32) => (if z1 = 0 then bnd1 (D_X10_isShort z) (fun (z6 : Int32) => (if z6 = 0 then bnd2 (D_X10_isThrown_ (q 0) (q 1) (q 2) (q 3) 1 1) (fun (x11 : Int32) (t12 : Int32) => (0, r, f, va_up q 3 t12)) else bnd2 (D_X10_isThrown_ (q 0) (q 1) (q 2) (q 3) 1 0) (fun (x17 : Int32) (t18 : Int32) => (0, r, f, va_up q 3 t18)))) else bnd1 (D_X10_isShort z) (fun (z23 : Int32) => (if z23 = 0 then bnd2 (D_X10_isThrown_ (q 0) (q 1) (q 2) (q 3) 0 1) (fun (x28 : Int32) (t29 : Int32) => (0, r, f, va_up q 3 t29)) else bnd2 (D_X10_isThrown_ (q 0) (q 1) (q 2) (q 3) 0 0) (fun (x34 : Int32) (t35 : Int32) => bnd1 (D_X7_unit ((z).toNatClampNeg)) (fun (F41 : Nat → Int64) => bnd4 (D_X10_lay r f (va_up q 3 t35) y ((z).toNatClampNeg) ((z).toNatClampNeg) F41) (fun (x44 : Int32) (rn46 : Nat → Nat) (fn47 : Nat → Nat → Int64) (qn48 : Nat → Int32) => (x44, rn46, fn47, qn48))))))))
theorem D_X10_unit_s {r : Nat → Nat} {f : Nat → Nat → Int64} {q : Nat → Int32} {y : Int32} {z : Int32} : D_X10_unit r f q y z = bnd1 (D_X10_isTable y) (fun (z1 : Int32) => (if z1 = 0 then bnd1 (D_X10_isShort z) (fun (z6 : Int32) => (if z6 = 0 then bnd2 (D_X10_isThrown_ (q 0) (q 1) (q 2) (q 3) 1 1) (fun (x11 : Int32) (t12 : Int32) => (0, r, f, va_up q 3 t12)) else bnd2 (D_X10_isThrown_ (q 0) (q 1) (q 2) (q 3) 1 0) (fun (x17 : Int32) (t18 : Int32) => (0, r, f, va_up q 3 t18)))) else bnd1 (D_X10_isShort z) (fun (z23 : Int32) => (if z23 = 0 then bnd2 (D_X10_isThrown_ (q 0) (q 1) (q 2) (q 3) 0 1) (fun (x28 : Int32) (t29 : Int32) => (0, r, f, va_up q 3 t29)) else bnd2 (D_X10_isThrown_ (q 0) (q 1) (q 2) (q 3) 0 0) (fun (x34 : Int32) (t35 : Int32) => bnd1 (D_X7_unit ((z).toNatClampNeg)) (fun (F41 : Nat → Int64) => bnd4 (D_X10_lay r f (va_up q 3 t35) y ((z).toNatClampNeg) ((z).toNatClampNeg) F41) (fun (x44 : Int32) (rn46 : Nat → Nat) (fn47 : Nat → Nat → Int64) (qn48 : Nat → Int32) => (x44, rn46, fn47, qn48)))))))) := rfl
set_option maxHeartbeats 4000000 in
set_option maxRecDepth 100000 in
theorem k_X10_unit (κ : Kt) (l : Launch) (w : va_W) (a r : Nat → Nat) (f : Nat → Nat → Int64) (q : Nat → Int32) (y : Int32) (z : Int32) (hm : mok r f) (o_x : Int32) (o_r' : Nat → Nat) (o_f' : Nat → Nat → Int64) (o_q' : Nat → Int32) (hR : D_X10_unit r f q y z = (o_x, o_r', o_f', o_q')) : CM κ l yX10_unit cX10_unit 3 (some .int) 3 64 2 23 [.ref (a 0), .int y, .int z] (mw κ a r f q (tb a) w) (fun o w' => ∃ (a' : Nat → Nat), o = some (.int o_x) ∧ (a' 0 = a 0) ∧ (mok o_r' o_f') ∧ (o_q' 2 = q 2) ∧ w' = mw κ a' o_r' o_f' o_q' (tb a') w) := by
  refine CM_begin (plainFor_of_name pn_RX10) (Nat.le_of_ble_eq_true rfl) ?_
  intro p e s m args below meth c A Q hX hnm hA3 hQ hB ls hl
  have hx := hX.1.1
  have hb := hX.1.2.1
  have hl : lv_has ls 3 [(0, .ref (a 0)), (1, .int y), (2, .int z)] := hl
  replace hR := (D_X10_unit_s).symm.trans hR
  refine lv_aload_n hx hb dX10_unit_0 rfl (lv_at hl 0 rfl) ?_
  refine lv_iload_n hx hb dX10_unit_1 rfl (lv_at hl 1 rfl) ?_
  obtain ⟨z1, hd2⟩ := ex1 (D_X10_isTable y)
  replace hR := bnd1_use hd2 hR
  refine call_S (n := 1) (As := [.int y]) (rest := [.ref (a 0)]) hX hB (k_X10_isTable κ l (mw κ a r f q (tb a) w) y z1 hd2) yk_X10_isTable wm_5_186 wm_5_187 wm_1_6 wm_5_188 ⟨Nat.le_of_ble_eq_true rfl, Nat.le_of_ble_eq_true rfl⟩ ⟨Nat.le_of_ble_eq_true rfl, Nat.le_of_ble_eq_true rfl⟩ rfl hl.1 rfl (Nat.le_of_ble_eq_true rfl) dX10_unit_2 (fun o w' H locs hp hB => ?_)
  obtain ⟨rfl, hf3, hw9⟩ := hp
  replace hB : Bd κ A s (mw κ a r f q (tb a) w) H locs := by rw [hw9] at hB; exact hB
  rcases hf3 with rfl | ⟨rfl, hz4a, hz4b⟩
  · replace hR := ifp rfl hR
    refine W.eq (g2 := F0 m 5 ls [.int 0, .ref (a 0)]) rfl ?_
    refine lv_if_ne (tgt := 12) hx hb dX10_unit_5 (by decide) (fun c5 => False.elim (by revert c5; decide)) (fun _ => ?_)
    refine lv_iconst (v := 1) hx hb dX10_unit_8 (by decide) ?_
    refine lv_goto (tgt := 13) hx hb dX10_unit_9 (by decide) ?_
    refine lv_iload_n hx hb dX10_unit_13 rfl (lv_at hl 2 rfl) ?_
    obtain ⟨z6, hd7⟩ := ex1 (D_X10_isShort z)
    replace hR := bnd1_use hd7 hR
    refine call_S (n := 1) (As := [.int z]) (rest := [.int 1, .ref (a 0)]) hX hB (k_X10_isShort κ l (mw κ a r f q (tb a) w) z z6 hd7) yk_X10_isShort wm_5_189 wm_5_190 wm_1_6 wm_5_191 ⟨Nat.le_of_ble_eq_true rfl, Nat.le_of_ble_eq_true rfl⟩ ⟨Nat.le_of_ble_eq_true rfl, Nat.le_of_ble_eq_true rfl⟩ rfl hl.1 rfl (Nat.le_of_ble_eq_true rfl) dX10_unit_14 (fun o w' H locs hp hB => ?_)
    obtain ⟨rfl, hf8, hw9⟩ := hp
    replace hB : Bd κ A s (mw κ a r f q (tb a) w) H locs := by rw [hw9] at hB; exact hB
    rcases hf8 with rfl | ⟨rfl, hz9a, hz9b, hz9c⟩
    · replace hR := ifp rfl hR
      refine W.eq (g2 := F0 m 17 ls [.int 0, .int 1, .ref (a 0)]) rfl ?_
      refine lv_if_ne (tgt := 24) hx hb dX10_unit_17 (by decide) (fun c10 => False.elim (by revert c10; decide)) (fun _ => ?_)
      refine lv_iconst (v := 1) hx hb dX10_unit_20 (by decide) ?_
      refine lv_goto (tgt := 25) hx hb dX10_unit_21 (by decide) ?_
      obtain ⟨x11, t12, hd13⟩ := ex2 (D_X10_isThrown_ (q 0) (q 1) (q 2) (q 3) 1 1)
      replace hR := bnd2_use hd13 hR
      refine call_V (n := 2) (k0 := 0) (As := [.int 1, .int 1]) (rest := []) hX hB (k_X10_isThrown_ κ l (mw κ a r f q (tb a) w) 0 (a 0) (a 1) (q 0) (q 1) (q 2) (q 3) 1 1 (mw0x (a := a) (r := r) (f := f) (q := q) (T := tb a) (w := w) rfl) x11 t12 hd13) ⟨rfl, yk_X10_isThrown_⟩ wm_5_192 wm_5_194 wp_27 wm_1_6 wm_5_195 ⟨Nat.le_of_ble_eq_true rfl, Nat.le_of_ble_eq_true rfl⟩ ⟨Nat.le_of_ble_eq_true rfl, Nat.le_of_ble_eq_true rfl⟩ (mw0x (a := a) (r := r) (f := f) (q := q) (T := tb a) (w := w) rfl) rfl rfl rfl hl.1 rfl (Nat.le_of_ble_eq_true rfl) dX10_unit_25 (fun o w' H locs hp hB => ?_)
      obtain ⟨rfl, hf14, hw9⟩ := hp
      replace hB : Bd κ A s (mw κ a r f (va_up q 3 t12) (tb a) w) H locs := by exact Bd_eq (mwQ3x rfl _) (by rw [hw9] at hB; exact hB)
      obtain rfl : x11 = 1 := hf14.trans (by decide)
      refine W.eq (g2 := F0 m 28 ls [.int 1]) rfl ?_
      refine lv_if_eq (tgt := 35) hx hb dX10_unit_28 (by decide) (fun c15 => False.elim (by revert c15; decide)) (fun _ => ?_)
      refine lv_iconst (v := 0) hx hb dX10_unit_31 (by decide) ?_
      refine lv_goto (tgt := 44) hx hb dX10_unit_32 (by decide) ?_
      rw [← hQ]
      exact end_i hX hB hA3 rfl rfl (by obtain ⟨rfl, rfl, rfl, rfl⟩ := pr4 hR; exact ⟨a, rfl, rfl, hm, rfl, rfl⟩) (Nat.le_of_ble_eq_true rfl) (Nat.le_of_ble_eq_true rfl) dX10_unit_44
    · replace hR := ifn (by decide) hR
      refine W.eq (g2 := F0 m 17 ls [.int 1, .int 1, .ref (a 0)]) rfl ?_
      refine lv_if_ne (tgt := 24) hx hb dX10_unit_17 (by decide) (fun _ => ?_) (fun c16 => False.elim (by revert c16; decide))
      refine lv_iconst (v := 0) hx hb dX10_unit_24 (by decide) ?_
      obtain ⟨x17, t18, hd19⟩ := ex2 (D_X10_isThrown_ (q 0) (q 1) (q 2) (q 3) 1 0)
      replace hR := bnd2_use hd19 hR
      refine call_V (n := 2) (k0 := 0) (As := [.int 1, .int 0]) (rest := []) hX hB (k_X10_isThrown_ κ l (mw κ a r f q (tb a) w) 0 (a 0) (a 1) (q 0) (q 1) (q 2) (q 3) 1 0 (mw0x (a := a) (r := r) (f := f) (q := q) (T := tb a) (w := w) rfl) x17 t18 hd19) ⟨rfl, yk_X10_isThrown_⟩ wm_5_192 wm_5_194 wp_27 wm_1_6 wm_5_195 ⟨Nat.le_of_ble_eq_true rfl, Nat.le_of_ble_eq_true rfl⟩ ⟨Nat.le_of_ble_eq_true rfl, Nat.le_of_ble_eq_true rfl⟩ (mw0x (a := a) (r := r) (f := f) (q := q) (T := tb a) (w := w) rfl) rfl rfl rfl hl.1 rfl (Nat.le_of_ble_eq_true rfl) dX10_unit_25 (fun o w' H locs hp hB => ?_)
      obtain ⟨rfl, hf20, hw9⟩ := hp
      replace hB : Bd κ A s (mw κ a r f (va_up q 3 t18) (tb a) w) H locs := by exact Bd_eq (mwQ3x rfl _) (by rw [hw9] at hB; exact hB)
      obtain rfl : x17 = 1 := hf20.trans (by decide)
      refine W.eq (g2 := F0 m 28 ls [.int 1]) rfl ?_
      refine lv_if_eq (tgt := 35) hx hb dX10_unit_28 (by decide) (fun c21 => False.elim (by revert c21; decide)) (fun _ => ?_)
      refine lv_iconst (v := 0) hx hb dX10_unit_31 (by decide) ?_
      refine lv_goto (tgt := 44) hx hb dX10_unit_32 (by decide) ?_
      rw [← hQ]
      exact end_i hX hB hA3 rfl rfl (by obtain ⟨rfl, rfl, rfl, rfl⟩ := pr4 hR; exact ⟨a, rfl, rfl, hm, rfl, rfl⟩) (Nat.le_of_ble_eq_true rfl) (Nat.le_of_ble_eq_true rfl) dX10_unit_44
  · replace hR := ifn (by decide) hR
    refine W.eq (g2 := F0 m 5 ls [.int 1, .ref (a 0)]) rfl ?_
    refine lv_if_ne (tgt := 12) hx hb dX10_unit_5 (by decide) (fun _ => ?_) (fun c22 => False.elim (by revert c22; decide))
    refine lv_iconst (v := 0) hx hb dX10_unit_12 (by decide) ?_
    refine lv_iload_n hx hb dX10_unit_13 rfl (lv_at hl 2 rfl) ?_
    obtain ⟨z23, hd24⟩ := ex1 (D_X10_isShort z)
    replace hR := bnd1_use hd24 hR
    refine call_S (n := 1) (As := [.int z]) (rest := [.int 0, .ref (a 0)]) hX hB (k_X10_isShort κ l (mw κ a r f q (tb a) w) z z23 hd24) yk_X10_isShort wm_5_189 wm_5_190 wm_1_6 wm_5_191 ⟨Nat.le_of_ble_eq_true rfl, Nat.le_of_ble_eq_true rfl⟩ ⟨Nat.le_of_ble_eq_true rfl, Nat.le_of_ble_eq_true rfl⟩ rfl hl.1 rfl (Nat.le_of_ble_eq_true rfl) dX10_unit_14 (fun o w' H locs hp hB => ?_)
    obtain ⟨rfl, hf25, hw9⟩ := hp
    replace hB : Bd κ A s (mw κ a r f q (tb a) w) H locs := by rw [hw9] at hB; exact hB
    rcases hf25 with rfl | ⟨rfl, hz26a, hz26b, hz26c⟩
    · replace hR := ifp rfl hR
      refine W.eq (g2 := F0 m 17 ls [.int 0, .int 0, .ref (a 0)]) rfl ?_
      refine lv_if_ne (tgt := 24) hx hb dX10_unit_17 (by decide) (fun c27 => False.elim (by revert c27; decide)) (fun _ => ?_)
      refine lv_iconst (v := 1) hx hb dX10_unit_20 (by decide) ?_
      refine lv_goto (tgt := 25) hx hb dX10_unit_21 (by decide) ?_
      obtain ⟨x28, t29, hd30⟩ := ex2 (D_X10_isThrown_ (q 0) (q 1) (q 2) (q 3) 0 1)
      replace hR := bnd2_use hd30 hR
      refine call_V (n := 2) (k0 := 0) (As := [.int 0, .int 1]) (rest := []) hX hB (k_X10_isThrown_ κ l (mw κ a r f q (tb a) w) 0 (a 0) (a 1) (q 0) (q 1) (q 2) (q 3) 0 1 (mw0x (a := a) (r := r) (f := f) (q := q) (T := tb a) (w := w) rfl) x28 t29 hd30) ⟨rfl, yk_X10_isThrown_⟩ wm_5_192 wm_5_194 wp_27 wm_1_6 wm_5_195 ⟨Nat.le_of_ble_eq_true rfl, Nat.le_of_ble_eq_true rfl⟩ ⟨Nat.le_of_ble_eq_true rfl, Nat.le_of_ble_eq_true rfl⟩ (mw0x (a := a) (r := r) (f := f) (q := q) (T := tb a) (w := w) rfl) rfl rfl rfl hl.1 rfl (Nat.le_of_ble_eq_true rfl) dX10_unit_25 (fun o w' H locs hp hB => ?_)
      obtain ⟨rfl, hf31, hw9⟩ := hp
      replace hB : Bd κ A s (mw κ a r f (va_up q 3 t29) (tb a) w) H locs := by exact Bd_eq (mwQ3x rfl _) (by rw [hw9] at hB; exact hB)
      obtain rfl : x28 = 1 := hf31.trans (by decide)
      refine W.eq (g2 := F0 m 28 ls [.int 1]) rfl ?_
      refine lv_if_eq (tgt := 35) hx hb dX10_unit_28 (by decide) (fun c32 => False.elim (by revert c32; decide)) (fun _ => ?_)
      refine lv_iconst (v := 0) hx hb dX10_unit_31 (by decide) ?_
      refine lv_goto (tgt := 44) hx hb dX10_unit_32 (by decide) ?_
      rw [← hQ]
      exact end_i hX hB hA3 rfl rfl (by obtain ⟨rfl, rfl, rfl, rfl⟩ := pr4 hR; exact ⟨a, rfl, rfl, hm, rfl, rfl⟩) (Nat.le_of_ble_eq_true rfl) (Nat.le_of_ble_eq_true rfl) dX10_unit_44
    · replace hR := ifn (by decide) hR
      refine W.eq (g2 := F0 m 17 ls [.int 1, .int 0, .ref (a 0)]) rfl ?_
      refine lv_if_ne (tgt := 24) hx hb dX10_unit_17 (by decide) (fun _ => ?_) (fun c33 => False.elim (by revert c33; decide))
      refine lv_iconst (v := 0) hx hb dX10_unit_24 (by decide) ?_
      obtain ⟨x34, t35, hd36⟩ := ex2 (D_X10_isThrown_ (q 0) (q 1) (q 2) (q 3) 0 0)
      replace hR := bnd2_use hd36 hR
      refine call_V (n := 2) (k0 := 0) (As := [.int 0, .int 0]) (rest := []) hX hB (k_X10_isThrown_ κ l (mw κ a r f q (tb a) w) 0 (a 0) (a 1) (q 0) (q 1) (q 2) (q 3) 0 0 (mw0x (a := a) (r := r) (f := f) (q := q) (T := tb a) (w := w) rfl) x34 t35 hd36) ⟨rfl, yk_X10_isThrown_⟩ wm_5_192 wm_5_194 wp_27 wm_1_6 wm_5_195 ⟨Nat.le_of_ble_eq_true rfl, Nat.le_of_ble_eq_true rfl⟩ ⟨Nat.le_of_ble_eq_true rfl, Nat.le_of_ble_eq_true rfl⟩ (mw0x (a := a) (r := r) (f := f) (q := q) (T := tb a) (w := w) rfl) rfl rfl rfl hl.1 rfl (Nat.le_of_ble_eq_true rfl) dX10_unit_25 (fun o w' H locs hp hB => ?_)
      obtain ⟨rfl, hf37, hw9⟩ := hp
      replace hB : Bd κ A s (mw κ a r f (va_up q 3 t35) (tb a) w) H locs := by exact Bd_eq (mwQ3x rfl _) (by rw [hw9] at hB; exact hB)
      obtain rfl : x34 = 0 := hf37.trans (by decide)
      refine W.eq (g2 := F0 m 28 ls [.int 0]) rfl ?_
      refine lv_if_eq (tgt := 35) hx hb dX10_unit_28 (by decide) (fun _ => ?_) (fun c38 => False.elim (by revert c38; decide))
      refine lv_aload_n hx hb dX10_unit_35 rfl (lv_at hl 0 rfl) ?_
      refine lv_iload_n hx hb dX10_unit_36 rfl (lv_at hl 1 rfl) ?_
      refine lv_iload_n hx hb dX10_unit_37 rfl (lv_at hl 2 rfl) ?_
      obtain ⟨F41, hd42⟩ := ex1 (D_X7_unit ((z).toNatClampNeg))
      replace hR := bnd1_use hd42 hR
      refine call_S (n := 1) (As := [.int z]) (rest := [.int y, .ref (a 0)]) hX hB (k_X7_unit κ l (mw κ a r f (va_up q 3 t35) (tb a) w) z ((z).toNatClampNeg) (nI_rep (by assumption)) (by omega) (by omega) F41 hd42) yk_X7_unit wm_5_216 wm_5_217 wm_1_7 wm_5_218 ⟨Nat.le_of_ble_eq_true rfl, Nat.le_of_ble_eq_true rfl⟩ ⟨Nat.le_of_ble_eq_true rfl, Nat.le_of_ble_eq_true rfl⟩ rfl hl.1 rfl (Nat.le_of_ble_eq_true rfl) dX10_unit_38 (fun o w' H locs hp hB => ?_)
      obtain ⟨q39, q40, rfl, hf43, hw9⟩ := hp
      replace hB : Bd κ A s (lA κ q40 (((z).toNatClampNeg) * 5) F41 :: gO q39 ((z).toNatClampNeg) ((z).toNatClampNeg) q40 :: mw κ a r f (va_up q 3 t35) (tb a) w) H locs := by rw [hw9] at hB; exact hB
      refine W.eq (g2 := F0 m 41 ls [.ref q39, .int y, .ref (a 0)]) rfl ?_
      obtain ⟨x44, rn46, fn47, qn48, hd49⟩ := ex4 (D_X10_lay r f (va_up q 3 t35) y ((z).toNatClampNeg) ((z).toNatClampNeg) F41)
      replace hR := bnd4_use hd49 hR
      refine call_V (n := 2) (k0 := 2) (As := [.int y, .ref q39]) (rest := []) hX hB (k_X10_lay κ l w a r f (va_up q 3 t35) y q39 q40 ((z).toNatClampNeg) ((z).toNatClampNeg) F41 hm ⟨by omega, by omega, by omega, by omega⟩ (by assumption) (by assumption) (fun k _ => sm_01 (hf43 k)) x44 rn46 fn47 qn48 hd49) ⟨rfl, yk_X10_lay⟩ wm_5_200 wm_5_202 wp_29 wm_1_6 wm_5_203 ⟨Nat.le_of_ble_eq_true rfl, Nat.le_of_ble_eq_true rfl⟩ ⟨Nat.le_of_ble_eq_true rfl, Nat.le_of_ble_eq_true rfl⟩ (mw0x (a := a) (r := r) (f := f) (q := (va_up q 3 t35)) (T := tb a) (w := w) rfl) rfl rfl rfl hl.1 rfl (Nat.le_of_ble_eq_true rfl) dX10_unit_41 (fun o w' H locs hp hB => ?_)
      obtain ⟨an45, rfl, hf50, hf51, hf52, hw9⟩ := hp
      replace hB : Bd κ A s (mw κ an45 rn46 fn47 qn48 (tb an45) w) H locs := by rw [hw9] at hB; exact hB
      refine W.eq (g2 := F0 m 44 ls [.int x44]) rfl ?_
      rw [← hQ]
      exact end_i hX hB hA3 rfl rfl (by obtain ⟨rfl, rfl, rfl, rfl⟩ := pr4 hR; exact ⟨an45, rfl, (hf50.trans rfl), hf51, (hf52.trans rfl), rfl⟩) (Nat.le_of_ble_eq_true rfl) (Nat.le_of_ble_eq_true rfl) dX10_unit_44
noncomputable def D_X10_put (r : Nat → Nat) (f : Nat → Nat → Int64) (q : Nat → Int32) (y : Int32) (z : Int32) (u : Int32) (v : Int32) : Int32 × (Nat → Nat) × (Nat → Nat → Int64) × (Nat → Int32) := bnd1 (D_X10_isRow r f q y z) (fun (x1 : Int32) => (if x1 = 0 then (if v < (-20) then bnd2 (D_X10_isThrown_ (q 0) (q 1) (q 2) (q 3) 1 1) (fun (x7 : Int32) (t8 : Int32) => (0, r, f, va_up q 3 t8)) else (if v ≤ 20 then bnd2 (D_X10_isThrown_ (q 0) (q 1) (q 2) (q 3) 1 0) (fun (x13 : Int32) (t14 : Int32) => (0, r, f, va_up q 3 t14)) else bnd2 (D_X10_isThrown_ (q 0) (q 1) (q 2) (q 3) 1 1) (fun (x18 : Int32) (t19 : Int32) => (0, r, f, va_up q 3 t19)))) else bnd1 (D_X10_isColumn r f q y u) (fun (x24 : Int32) => (if x24 = 0 then (if v < (-20) then bnd2 (D_X10_isThrown_ (q 0) (q 1) (q 2) (q 3) 1 1) (fun (x30 : Int32) (t31 : Int32) => (0, r, f, va_up q 3 t31)) else (if v ≤ 20 then bnd2 (D_X10_isThrown_ (q 0) (q 1) (q 2) (q 3) 1 0) (fun (x36 : Int32) (t37 : Int32) => (0, r, f, va_up q 3 t37)) else bnd2 (D_X10_isThrown_ (q 0) (q 1) (q 2) (q 3) 1 1) (fun (x41 : Int32) (t42 : Int32) => (0, r, f, va_up q 3 t42)))) else (if v < (-20) then bnd2 (D_X10_isThrown_ (q 0) (q 1) (q 2) (q 3) 0 1) (fun (x48 : Int32) (t49 : Int32) => (0, r, f, va_up q 3 t49)) else (if v ≤ 20 then bnd2 (D_X10_isThrown_ (q 0) (q 1) (q 2) (q 3) 0 0) (fun (x54 : Int32) (t55 : Int32) => (if (lg_cmp ((f y.toNatClampNeg) (((z).toNatClampNeg) * 5 + ((u).toNatClampNeg))) ((v).toInt64)) = 0 then (0, r, va_up f y.toNatClampNeg (vp_updL (f y.toNatClampNeg) (((z).toNatClampNeg) * 5 + ((u).toNatClampNeg)) ((v).toInt64)), va_up (va_up q 3 t55) 0 (((va_up q 3 t55) 0) + 1)) else (1, r, va_up f y.toNatClampNeg (vp_updL (f y.toNatClampNeg) (((z).toNatClampNeg) * 5 + ((u).toNatClampNeg)) ((v).toInt64)), va_up (va_up q 3 t55) 0 (((va_up q 3 t55) 0) + 1)))) else bnd2 (D_X10_isThrown_ (q 0) (q 1) (q 2) (q 3) 0 1) (fun (x65 : Int32) (t66 : Int32) => (0, r, f, va_up q 3 t66))))))))
theorem D_X10_put_s {r : Nat → Nat} {f : Nat → Nat → Int64} {q : Nat → Int32} {y : Int32} {z : Int32} {u : Int32} {v : Int32} : D_X10_put r f q y z u v = bnd1 (D_X10_isRow r f q y z) (fun (x1 : Int32) => (if x1 = 0 then (if v < (-20) then bnd2 (D_X10_isThrown_ (q 0) (q 1) (q 2) (q 3) 1 1) (fun (x7 : Int32) (t8 : Int32) => (0, r, f, va_up q 3 t8)) else (if v ≤ 20 then bnd2 (D_X10_isThrown_ (q 0) (q 1) (q 2) (q 3) 1 0) (fun (x13 : Int32) (t14 : Int32) => (0, r, f, va_up q 3 t14)) else bnd2 (D_X10_isThrown_ (q 0) (q 1) (q 2) (q 3) 1 1) (fun (x18 : Int32) (t19 : Int32) => (0, r, f, va_up q 3 t19)))) else bnd1 (D_X10_isColumn r f q y u) (fun (x24 : Int32) => (if x24 = 0 then (if v < (-20) then bnd2 (D_X10_isThrown_ (q 0) (q 1) (q 2) (q 3) 1 1) (fun (x30 : Int32) (t31 : Int32) => (0, r, f, va_up q 3 t31)) else (if v ≤ 20 then bnd2 (D_X10_isThrown_ (q 0) (q 1) (q 2) (q 3) 1 0) (fun (x36 : Int32) (t37 : Int32) => (0, r, f, va_up q 3 t37)) else bnd2 (D_X10_isThrown_ (q 0) (q 1) (q 2) (q 3) 1 1) (fun (x41 : Int32) (t42 : Int32) => (0, r, f, va_up q 3 t42)))) else (if v < (-20) then bnd2 (D_X10_isThrown_ (q 0) (q 1) (q 2) (q 3) 0 1) (fun (x48 : Int32) (t49 : Int32) => (0, r, f, va_up q 3 t49)) else (if v ≤ 20 then bnd2 (D_X10_isThrown_ (q 0) (q 1) (q 2) (q 3) 0 0) (fun (x54 : Int32) (t55 : Int32) => (if (lg_cmp ((f y.toNatClampNeg) (((z).toNatClampNeg) * 5 + ((u).toNatClampNeg))) ((v).toInt64)) = 0 then (0, r, va_up f y.toNatClampNeg (vp_updL (f y.toNatClampNeg) (((z).toNatClampNeg) * 5 + ((u).toNatClampNeg)) ((v).toInt64)), va_up (va_up q 3 t55) 0 (((va_up q 3 t55) 0) + 1)) else (1, r, va_up f y.toNatClampNeg (vp_updL (f y.toNatClampNeg) (((z).toNatClampNeg) * 5 + ((u).toNatClampNeg)) ((v).toInt64)), va_up (va_up q 3 t55) 0 (((va_up q 3 t55) 0) + 1)))) else bnd2 (D_X10_isThrown_ (q 0) (q 1) (q 2) (q 3) 0 1) (fun (x65 : Int32) (t66 : Int32) => (0, r, f, va_up q 3 t66)))))))) := rfl
set_option maxHeartbeats 4000000 in
set_option maxRecDepth 100000 in
theorem k_X10_put (κ : Kt) (l : Launch) (w : va_W) (a r : Nat → Nat) (f : Nat → Nat → Int64) (q : Nat → Int32) (y : Int32) (z : Int32) (u : Int32) (v : Int32) (hm : mok r f) (o_x : Int32) (o_r' : Nat → Nat) (o_f' : Nat → Nat → Int64) (o_q' : Nat → Int32) (hR : D_X10_put r f q y z u v = (o_x, o_r', o_f', o_q')) : CM κ l yX10_put cX10_put 6 (some .int) 2 45 0 0 [.ref (a 0), .int y, .int z, .int u, .int v] (mw κ a r f q (tb a) w) (fun o w' => ∃ (a' : Nat → Nat), o = some (.int o_x) ∧ (a' 0 = a 0) ∧ (mok o_r' o_f') ∧ (o_q' 2 = q 2) ∧ w' = mw κ a' o_r' o_f' o_q' (tb a') w) := by
  refine CM_begin (plainFor_of_name pn_RX10) (Nat.le_of_ble_eq_true rfl) ?_
  intro p e s m args below meth c A Q hX hnm hA3 hQ hB ls hl
  have hx := hX.1.1
  have hb := hX.1.2.1
  have hl : lv_has ls 6 [(0, .ref (a 0)), (1, .int y), (2, .int z), (3, .int u), (4, .int v)] := hl
  replace hR := (D_X10_put_s).symm.trans hR
  refine lv_aload_n hx hb dX10_put_0 rfl (lv_at hl 0 rfl) ?_
  refine lv_aload_n hx hb dX10_put_1 rfl (lv_at hl 0 rfl) ?_
  refine lv_iload_n hx hb dX10_put_2 rfl (lv_at hl 1 rfl) ?_
  refine lv_iload_n hx hb dX10_put_3 rfl (lv_at hl 2 rfl) ?_
  obtain ⟨x1, hd2⟩ := ex1 (D_X10_isRow r f q y z)
  replace hR := bnd1_use hd2 hR
  refine call_V (n := 2) (k0 := 0) (As := [.int y, .int z]) (rest := [.ref (a 0)]) hX hB (k_X10_isRow κ l w a r f q y z hm x1 hd2) ⟨rfl, yk_X10_isRow⟩ wm_5_229 wm_5_231 wp_31 wm_1_6 wm_5_232 ⟨Nat.le_of_ble_eq_true rfl, Nat.le_of_ble_eq_true rfl⟩ ⟨Nat.le_of_ble_eq_true rfl, Nat.le_of_ble_eq_true rfl⟩ (mw0x (a := a) (r := r) (f := f) (q := q) (T := tb a) (w := w) rfl) rfl rfl rfl hl.1 rfl (Nat.le_of_ble_eq_true rfl) dX10_put_4 (fun o w' H locs hp hB => ?_)
  obtain ⟨rfl, hf3, hw9⟩ := hp
  replace hB : Bd κ A s (mw κ a r f q (tb a) w) H locs := by rw [hw9] at hB; exact hB
  rcases hf3 with rfl | ⟨rfl, hz4a, hz4b, hz4c, hz4d⟩
  · replace hR := ifp rfl hR
    refine W.eq (g2 := F0 m 7 ls [.int 0, .ref (a 0)]) rfl ?_
    refine lv_if_eq (tgt := 19) hx hb dX10_put_7 (by decide) (fun _ => ?_) (fun c5 => False.elim (by revert c5; decide))
    refine lv_iconst (v := 1) hx hb dX10_put_19 (by decide) ?_
    refine lv_goto (tgt := 24) hx hb dX10_put_20 (by decide) ?_
    refine lv_iload hx hb dX10_put_24 (lv_at hl 4 rfl) ?_
    refine lv_bipush (v := (-20)) hx hb dX10_put_26 (by decide) ?_
    refine lv_icmp_lt (tgt := 38) hx hb dX10_put_28 (by decide) (fun c6 => ?_) (fun c6 => ?_)
    · replace hR := ifp c6 hR
      refine lv_iconst (v := 1) hx hb dX10_put_38 (by decide) ?_
      refine lv_goto (tgt := 43) hx hb dX10_put_39 (by decide) ?_
      obtain ⟨x7, t8, hd9⟩ := ex2 (D_X10_isThrown_ (q 0) (q 1) (q 2) (q 3) 1 1)
      replace hR := bnd2_use hd9 hR
      refine call_V (n := 2) (k0 := 0) (As := [.int 1, .int 1]) (rest := []) hX hB (k_X10_isThrown_ κ l (mw κ a r f q (tb a) w) 0 (a 0) (a 1) (q 0) (q 1) (q 2) (q 3) 1 1 (mw0x (a := a) (r := r) (f := f) (q := q) (T := tb a) (w := w) rfl) x7 t8 hd9) ⟨rfl, yk_X10_isThrown_⟩ wm_5_192 wm_5_194 wp_27 wm_1_6 wm_5_195 ⟨Nat.le_of_ble_eq_true rfl, Nat.le_of_ble_eq_true rfl⟩ ⟨Nat.le_of_ble_eq_true rfl, Nat.le_of_ble_eq_true rfl⟩ (mw0x (a := a) (r := r) (f := f) (q := q) (T := tb a) (w := w) rfl) rfl rfl rfl hl.1 rfl (Nat.le_of_ble_eq_true rfl) dX10_put_43 (fun o w' H locs hp hB => ?_)
      obtain ⟨rfl, hf10, hw9⟩ := hp
      replace hB : Bd κ A s (mw κ a r f (va_up q 3 t8) (tb a) w) H locs := by exact Bd_eq (mwQ3x rfl _) (by rw [hw9] at hB; exact hB)
      obtain rfl : x7 = 1 := hf10.trans (by decide)
      refine W.eq (g2 := F0 m 46 ls [.int 1]) rfl ?_
      refine lv_if_eq (tgt := 51) hx hb dX10_put_46 (by decide) (fun c11 => False.elim (by revert c11; decide)) (fun _ => ?_)
      refine lv_iconst (v := 0) hx hb dX10_put_49 (by decide) ?_
      rw [← hQ]
      exact end_i hX hB hA3 rfl rfl (by obtain ⟨rfl, rfl, rfl, rfl⟩ := pr4 hR; exact ⟨a, rfl, rfl, hm, rfl, rfl⟩) (Nat.le_of_ble_eq_true rfl) (Nat.le_of_ble_eq_true rfl) dX10_put_50
    · replace hR := ifn c6 hR
      refine lv_iload hx hb dX10_put_31 (lv_at hl 4 rfl) ?_
      refine lv_bipush (v := 20) hx hb dX10_put_33 (by decide) ?_
      refine lv_icmp_le (tgt := 42) hx hb dX10_put_35 (by decide) (fun c12 => ?_) (fun c12 => ?_)
      · replace hR := ifp c12 hR
        refine lv_iconst (v := 0) hx hb dX10_put_42 (by decide) ?_
        obtain ⟨x13, t14, hd15⟩ := ex2 (D_X10_isThrown_ (q 0) (q 1) (q 2) (q 3) 1 0)
        replace hR := bnd2_use hd15 hR
        refine call_V (n := 2) (k0 := 0) (As := [.int 1, .int 0]) (rest := []) hX hB (k_X10_isThrown_ κ l (mw κ a r f q (tb a) w) 0 (a 0) (a 1) (q 0) (q 1) (q 2) (q 3) 1 0 (mw0x (a := a) (r := r) (f := f) (q := q) (T := tb a) (w := w) rfl) x13 t14 hd15) ⟨rfl, yk_X10_isThrown_⟩ wm_5_192 wm_5_194 wp_27 wm_1_6 wm_5_195 ⟨Nat.le_of_ble_eq_true rfl, Nat.le_of_ble_eq_true rfl⟩ ⟨Nat.le_of_ble_eq_true rfl, Nat.le_of_ble_eq_true rfl⟩ (mw0x (a := a) (r := r) (f := f) (q := q) (T := tb a) (w := w) rfl) rfl rfl rfl hl.1 rfl (Nat.le_of_ble_eq_true rfl) dX10_put_43 (fun o w' H locs hp hB => ?_)
        obtain ⟨rfl, hf16, hw9⟩ := hp
        replace hB : Bd κ A s (mw κ a r f (va_up q 3 t14) (tb a) w) H locs := by exact Bd_eq (mwQ3x rfl _) (by rw [hw9] at hB; exact hB)
        obtain rfl : x13 = 1 := hf16.trans (by decide)
        refine W.eq (g2 := F0 m 46 ls [.int 1]) rfl ?_
        refine lv_if_eq (tgt := 51) hx hb dX10_put_46 (by decide) (fun c17 => False.elim (by revert c17; decide)) (fun _ => ?_)
        refine lv_iconst (v := 0) hx hb dX10_put_49 (by decide) ?_
        rw [← hQ]
        exact end_i hX hB hA3 rfl rfl (by obtain ⟨rfl, rfl, rfl, rfl⟩ := pr4 hR; exact ⟨a, rfl, rfl, hm, rfl, rfl⟩) (Nat.le_of_ble_eq_true rfl) (Nat.le_of_ble_eq_true rfl) dX10_put_50
      · replace hR := ifn c12 hR
        refine lv_iconst (v := 1) hx hb dX10_put_38 (by decide) ?_
        refine lv_goto (tgt := 43) hx hb dX10_put_39 (by decide) ?_
        obtain ⟨x18, t19, hd20⟩ := ex2 (D_X10_isThrown_ (q 0) (q 1) (q 2) (q 3) 1 1)
        replace hR := bnd2_use hd20 hR
        refine call_V (n := 2) (k0 := 0) (As := [.int 1, .int 1]) (rest := []) hX hB (k_X10_isThrown_ κ l (mw κ a r f q (tb a) w) 0 (a 0) (a 1) (q 0) (q 1) (q 2) (q 3) 1 1 (mw0x (a := a) (r := r) (f := f) (q := q) (T := tb a) (w := w) rfl) x18 t19 hd20) ⟨rfl, yk_X10_isThrown_⟩ wm_5_192 wm_5_194 wp_27 wm_1_6 wm_5_195 ⟨Nat.le_of_ble_eq_true rfl, Nat.le_of_ble_eq_true rfl⟩ ⟨Nat.le_of_ble_eq_true rfl, Nat.le_of_ble_eq_true rfl⟩ (mw0x (a := a) (r := r) (f := f) (q := q) (T := tb a) (w := w) rfl) rfl rfl rfl hl.1 rfl (Nat.le_of_ble_eq_true rfl) dX10_put_43 (fun o w' H locs hp hB => ?_)
        obtain ⟨rfl, hf21, hw9⟩ := hp
        replace hB : Bd κ A s (mw κ a r f (va_up q 3 t19) (tb a) w) H locs := by exact Bd_eq (mwQ3x rfl _) (by rw [hw9] at hB; exact hB)
        obtain rfl : x18 = 1 := hf21.trans (by decide)
        refine W.eq (g2 := F0 m 46 ls [.int 1]) rfl ?_
        refine lv_if_eq (tgt := 51) hx hb dX10_put_46 (by decide) (fun c22 => False.elim (by revert c22; decide)) (fun _ => ?_)
        refine lv_iconst (v := 0) hx hb dX10_put_49 (by decide) ?_
        rw [← hQ]
        exact end_i hX hB hA3 rfl rfl (by obtain ⟨rfl, rfl, rfl, rfl⟩ := pr4 hR; exact ⟨a, rfl, rfl, hm, rfl, rfl⟩) (Nat.le_of_ble_eq_true rfl) (Nat.le_of_ble_eq_true rfl) dX10_put_50
  · replace hR := ifn (by decide) hR
    refine W.eq (g2 := F0 m 7 ls [.int 1, .ref (a 0)]) rfl ?_
    refine lv_if_eq (tgt := 19) hx hb dX10_put_7 (by decide) (fun c23 => False.elim (by revert c23; decide)) (fun _ => ?_)
    refine lv_aload_n hx hb dX10_put_10 rfl (lv_at hl 0 rfl) ?_
    refine lv_iload_n hx hb dX10_put_11 rfl (lv_at hl 1 rfl) ?_
    refine lv_iload_n hx hb dX10_put_12 rfl (lv_at hl 3 rfl) ?_
    obtain ⟨x24, hd25⟩ := ex1 (D_X10_isColumn r f q y u)
    replace hR := bnd1_use hd25 hR
    refine call_V (n := 2) (k0 := 0) (As := [.int y, .int u]) (rest := [.ref (a 0)]) hX hB (k_X10_isColumn κ l w a r f q y u hm x24 hd25) ⟨rfl, yk_X10_isColumn⟩ wm_5_233 wm_5_235 wp_32 wm_1_6 wm_5_236 ⟨Nat.le_of_ble_eq_true rfl, Nat.le_of_ble_eq_true rfl⟩ ⟨Nat.le_of_ble_eq_true rfl, Nat.le_of_ble_eq_true rfl⟩ (mw0x (a := a) (r := r) (f := f) (q := q) (T := tb a) (w := w) rfl) rfl rfl rfl hl.1 rfl (Nat.le_of_ble_eq_true rfl) dX10_put_13 (fun o w' H locs hp hB => ?_)
    obtain ⟨rfl, hf26, hw9⟩ := hp
    replace hB : Bd κ A s (mw κ a r f q (tb a) w) H locs := by rw [hw9] at hB; exact hB
    rcases hf26 with rfl | ⟨rfl, hz27a, hz27b, hz27c, hz27d⟩
    · replace hR := ifp rfl hR
      refine W.eq (g2 := F0 m 16 ls [.int 0, .ref (a 0)]) rfl ?_
      refine lv_if_ne (tgt := 23) hx hb dX10_put_16 (by decide) (fun c28 => False.elim (by revert c28; decide)) (fun _ => ?_)
      refine lv_iconst (v := 1) hx hb dX10_put_19 (by decide) ?_
      refine lv_goto (tgt := 24) hx hb dX10_put_20 (by decide) ?_
      refine lv_iload hx hb dX10_put_24 (lv_at hl 4 rfl) ?_
      refine lv_bipush (v := (-20)) hx hb dX10_put_26 (by decide) ?_
      refine lv_icmp_lt (tgt := 38) hx hb dX10_put_28 (by decide) (fun c29 => ?_) (fun c29 => ?_)
      · replace hR := ifp c29 hR
        refine lv_iconst (v := 1) hx hb dX10_put_38 (by decide) ?_
        refine lv_goto (tgt := 43) hx hb dX10_put_39 (by decide) ?_
        obtain ⟨x30, t31, hd32⟩ := ex2 (D_X10_isThrown_ (q 0) (q 1) (q 2) (q 3) 1 1)
        replace hR := bnd2_use hd32 hR
        refine call_V (n := 2) (k0 := 0) (As := [.int 1, .int 1]) (rest := []) hX hB (k_X10_isThrown_ κ l (mw κ a r f q (tb a) w) 0 (a 0) (a 1) (q 0) (q 1) (q 2) (q 3) 1 1 (mw0x (a := a) (r := r) (f := f) (q := q) (T := tb a) (w := w) rfl) x30 t31 hd32) ⟨rfl, yk_X10_isThrown_⟩ wm_5_192 wm_5_194 wp_27 wm_1_6 wm_5_195 ⟨Nat.le_of_ble_eq_true rfl, Nat.le_of_ble_eq_true rfl⟩ ⟨Nat.le_of_ble_eq_true rfl, Nat.le_of_ble_eq_true rfl⟩ (mw0x (a := a) (r := r) (f := f) (q := q) (T := tb a) (w := w) rfl) rfl rfl rfl hl.1 rfl (Nat.le_of_ble_eq_true rfl) dX10_put_43 (fun o w' H locs hp hB => ?_)
        obtain ⟨rfl, hf33, hw9⟩ := hp
        replace hB : Bd κ A s (mw κ a r f (va_up q 3 t31) (tb a) w) H locs := by exact Bd_eq (mwQ3x rfl _) (by rw [hw9] at hB; exact hB)
        obtain rfl : x30 = 1 := hf33.trans (by decide)
        refine W.eq (g2 := F0 m 46 ls [.int 1]) rfl ?_
        refine lv_if_eq (tgt := 51) hx hb dX10_put_46 (by decide) (fun c34 => False.elim (by revert c34; decide)) (fun _ => ?_)
        refine lv_iconst (v := 0) hx hb dX10_put_49 (by decide) ?_
        rw [← hQ]
        exact end_i hX hB hA3 rfl rfl (by obtain ⟨rfl, rfl, rfl, rfl⟩ := pr4 hR; exact ⟨a, rfl, rfl, hm, rfl, rfl⟩) (Nat.le_of_ble_eq_true rfl) (Nat.le_of_ble_eq_true rfl) dX10_put_50
      · replace hR := ifn c29 hR
        refine lv_iload hx hb dX10_put_31 (lv_at hl 4 rfl) ?_
        refine lv_bipush (v := 20) hx hb dX10_put_33 (by decide) ?_
        refine lv_icmp_le (tgt := 42) hx hb dX10_put_35 (by decide) (fun c35 => ?_) (fun c35 => ?_)
        · replace hR := ifp c35 hR
          refine lv_iconst (v := 0) hx hb dX10_put_42 (by decide) ?_
          obtain ⟨x36, t37, hd38⟩ := ex2 (D_X10_isThrown_ (q 0) (q 1) (q 2) (q 3) 1 0)
          replace hR := bnd2_use hd38 hR
          refine call_V (n := 2) (k0 := 0) (As := [.int 1, .int 0]) (rest := []) hX hB (k_X10_isThrown_ κ l (mw κ a r f q (tb a) w) 0 (a 0) (a 1) (q 0) (q 1) (q 2) (q 3) 1 0 (mw0x (a := a) (r := r) (f := f) (q := q) (T := tb a) (w := w) rfl) x36 t37 hd38) ⟨rfl, yk_X10_isThrown_⟩ wm_5_192 wm_5_194 wp_27 wm_1_6 wm_5_195 ⟨Nat.le_of_ble_eq_true rfl, Nat.le_of_ble_eq_true rfl⟩ ⟨Nat.le_of_ble_eq_true rfl, Nat.le_of_ble_eq_true rfl⟩ (mw0x (a := a) (r := r) (f := f) (q := q) (T := tb a) (w := w) rfl) rfl rfl rfl hl.1 rfl (Nat.le_of_ble_eq_true rfl) dX10_put_43 (fun o w' H locs hp hB => ?_)
          obtain ⟨rfl, hf39, hw9⟩ := hp
          replace hB : Bd κ A s (mw κ a r f (va_up q 3 t37) (tb a) w) H locs := by exact Bd_eq (mwQ3x rfl _) (by rw [hw9] at hB; exact hB)
          obtain rfl : x36 = 1 := hf39.trans (by decide)
          refine W.eq (g2 := F0 m 46 ls [.int 1]) rfl ?_
          refine lv_if_eq (tgt := 51) hx hb dX10_put_46 (by decide) (fun c40 => False.elim (by revert c40; decide)) (fun _ => ?_)
          refine lv_iconst (v := 0) hx hb dX10_put_49 (by decide) ?_
          rw [← hQ]
          exact end_i hX hB hA3 rfl rfl (by obtain ⟨rfl, rfl, rfl, rfl⟩ := pr4 hR; exact ⟨a, rfl, rfl, hm, rfl, rfl⟩) (Nat.le_of_ble_eq_true rfl) (Nat.le_of_ble_eq_true rfl) dX10_put_50
        · replace hR := ifn c35 hR
          refine lv_iconst (v := 1) hx hb dX10_put_38 (by decide) ?_
          refine lv_goto (tgt := 43) hx hb dX10_put_39 (by decide) ?_
          obtain ⟨x41, t42, hd43⟩ := ex2 (D_X10_isThrown_ (q 0) (q 1) (q 2) (q 3) 1 1)
          replace hR := bnd2_use hd43 hR
          refine call_V (n := 2) (k0 := 0) (As := [.int 1, .int 1]) (rest := []) hX hB (k_X10_isThrown_ κ l (mw κ a r f q (tb a) w) 0 (a 0) (a 1) (q 0) (q 1) (q 2) (q 3) 1 1 (mw0x (a := a) (r := r) (f := f) (q := q) (T := tb a) (w := w) rfl) x41 t42 hd43) ⟨rfl, yk_X10_isThrown_⟩ wm_5_192 wm_5_194 wp_27 wm_1_6 wm_5_195 ⟨Nat.le_of_ble_eq_true rfl, Nat.le_of_ble_eq_true rfl⟩ ⟨Nat.le_of_ble_eq_true rfl, Nat.le_of_ble_eq_true rfl⟩ (mw0x (a := a) (r := r) (f := f) (q := q) (T := tb a) (w := w) rfl) rfl rfl rfl hl.1 rfl (Nat.le_of_ble_eq_true rfl) dX10_put_43 (fun o w' H locs hp hB => ?_)
          obtain ⟨rfl, hf44, hw9⟩ := hp
          replace hB : Bd κ A s (mw κ a r f (va_up q 3 t42) (tb a) w) H locs := by exact Bd_eq (mwQ3x rfl _) (by rw [hw9] at hB; exact hB)
          obtain rfl : x41 = 1 := hf44.trans (by decide)
          refine W.eq (g2 := F0 m 46 ls [.int 1]) rfl ?_
          refine lv_if_eq (tgt := 51) hx hb dX10_put_46 (by decide) (fun c45 => False.elim (by revert c45; decide)) (fun _ => ?_)
          refine lv_iconst (v := 0) hx hb dX10_put_49 (by decide) ?_
          rw [← hQ]
          exact end_i hX hB hA3 rfl rfl (by obtain ⟨rfl, rfl, rfl, rfl⟩ := pr4 hR; exact ⟨a, rfl, rfl, hm, rfl, rfl⟩) (Nat.le_of_ble_eq_true rfl) (Nat.le_of_ble_eq_true rfl) dX10_put_50
    · replace hR := ifn (by decide) hR
      refine W.eq (g2 := F0 m 16 ls [.int 1, .ref (a 0)]) rfl ?_
      refine lv_if_ne (tgt := 23) hx hb dX10_put_16 (by decide) (fun _ => ?_) (fun c46 => False.elim (by revert c46; decide))
      refine lv_iconst (v := 0) hx hb dX10_put_23 (by decide) ?_
      refine lv_iload hx hb dX10_put_24 (lv_at hl 4 rfl) ?_
      refine lv_bipush (v := (-20)) hx hb dX10_put_26 (by decide) ?_
      refine lv_icmp_lt (tgt := 38) hx hb dX10_put_28 (by decide) (fun c47 => ?_) (fun c47 => ?_)
      · replace hR := ifp c47 hR
        refine lv_iconst (v := 1) hx hb dX10_put_38 (by decide) ?_
        refine lv_goto (tgt := 43) hx hb dX10_put_39 (by decide) ?_
        obtain ⟨x48, t49, hd50⟩ := ex2 (D_X10_isThrown_ (q 0) (q 1) (q 2) (q 3) 0 1)
        replace hR := bnd2_use hd50 hR
        refine call_V (n := 2) (k0 := 0) (As := [.int 0, .int 1]) (rest := []) hX hB (k_X10_isThrown_ κ l (mw κ a r f q (tb a) w) 0 (a 0) (a 1) (q 0) (q 1) (q 2) (q 3) 0 1 (mw0x (a := a) (r := r) (f := f) (q := q) (T := tb a) (w := w) rfl) x48 t49 hd50) ⟨rfl, yk_X10_isThrown_⟩ wm_5_192 wm_5_194 wp_27 wm_1_6 wm_5_195 ⟨Nat.le_of_ble_eq_true rfl, Nat.le_of_ble_eq_true rfl⟩ ⟨Nat.le_of_ble_eq_true rfl, Nat.le_of_ble_eq_true rfl⟩ (mw0x (a := a) (r := r) (f := f) (q := q) (T := tb a) (w := w) rfl) rfl rfl rfl hl.1 rfl (Nat.le_of_ble_eq_true rfl) dX10_put_43 (fun o w' H locs hp hB => ?_)
        obtain ⟨rfl, hf51, hw9⟩ := hp
        replace hB : Bd κ A s (mw κ a r f (va_up q 3 t49) (tb a) w) H locs := by exact Bd_eq (mwQ3x rfl _) (by rw [hw9] at hB; exact hB)
        obtain rfl : x48 = 1 := hf51.trans (by decide)
        refine W.eq (g2 := F0 m 46 ls [.int 1]) rfl ?_
        refine lv_if_eq (tgt := 51) hx hb dX10_put_46 (by decide) (fun c52 => False.elim (by revert c52; decide)) (fun _ => ?_)
        refine lv_iconst (v := 0) hx hb dX10_put_49 (by decide) ?_
        rw [← hQ]
        exact end_i hX hB hA3 rfl rfl (by obtain ⟨rfl, rfl, rfl, rfl⟩ := pr4 hR; exact ⟨a, rfl, rfl, hm, rfl, rfl⟩) (Nat.le_of_ble_eq_true rfl) (Nat.le_of_ble_eq_true rfl) dX10_put_50
      · replace hR := ifn c47 hR
        refine lv_iload hx hb dX10_put_31 (lv_at hl 4 rfl) ?_
        refine lv_bipush (v := 20) hx hb dX10_put_33 (by decide) ?_
        refine lv_icmp_le (tgt := 42) hx hb dX10_put_35 (by decide) (fun c53 => ?_) (fun c53 => ?_)
        · replace hR := ifp c53 hR
          refine lv_iconst (v := 0) hx hb dX10_put_42 (by decide) ?_
          obtain ⟨x54, t55, hd56⟩ := ex2 (D_X10_isThrown_ (q 0) (q 1) (q 2) (q 3) 0 0)
          replace hR := bnd2_use hd56 hR
          refine call_V (n := 2) (k0 := 0) (As := [.int 0, .int 0]) (rest := []) hX hB (k_X10_isThrown_ κ l (mw κ a r f q (tb a) w) 0 (a 0) (a 1) (q 0) (q 1) (q 2) (q 3) 0 0 (mw0x (a := a) (r := r) (f := f) (q := q) (T := tb a) (w := w) rfl) x54 t55 hd56) ⟨rfl, yk_X10_isThrown_⟩ wm_5_192 wm_5_194 wp_27 wm_1_6 wm_5_195 ⟨Nat.le_of_ble_eq_true rfl, Nat.le_of_ble_eq_true rfl⟩ ⟨Nat.le_of_ble_eq_true rfl, Nat.le_of_ble_eq_true rfl⟩ (mw0x (a := a) (r := r) (f := f) (q := q) (T := tb a) (w := w) rfl) rfl rfl rfl hl.1 rfl (Nat.le_of_ble_eq_true rfl) dX10_put_43 (fun o w' H locs hp hB => ?_)
          obtain ⟨rfl, hf57, hw9⟩ := hp
          replace hB : Bd κ A s (mw κ a r f (va_up q 3 t55) (tb a) w) H locs := by exact Bd_eq (mwQ3x rfl _) (by rw [hw9] at hB; exact hB)
          obtain rfl : x54 = 0 := hf57.trans (by decide)
          refine W.eq (g2 := F0 m 46 ls [.int 0]) rfl ?_
          refine lv_if_eq (tgt := 51) hx hb dX10_put_46 (by decide) (fun _ => ?_) (fun c58 => False.elim (by revert c58; decide))
          refine lv_aload_n hx hb dX10_put_51 rfl (lv_at hl 0 rfl) ?_
          refine gf (k0 := 0) hX hB (mw0x (a := a) (r := r) (f := f) (q := (va_up q 3 t55)) (T := tb a) (w := w) rfl) rfl in10 0 (by decide) wm_5_162 rfl rfl dX10_put_52 ?_
          refine lv_iload_n hx hb dX10_put_55 rfl (lv_at hl 1 rfl) ?_
          refine aaldM (k0 := 1) hX hB (mw1 (a := a) (r := r) (f := f) (q := (va_up q 3 t55)) (T := tb a) (w := w)) (vp_in_mk (by assumption) (by assumption)) rfl dX10_put_56 ?_
          have hb59 := mok_r hm y.toNatClampNeg (by omega)
          refine lv_iload_n hx hb dX10_put_57 rfl (lv_at hl 2 rfl) ?_
          refine lv_iload_n hx hb dX10_put_58 rfl (lv_at hl 3 rfl) ?_
          refine call_V (n := 2) (k0 := (2 + 2 * y.toNatClampNeg)) (As := [.int z, .int u]) (rest := []) hX hB (k_X7_at κ l (mw κ a r f (va_up q 3 t55) (tb a) w) (2 + 2 * y.toNatClampNeg) (3 + 2 * y.toNatClampNeg) (a (2 + 2 * y.toNatClampNeg)) (a (3 + 2 * y.toNatClampNeg)) (r (2 * y.toNatClampNeg)) (r (2 * y.toNatClampNeg + 1)) (f y.toNatClampNeg) z ((z).toNatClampNeg) u ((u).toNatClampNeg) (mwG (i := y.toNatClampNeg) (a := a) (r := r) (f := f) (q := (va_up q 3 t55)) (T := tb a) (w := w) (by omega)) (mwA (i := y.toNatClampNeg) (a := a) (r := r) (f := f) (q := (va_up q 3 t55)) (T := tb a) (w := w) (by omega)) (mok_shp (i := y.toNatClampNeg) hm (by omega)) (nI_rep (by assumption)) (nI_rep (by assumption)) (by omega)) ⟨rfl, yk_X7_at⟩ wm_5_237 wm_5_238 wm_5_239 wm_1_7 wm_6_0 ⟨Nat.le_of_ble_eq_true rfl, Nat.le_of_ble_eq_true rfl⟩ ⟨Nat.le_of_ble_eq_true rfl, Nat.le_of_ble_eq_true rfl⟩ (mwG (i := y.toNatClampNeg) (a := a) (r := r) (f := f) (q := (va_up q 3 t55)) (T := tb a) (w := w) (by omega)) rfl rfl rfl hl.1 rfl (Nat.le_of_ble_eq_true rfl) dX10_put_59 (fun o w' H locs hp hB => ?_)
          obtain ⟨rfl, hw9⟩ := hp
          replace hB : Bd κ A s (mw κ a r f (va_up q 3 t55) (tb a) w) H locs := by rw [hw9] at hB; exact hB
          refine W.eq (g2 := F0 m 62 ls [.long ((f y.toNatClampNeg) (((z).toNatClampNeg) * 5 + ((u).toNatClampNeg)))]) rfl ?_
          refine lv_iload hx hb dX10_put_62 (lv_at hl 4 rfl) ?_
          refine lv_i2l hx hb dX10_put_64 rfl ?_
          refine W.lcmp hx hb dX10_put_65 ?_
          refine lv_if_eq (tgt := 73) hx hb dX10_put_66 (by decide) (fun c60 => ?_) (fun c60 => ?_)
          · replace hR := ifp c60 hR
            refine lv_iconst (v := 0) hx hb dX10_put_73 (by decide) ?_
            refine lv_istore (lv' := [(5, .int 0), (0, .ref (a 0)), (1, .int y), (2, .int z), (3, .int u), (4, .int v)]) hx hb dX10_put_74 hl (by decide) rfl (fun ls hl => ?_)
            refine lv_aload_n hx hb dX10_put_76 rfl (lv_at hl 1 rfl) ?_
            refine gf (k0 := 0) hX hB (mw0x (a := a) (r := r) (f := f) (q := (va_up q 3 t55)) (T := tb a) (w := w) rfl) rfl in10 0 (by decide) wm_5_162 rfl rfl dX10_put_77 ?_
            refine lv_iload_n hx hb dX10_put_80 rfl (lv_at hl 2 rfl) ?_
            refine aaldM (k0 := 1) hX hB (mw1 (a := a) (r := r) (f := f) (q := (va_up q 3 t55)) (T := tb a) (w := w)) (vp_in_mk (by assumption) (by assumption)) rfl dX10_put_81 ?_
            have hb61 := mok_r hm y.toNatClampNeg (by omega)
            refine lv_iload_n hx hb dX10_put_82 rfl (lv_at hl 3 rfl) ?_
            refine lv_iload_n hx hb dX10_put_83 rfl (lv_at hl 4 rfl) ?_
            refine lv_iload hx hb dX10_put_84 (lv_at hl 5 rfl) ?_
            refine lv_i2l hx hb dX10_put_86 rfl ?_
            refine call_V (n := 3) (k0 := (2 + 2 * y.toNatClampNeg)) (As := [.int z, .int u, .long ((v).toInt64)]) (rest := []) hX hB (k_X7_put κ l (mw κ a r f (va_up q 3 t55) (tb a) w) (2 + 2 * y.toNatClampNeg) (3 + 2 * y.toNatClampNeg) (a (2 + 2 * y.toNatClampNeg)) (a (3 + 2 * y.toNatClampNeg)) (r (2 * y.toNatClampNeg)) (r (2 * y.toNatClampNeg + 1)) (f y.toNatClampNeg) z ((z).toNatClampNeg) u ((u).toNatClampNeg) ((v).toInt64) (mwG (i := y.toNatClampNeg) (a := a) (r := r) (f := f) (q := (va_up q 3 t55)) (T := tb a) (w := w) (by omega)) (mwA (i := y.toNatClampNeg) (a := a) (r := r) (f := f) (q := (va_up q 3 t55)) (T := tb a) (w := w) (by omega)) (mok_shp (i := y.toNatClampNeg) hm (by omega)) (nI_rep (by assumption)) (nI_rep (by assumption)) (by omega)) ⟨rfl, yk_X7_put⟩ wm_6_1 wm_5_222 wm_5_223 wm_1_7 wm_5_224 ⟨Nat.le_of_ble_eq_true rfl, Nat.le_of_ble_eq_true rfl⟩ ⟨Nat.le_of_ble_eq_true rfl, Nat.le_of_ble_eq_true rfl⟩ (mwG (i := y.toNatClampNeg) (a := a) (r := r) (f := f) (q := (va_up q 3 t55)) (T := tb a) (w := w) (by omega)) rfl rfl rfl hl.1 rfl (Nat.le_of_ble_eq_true rfl) dX10_put_87 (fun o w' H locs hp hB => ?_)
            obtain ⟨rfl, hw9⟩ := hp
            replace hB : Bd κ A s (mw κ a r (va_up f y.toNatClampNeg (vp_updL (f y.toNatClampNeg) (((z).toNatClampNeg) * 5 + ((u).toNatClampNeg)) ((v).toInt64))) (va_up q 3 t55) (tb a) w) H locs := by exact Bd_eq (mwUL (i := y.toNatClampNeg) (by omega) _) (by rw [hw9] at hB; exact hB)
            refine W.eq (g2 := F0 m 90 ls []) rfl ?_
            refine lv_aload_n hx hb dX10_put_90 rfl (lv_at hl 1 rfl) ?_
            refine lv_iload hx hb dX10_put_91 (lv_at hl 0 rfl) ?_
            refine lv_if_eq (tgt := 100) hx hb dX10_put_93 (by decide) (fun _ => ?_) (fun c62 => False.elim (by revert c62; decide))
            refine lv_iconst (v := 0) hx hb dX10_put_100 (by decide) ?_
            refine call_V (n := 1) (k0 := 0) (As := [.int 0]) (rest := []) hX hB (k_X10_told κ l (mw κ a r (va_up f y.toNatClampNeg (vp_updL (f y.toNatClampNeg) (((z).toNatClampNeg) * 5 + ((u).toNatClampNeg)) ((v).toInt64))) (va_up q 3 t55) (tb a) w) 0 (a 0) (a 1) ((va_up q 3 t55) 0) ((va_up q 3 t55) 1) ((va_up q 3 t55) 2) ((va_up q 3 t55) 3) 0 (mw0x (a := a) (r := r) (f := (va_up f y.toNatClampNeg (vp_updL (f y.toNatClampNeg) (((z).toNatClampNeg) * 5 + ((u).toNatClampNeg)) ((v).toInt64)))) (q := (va_up q 3 t55)) (T := tb a) (w := w) rfl)) ⟨rfl, yk_X10_told⟩ wm_5_208 wm_5_210 wp_30 wm_1_6 wm_5_211 ⟨Nat.le_of_ble_eq_true rfl, Nat.le_of_ble_eq_true rfl⟩ ⟨Nat.le_of_ble_eq_true rfl, Nat.le_of_ble_eq_true rfl⟩ (mw0x (a := a) (r := r) (f := (va_up f y.toNatClampNeg (vp_updL (f y.toNatClampNeg) (((z).toNatClampNeg) * 5 + ((u).toNatClampNeg)) ((v).toInt64)))) (q := (va_up q 3 t55)) (T := tb a) (w := w) rfl) rfl rfl rfl hl.1 rfl (Nat.le_of_ble_eq_true rfl) dX10_put_101 (fun o w' H locs hp hB => ?_)
            obtain ⟨rfl, hw9⟩ := hp
            replace hB : Bd κ A s (mw κ a r (va_up f y.toNatClampNeg (vp_updL (f y.toNatClampNeg) (((z).toNatClampNeg) * 5 + ((u).toNatClampNeg)) ((v).toInt64))) (va_up (va_up q 3 t55) 0 (((va_up q 3 t55) 0) + 1)) (tb a) w) H locs := by exact Bd_eq (mwQ0x rfl _) (by rw [hw9] at hB; exact hB)
            refine W.eq (g2 := F0 m 104 ls [.int 0]) rfl ?_
            rw [← hQ]
            exact end_i hX hB hA3 rfl rfl (by obtain ⟨rfl, rfl, rfl, rfl⟩ := pr4 hR; exact ⟨a, rfl, rfl, (mok_f hm (sm_upd (hm _ (by omega)).2 (sm_i (by assumption) (Int32.not_lt.mpr (by assumption))))), rfl, rfl⟩) (Nat.le_of_ble_eq_true rfl) (Nat.le_of_ble_eq_true rfl) dX10_put_104
          · replace hR := ifn c60 hR
            refine lv_iconst (v := 1) hx hb dX10_put_69 (by decide) ?_
            refine lv_goto (tgt := 74) hx hb dX10_put_70 (by decide) ?_
            refine lv_istore (lv' := [(5, .int 1), (0, .ref (a 0)), (1, .int y), (2, .int z), (3, .int u), (4, .int v)]) hx hb dX10_put_74 hl (by decide) rfl (fun ls hl => ?_)
            refine lv_aload_n hx hb dX10_put_76 rfl (lv_at hl 1 rfl) ?_
            refine gf (k0 := 0) hX hB (mw0x (a := a) (r := r) (f := f) (q := (va_up q 3 t55)) (T := tb a) (w := w) rfl) rfl in10 0 (by decide) wm_5_162 rfl rfl dX10_put_77 ?_
            refine lv_iload_n hx hb dX10_put_80 rfl (lv_at hl 2 rfl) ?_
            refine aaldM (k0 := 1) hX hB (mw1 (a := a) (r := r) (f := f) (q := (va_up q 3 t55)) (T := tb a) (w := w)) (vp_in_mk (by assumption) (by assumption)) rfl dX10_put_81 ?_
            have hb63 := mok_r hm y.toNatClampNeg (by omega)
            refine lv_iload_n hx hb dX10_put_82 rfl (lv_at hl 3 rfl) ?_
            refine lv_iload_n hx hb dX10_put_83 rfl (lv_at hl 4 rfl) ?_
            refine lv_iload hx hb dX10_put_84 (lv_at hl 5 rfl) ?_
            refine lv_i2l hx hb dX10_put_86 rfl ?_
            refine call_V (n := 3) (k0 := (2 + 2 * y.toNatClampNeg)) (As := [.int z, .int u, .long ((v).toInt64)]) (rest := []) hX hB (k_X7_put κ l (mw κ a r f (va_up q 3 t55) (tb a) w) (2 + 2 * y.toNatClampNeg) (3 + 2 * y.toNatClampNeg) (a (2 + 2 * y.toNatClampNeg)) (a (3 + 2 * y.toNatClampNeg)) (r (2 * y.toNatClampNeg)) (r (2 * y.toNatClampNeg + 1)) (f y.toNatClampNeg) z ((z).toNatClampNeg) u ((u).toNatClampNeg) ((v).toInt64) (mwG (i := y.toNatClampNeg) (a := a) (r := r) (f := f) (q := (va_up q 3 t55)) (T := tb a) (w := w) (by omega)) (mwA (i := y.toNatClampNeg) (a := a) (r := r) (f := f) (q := (va_up q 3 t55)) (T := tb a) (w := w) (by omega)) (mok_shp (i := y.toNatClampNeg) hm (by omega)) (nI_rep (by assumption)) (nI_rep (by assumption)) (by omega)) ⟨rfl, yk_X7_put⟩ wm_6_1 wm_5_222 wm_5_223 wm_1_7 wm_5_224 ⟨Nat.le_of_ble_eq_true rfl, Nat.le_of_ble_eq_true rfl⟩ ⟨Nat.le_of_ble_eq_true rfl, Nat.le_of_ble_eq_true rfl⟩ (mwG (i := y.toNatClampNeg) (a := a) (r := r) (f := f) (q := (va_up q 3 t55)) (T := tb a) (w := w) (by omega)) rfl rfl rfl hl.1 rfl (Nat.le_of_ble_eq_true rfl) dX10_put_87 (fun o w' H locs hp hB => ?_)
            obtain ⟨rfl, hw9⟩ := hp
            replace hB : Bd κ A s (mw κ a r (va_up f y.toNatClampNeg (vp_updL (f y.toNatClampNeg) (((z).toNatClampNeg) * 5 + ((u).toNatClampNeg)) ((v).toInt64))) (va_up q 3 t55) (tb a) w) H locs := by exact Bd_eq (mwUL (i := y.toNatClampNeg) (by omega) _) (by rw [hw9] at hB; exact hB)
            refine W.eq (g2 := F0 m 90 ls []) rfl ?_
            refine lv_aload_n hx hb dX10_put_90 rfl (lv_at hl 1 rfl) ?_
            refine lv_iload hx hb dX10_put_91 (lv_at hl 0 rfl) ?_
            refine lv_if_eq (tgt := 100) hx hb dX10_put_93 (by decide) (fun c64 => False.elim (by revert c64; decide)) (fun _ => ?_)
            refine lv_iconst (v := 1) hx hb dX10_put_96 (by decide) ?_
            refine lv_goto (tgt := 101) hx hb dX10_put_97 (by decide) ?_
            refine call_V (n := 1) (k0 := 0) (As := [.int 1]) (rest := []) hX hB (k_X10_told κ l (mw κ a r (va_up f y.toNatClampNeg (vp_updL (f y.toNatClampNeg) (((z).toNatClampNeg) * 5 + ((u).toNatClampNeg)) ((v).toInt64))) (va_up q 3 t55) (tb a) w) 0 (a 0) (a 1) ((va_up q 3 t55) 0) ((va_up q 3 t55) 1) ((va_up q 3 t55) 2) ((va_up q 3 t55) 3) 1 (mw0x (a := a) (r := r) (f := (va_up f y.toNatClampNeg (vp_updL (f y.toNatClampNeg) (((z).toNatClampNeg) * 5 + ((u).toNatClampNeg)) ((v).toInt64)))) (q := (va_up q 3 t55)) (T := tb a) (w := w) rfl)) ⟨rfl, yk_X10_told⟩ wm_5_208 wm_5_210 wp_30 wm_1_6 wm_5_211 ⟨Nat.le_of_ble_eq_true rfl, Nat.le_of_ble_eq_true rfl⟩ ⟨Nat.le_of_ble_eq_true rfl, Nat.le_of_ble_eq_true rfl⟩ (mw0x (a := a) (r := r) (f := (va_up f y.toNatClampNeg (vp_updL (f y.toNatClampNeg) (((z).toNatClampNeg) * 5 + ((u).toNatClampNeg)) ((v).toInt64)))) (q := (va_up q 3 t55)) (T := tb a) (w := w) rfl) rfl rfl rfl hl.1 rfl (Nat.le_of_ble_eq_true rfl) dX10_put_101 (fun o w' H locs hp hB => ?_)
            obtain ⟨rfl, hw9⟩ := hp
            replace hB : Bd κ A s (mw κ a r (va_up f y.toNatClampNeg (vp_updL (f y.toNatClampNeg) (((z).toNatClampNeg) * 5 + ((u).toNatClampNeg)) ((v).toInt64))) (va_up (va_up q 3 t55) 0 (((va_up q 3 t55) 0) + 1)) (tb a) w) H locs := by exact Bd_eq (mwQ0x rfl _) (by rw [hw9] at hB; exact hB)
            refine W.eq (g2 := F0 m 104 ls [.int 1]) rfl ?_
            rw [← hQ]
            exact end_i hX hB hA3 rfl rfl (by obtain ⟨rfl, rfl, rfl, rfl⟩ := pr4 hR; exact ⟨a, rfl, rfl, (mok_f hm (sm_upd (hm _ (by omega)).2 (sm_i (by assumption) (Int32.not_lt.mpr (by assumption))))), rfl, rfl⟩) (Nat.le_of_ble_eq_true rfl) (Nat.le_of_ble_eq_true rfl) dX10_put_104
        · replace hR := ifn c53 hR
          refine lv_iconst (v := 1) hx hb dX10_put_38 (by decide) ?_
          refine lv_goto (tgt := 43) hx hb dX10_put_39 (by decide) ?_
          obtain ⟨x65, t66, hd67⟩ := ex2 (D_X10_isThrown_ (q 0) (q 1) (q 2) (q 3) 0 1)
          replace hR := bnd2_use hd67 hR
          refine call_V (n := 2) (k0 := 0) (As := [.int 0, .int 1]) (rest := []) hX hB (k_X10_isThrown_ κ l (mw κ a r f q (tb a) w) 0 (a 0) (a 1) (q 0) (q 1) (q 2) (q 3) 0 1 (mw0x (a := a) (r := r) (f := f) (q := q) (T := tb a) (w := w) rfl) x65 t66 hd67) ⟨rfl, yk_X10_isThrown_⟩ wm_5_192 wm_5_194 wp_27 wm_1_6 wm_5_195 ⟨Nat.le_of_ble_eq_true rfl, Nat.le_of_ble_eq_true rfl⟩ ⟨Nat.le_of_ble_eq_true rfl, Nat.le_of_ble_eq_true rfl⟩ (mw0x (a := a) (r := r) (f := f) (q := q) (T := tb a) (w := w) rfl) rfl rfl rfl hl.1 rfl (Nat.le_of_ble_eq_true rfl) dX10_put_43 (fun o w' H locs hp hB => ?_)
          obtain ⟨rfl, hf68, hw9⟩ := hp
          replace hB : Bd κ A s (mw κ a r f (va_up q 3 t66) (tb a) w) H locs := by exact Bd_eq (mwQ3x rfl _) (by rw [hw9] at hB; exact hB)
          obtain rfl : x65 = 1 := hf68.trans (by decide)
          refine W.eq (g2 := F0 m 46 ls [.int 1]) rfl ?_
          refine lv_if_eq (tgt := 51) hx hb dX10_put_46 (by decide) (fun c69 => False.elim (by revert c69; decide)) (fun _ => ?_)
          refine lv_iconst (v := 0) hx hb dX10_put_49 (by decide) ?_
          rw [← hQ]
          exact end_i hX hB hA3 rfl rfl (by obtain ⟨rfl, rfl, rfl, rfl⟩ := pr4 hR; exact ⟨a, rfl, rfl, hm, rfl, rfl⟩) (Nat.le_of_ble_eq_true rfl) (Nat.le_of_ble_eq_true rfl) dX10_put_50
noncomputable def D_X10_copy (r : Nat → Nat) (f : Nat → Nat → Int64) (q : Nat → Int32) (y : Int32) (z : Int32) : Int32 × (Nat → Nat) × (Nat → Nat → Int64) × (Nat → Int32) := bnd1 (D_X10_isTable y) (fun (z1 : Int32) => (if z1 = 0 then bnd2 (D_X10_isThrown__ (q 0) (q 1) (q 2) (q 3) 1) (fun (x6 : Int32) (t7 : Int32) => (0, r, f, va_up q 3 t7)) else bnd1 (D_X10_isTable z) (fun (z12 : Int32) => (if z12 = 0 then bnd2 (D_X10_isThrown__ (q 0) (q 1) (q 2) (q 3) 1) (fun (x17 : Int32) (t18 : Int32) => (0, r, f, va_up q 3 t18)) else bnd2 (D_X10_isThrown__ (q 0) (q 1) (q 2) (q 3) 0) (fun (x23 : Int32) (t24 : Int32) => bnd1 (D_X7_isSame (r (2 * y.toNatClampNeg)) (r (2 * y.toNatClampNeg + 1)) (f y.toNatClampNeg) (r (2 * z.toNatClampNeg)) (r (2 * z.toNatClampNeg + 1)) (f z.toNatClampNeg)) (fun (x30 : Int32) => (if x30 = 0 then bnd1 (D_X7_copy (r (2 * y.toNatClampNeg)) (r (2 * y.toNatClampNeg + 1)) (f y.toNatClampNeg)) (fun (F37 : Nat → Int64) => (1, va_up (va_up r (2 * z.toNatClampNeg) (r (2 * y.toNatClampNeg))) (2 * z.toNatClampNeg + 1) (r (2 * y.toNatClampNeg + 1)), va_up f z.toNatClampNeg F37, va_up (va_up q 3 t24) 0 (((va_up q 3 t24) 0) + 1))) else bnd1 (D_X7_copy (r (2 * y.toNatClampNeg)) (r (2 * y.toNatClampNeg + 1)) (f y.toNatClampNeg)) (fun (F48 : Nat → Int64) => (0, va_up (va_up r (2 * z.toNatClampNeg) (r (2 * y.toNatClampNeg))) (2 * z.toNatClampNeg + 1) (r (2 * y.toNatClampNeg + 1)), va_up f z.toNatClampNeg F48, va_up (va_up q 3 t24) 0 (((va_up q 3 t24) 0) + 1))))))))))
theorem D_X10_copy_s {r : Nat → Nat} {f : Nat → Nat → Int64} {q : Nat → Int32} {y : Int32} {z : Int32} : D_X10_copy r f q y z = bnd1 (D_X10_isTable y) (fun (z1 : Int32) => (if z1 = 0 then bnd2 (D_X10_isThrown__ (q 0) (q 1) (q 2) (q 3) 1) (fun (x6 : Int32) (t7 : Int32) => (0, r, f, va_up q 3 t7)) else bnd1 (D_X10_isTable z) (fun (z12 : Int32) => (if z12 = 0 then bnd2 (D_X10_isThrown__ (q 0) (q 1) (q 2) (q 3) 1) (fun (x17 : Int32) (t18 : Int32) => (0, r, f, va_up q 3 t18)) else bnd2 (D_X10_isThrown__ (q 0) (q 1) (q 2) (q 3) 0) (fun (x23 : Int32) (t24 : Int32) => bnd1 (D_X7_isSame (r (2 * y.toNatClampNeg)) (r (2 * y.toNatClampNeg + 1)) (f y.toNatClampNeg) (r (2 * z.toNatClampNeg)) (r (2 * z.toNatClampNeg + 1)) (f z.toNatClampNeg)) (fun (x30 : Int32) => (if x30 = 0 then bnd1 (D_X7_copy (r (2 * y.toNatClampNeg)) (r (2 * y.toNatClampNeg + 1)) (f y.toNatClampNeg)) (fun (F37 : Nat → Int64) => (1, va_up (va_up r (2 * z.toNatClampNeg) (r (2 * y.toNatClampNeg))) (2 * z.toNatClampNeg + 1) (r (2 * y.toNatClampNeg + 1)), va_up f z.toNatClampNeg F37, va_up (va_up q 3 t24) 0 (((va_up q 3 t24) 0) + 1))) else bnd1 (D_X7_copy (r (2 * y.toNatClampNeg)) (r (2 * y.toNatClampNeg + 1)) (f y.toNatClampNeg)) (fun (F48 : Nat → Int64) => (0, va_up (va_up r (2 * z.toNatClampNeg) (r (2 * y.toNatClampNeg))) (2 * z.toNatClampNeg + 1) (r (2 * y.toNatClampNeg + 1)), va_up f z.toNatClampNeg F48, va_up (va_up q 3 t24) 0 (((va_up q 3 t24) 0) + 1)))))))))) := rfl
set_option maxHeartbeats 4000000 in
set_option maxRecDepth 100000 in
theorem k_X10_copy (κ : Kt) (l : Launch) (w : va_W) (a r : Nat → Nat) (f : Nat → Nat → Int64) (q : Nat → Int32) (y : Int32) (z : Int32) (hm : mok r f) (o_x : Int32) (o_r' : Nat → Nat) (o_f' : Nat → Nat → Int64) (o_q' : Nat → Int32) (hR : D_X10_copy r f q y z = (o_x, o_r', o_f', o_q')) : CM κ l yX10_copy cX10_copy 4 (some .int) 3 64 2 23 [.ref (a 0), .int y, .int z] (mw κ a r f q (tb a) w) (fun o w' => ∃ (a' : Nat → Nat), o = some (.int o_x) ∧ (a' 0 = a 0) ∧ (mok o_r' o_f') ∧ (o_q' 2 = q 2) ∧ w' = mw κ a' o_r' o_f' o_q' (tb a') w) := by
  refine CM_begin (plainFor_of_name pn_RX10) (Nat.le_of_ble_eq_true rfl) ?_
  intro p e s m args below meth c A Q hX hnm hA3 hQ hB ls hl
  have hx := hX.1.1
  have hb := hX.1.2.1
  have hl : lv_has ls 4 [(0, .ref (a 0)), (1, .int y), (2, .int z)] := hl
  replace hR := (D_X10_copy_s).symm.trans hR
  refine lv_aload_n hx hb dX10_copy_0 rfl (lv_at hl 0 rfl) ?_
  refine lv_iload_n hx hb dX10_copy_1 rfl (lv_at hl 1 rfl) ?_
  obtain ⟨z1, hd2⟩ := ex1 (D_X10_isTable y)
  replace hR := bnd1_use hd2 hR
  refine call_S (n := 1) (As := [.int y]) (rest := [.ref (a 0)]) hX hB (k_X10_isTable κ l (mw κ a r f q (tb a) w) y z1 hd2) yk_X10_isTable wm_5_186 wm_5_187 wm_1_6 wm_5_188 ⟨Nat.le_of_ble_eq_true rfl, Nat.le_of_ble_eq_true rfl⟩ ⟨Nat.le_of_ble_eq_true rfl, Nat.le_of_ble_eq_true rfl⟩ rfl hl.1 rfl (Nat.le_of_ble_eq_true rfl) dX10_copy_2 (fun o w' H locs hp hB => ?_)
  obtain ⟨rfl, hf3, hw9⟩ := hp
  replace hB : Bd κ A s (mw κ a r f q (tb a) w) H locs := by rw [hw9] at hB; exact hB
  rcases hf3 with rfl | ⟨rfl, hz4a, hz4b⟩
  · replace hR := ifp rfl hR
    refine W.eq (g2 := F0 m 5 ls [.int 0, .ref (a 0)]) rfl ?_
    refine lv_if_eq (tgt := 15) hx hb dX10_copy_5 (by decide) (fun _ => ?_) (fun c5 => False.elim (by revert c5; decide))
    refine lv_iconst (v := 1) hx hb dX10_copy_15 (by decide) ?_
    refine lv_goto (tgt := 20) hx hb dX10_copy_16 (by decide) ?_
    obtain ⟨x6, t7, hd8⟩ := ex2 (D_X10_isThrown__ (q 0) (q 1) (q 2) (q 3) 1)
    replace hR := bnd2_use hd8 hR
    refine call_V (n := 1) (k0 := 0) (As := [.int 1]) (rest := []) hX hB (k_X10_isThrown__ κ l (mw κ a r f q (tb a) w) 0 (a 0) (a 1) (q 0) (q 1) (q 2) (q 3) 1 (mw0x (a := a) (r := r) (f := f) (q := q) (T := tb a) (w := w) rfl) x6 t7 hd8) ⟨rfl, yk_X10_isThrown__⟩ wm_6_15 wm_6_17 wp_33 wm_1_6 wm_6_18 ⟨Nat.le_of_ble_eq_true rfl, Nat.le_of_ble_eq_true rfl⟩ ⟨Nat.le_of_ble_eq_true rfl, Nat.le_of_ble_eq_true rfl⟩ (mw0x (a := a) (r := r) (f := f) (q := q) (T := tb a) (w := w) rfl) rfl rfl rfl hl.1 rfl (Nat.le_of_ble_eq_true rfl) dX10_copy_20 (fun o w' H locs hp hB => ?_)
    obtain ⟨rfl, hf9, hw9⟩ := hp
    replace hB : Bd κ A s (mw κ a r f (va_up q 3 t7) (tb a) w) H locs := by exact Bd_eq (mwQ3x rfl _) (by rw [hw9] at hB; exact hB)
    obtain rfl : x6 = 1 := hf9.trans (by decide)
    refine W.eq (g2 := F0 m 23 ls [.int 1]) rfl ?_
    refine lv_if_eq (tgt := 28) hx hb dX10_copy_23 (by decide) (fun c10 => False.elim (by revert c10; decide)) (fun _ => ?_)
    refine lv_iconst (v := 0) hx hb dX10_copy_26 (by decide) ?_
    rw [← hQ]
    exact end_i hX hB hA3 rfl rfl (by obtain ⟨rfl, rfl, rfl, rfl⟩ := pr4 hR; exact ⟨a, rfl, rfl, hm, rfl, rfl⟩) (Nat.le_of_ble_eq_true rfl) (Nat.le_of_ble_eq_true rfl) dX10_copy_27
  · replace hR := ifn (by decide) hR
    refine W.eq (g2 := F0 m 5 ls [.int 1, .ref (a 0)]) rfl ?_
    refine lv_if_eq (tgt := 15) hx hb dX10_copy_5 (by decide) (fun c11 => False.elim (by revert c11; decide)) (fun _ => ?_)
    refine lv_iload_n hx hb dX10_copy_8 rfl (lv_at hl 2 rfl) ?_
    obtain ⟨z12, hd13⟩ := ex1 (D_X10_isTable z)
    replace hR := bnd1_use hd13 hR
    refine call_S (n := 1) (As := [.int z]) (rest := [.ref (a 0)]) hX hB (k_X10_isTable κ l (mw κ a r f q (tb a) w) z z12 hd13) yk_X10_isTable wm_5_186 wm_5_187 wm_1_6 wm_5_188 ⟨Nat.le_of_ble_eq_true rfl, Nat.le_of_ble_eq_true rfl⟩ ⟨Nat.le_of_ble_eq_true rfl, Nat.le_of_ble_eq_true rfl⟩ rfl hl.1 rfl (Nat.le_of_ble_eq_true rfl) dX10_copy_9 (fun o w' H locs hp hB => ?_)
    obtain ⟨rfl, hf14, hw9⟩ := hp
    replace hB : Bd κ A s (mw κ a r f q (tb a) w) H locs := by rw [hw9] at hB; exact hB
    rcases hf14 with rfl | ⟨rfl, hz15a, hz15b⟩
    · replace hR := ifp rfl hR
      refine W.eq (g2 := F0 m 12 ls [.int 0, .ref (a 0)]) rfl ?_
      refine lv_if_ne (tgt := 19) hx hb dX10_copy_12 (by decide) (fun c16 => False.elim (by revert c16; decide)) (fun _ => ?_)
      refine lv_iconst (v := 1) hx hb dX10_copy_15 (by decide) ?_
      refine lv_goto (tgt := 20) hx hb dX10_copy_16 (by decide) ?_
      obtain ⟨x17, t18, hd19⟩ := ex2 (D_X10_isThrown__ (q 0) (q 1) (q 2) (q 3) 1)
      replace hR := bnd2_use hd19 hR
      refine call_V (n := 1) (k0 := 0) (As := [.int 1]) (rest := []) hX hB (k_X10_isThrown__ κ l (mw κ a r f q (tb a) w) 0 (a 0) (a 1) (q 0) (q 1) (q 2) (q 3) 1 (mw0x (a := a) (r := r) (f := f) (q := q) (T := tb a) (w := w) rfl) x17 t18 hd19) ⟨rfl, yk_X10_isThrown__⟩ wm_6_15 wm_6_17 wp_33 wm_1_6 wm_6_18 ⟨Nat.le_of_ble_eq_true rfl, Nat.le_of_ble_eq_true rfl⟩ ⟨Nat.le_of_ble_eq_true rfl, Nat.le_of_ble_eq_true rfl⟩ (mw0x (a := a) (r := r) (f := f) (q := q) (T := tb a) (w := w) rfl) rfl rfl rfl hl.1 rfl (Nat.le_of_ble_eq_true rfl) dX10_copy_20 (fun o w' H locs hp hB => ?_)
      obtain ⟨rfl, hf20, hw9⟩ := hp
      replace hB : Bd κ A s (mw κ a r f (va_up q 3 t18) (tb a) w) H locs := by exact Bd_eq (mwQ3x rfl _) (by rw [hw9] at hB; exact hB)
      obtain rfl : x17 = 1 := hf20.trans (by decide)
      refine W.eq (g2 := F0 m 23 ls [.int 1]) rfl ?_
      refine lv_if_eq (tgt := 28) hx hb dX10_copy_23 (by decide) (fun c21 => False.elim (by revert c21; decide)) (fun _ => ?_)
      refine lv_iconst (v := 0) hx hb dX10_copy_26 (by decide) ?_
      rw [← hQ]
      exact end_i hX hB hA3 rfl rfl (by obtain ⟨rfl, rfl, rfl, rfl⟩ := pr4 hR; exact ⟨a, rfl, rfl, hm, rfl, rfl⟩) (Nat.le_of_ble_eq_true rfl) (Nat.le_of_ble_eq_true rfl) dX10_copy_27
    · replace hR := ifn (by decide) hR
      refine W.eq (g2 := F0 m 12 ls [.int 1, .ref (a 0)]) rfl ?_
      refine lv_if_ne (tgt := 19) hx hb dX10_copy_12 (by decide) (fun _ => ?_) (fun c22 => False.elim (by revert c22; decide))
      refine lv_iconst (v := 0) hx hb dX10_copy_19 (by decide) ?_
      obtain ⟨x23, t24, hd25⟩ := ex2 (D_X10_isThrown__ (q 0) (q 1) (q 2) (q 3) 0)
      replace hR := bnd2_use hd25 hR
      refine call_V (n := 1) (k0 := 0) (As := [.int 0]) (rest := []) hX hB (k_X10_isThrown__ κ l (mw κ a r f q (tb a) w) 0 (a 0) (a 1) (q 0) (q 1) (q 2) (q 3) 0 (mw0x (a := a) (r := r) (f := f) (q := q) (T := tb a) (w := w) rfl) x23 t24 hd25) ⟨rfl, yk_X10_isThrown__⟩ wm_6_15 wm_6_17 wp_33 wm_1_6 wm_6_18 ⟨Nat.le_of_ble_eq_true rfl, Nat.le_of_ble_eq_true rfl⟩ ⟨Nat.le_of_ble_eq_true rfl, Nat.le_of_ble_eq_true rfl⟩ (mw0x (a := a) (r := r) (f := f) (q := q) (T := tb a) (w := w) rfl) rfl rfl rfl hl.1 rfl (Nat.le_of_ble_eq_true rfl) dX10_copy_20 (fun o w' H locs hp hB => ?_)
      obtain ⟨rfl, hf26, hw9⟩ := hp
      replace hB : Bd κ A s (mw κ a r f (va_up q 3 t24) (tb a) w) H locs := by exact Bd_eq (mwQ3x rfl _) (by rw [hw9] at hB; exact hB)
      obtain rfl : x23 = 0 := hf26.trans (by decide)
      refine W.eq (g2 := F0 m 23 ls [.int 0]) rfl ?_
      refine lv_if_eq (tgt := 28) hx hb dX10_copy_23 (by decide) (fun _ => ?_) (fun c27 => False.elim (by revert c27; decide))
      refine lv_aload_n hx hb dX10_copy_28 rfl (lv_at hl 0 rfl) ?_
      refine gf (k0 := 0) hX hB (mw0x (a := a) (r := r) (f := f) (q := (va_up q 3 t24)) (T := tb a) (w := w) rfl) rfl in10 0 (by decide) wm_5_162 rfl rfl dX10_copy_29 ?_
      refine lv_iload_n hx hb dX10_copy_32 rfl (lv_at hl 1 rfl) ?_
      refine aaldM (k0 := 1) hX hB (mw1 (a := a) (r := r) (f := f) (q := (va_up q 3 t24)) (T := tb a) (w := w)) (vp_in_mk (by assumption) (by assumption)) rfl dX10_copy_33 ?_
      have hb28 := mok_r hm y.toNatClampNeg (by omega)
      refine lv_aload_n hx hb dX10_copy_34 rfl (lv_at hl 0 rfl) ?_
      refine gf (k0 := 0) hX hB (mw0x (a := a) (r := r) (f := f) (q := (va_up q 3 t24)) (T := tb a) (w := w) rfl) rfl in10 0 (by decide) wm_5_162 rfl rfl dX10_copy_35 ?_
      refine lv_iload_n hx hb dX10_copy_38 rfl (lv_at hl 2 rfl) ?_
      refine aaldM (k0 := 1) hX hB (mw1 (a := a) (r := r) (f := f) (q := (va_up q 3 t24)) (T := tb a) (w := w)) (vp_in_mk (by assumption) (by assumption)) rfl dX10_copy_39 ?_
      have hb29 := mok_r hm z.toNatClampNeg (by omega)
      obtain ⟨x30, hd31⟩ := ex1 (D_X7_isSame (r (2 * y.toNatClampNeg)) (r (2 * y.toNatClampNeg + 1)) (f y.toNatClampNeg) (r (2 * z.toNatClampNeg)) (r (2 * z.toNatClampNeg + 1)) (f z.toNatClampNeg))
      replace hR := bnd1_use hd31 hR
      refine call_V (n := 1) (k0 := (2 + 2 * y.toNatClampNeg)) (As := [.ref (a (2 + 2 * z.toNatClampNeg))]) (rest := []) hX hB (k_X7_isSame κ l (mw κ a r f (va_up q 3 t24) (tb a) w) (2 + 2 * y.toNatClampNeg) (3 + 2 * y.toNatClampNeg) (a (2 + 2 * y.toNatClampNeg)) (a (3 + 2 * y.toNatClampNeg)) (r (2 * y.toNatClampNeg)) (r (2 * y.toNatClampNeg + 1)) (f y.toNatClampNeg) (2 + 2 * z.toNatClampNeg) (3 + 2 * z.toNatClampNeg) (a (2 + 2 * z.toNatClampNeg)) (a (3 + 2 * z.toNatClampNeg)) (r (2 * z.toNatClampNeg)) (r (2 * z.toNatClampNeg + 1)) (f z.toNatClampNeg) (mwG (i := y.toNatClampNeg) (a := a) (r := r) (f := f) (q := (va_up q 3 t24)) (T := tb a) (w := w) (by omega)) (mwA (i := y.toNatClampNeg) (a := a) (r := r) (f := f) (q := (va_up q 3 t24)) (T := tb a) (w := w) (by omega)) (mok_shp (i := y.toNatClampNeg) hm (by omega)) (mwG (i := z.toNatClampNeg) (a := a) (r := r) (f := f) (q := (va_up q 3 t24)) (T := tb a) (w := w) (by omega)) (mwA (i := z.toNatClampNeg) (a := a) (r := r) (f := f) (q := (va_up q 3 t24)) (T := tb a) (w := w) (by omega)) (mok_shp (i := z.toNatClampNeg) hm (by omega)) x30 hd31) ⟨rfl, yk_X7_isSame⟩ wm_6_19 wm_6_20 wm_6_21 wm_1_7 wm_6_22 ⟨Nat.le_of_ble_eq_true rfl, Nat.le_of_ble_eq_true rfl⟩ ⟨Nat.le_of_ble_eq_true rfl, Nat.le_of_ble_eq_true rfl⟩ (mwG (i := y.toNatClampNeg) (a := a) (r := r) (f := f) (q := (va_up q 3 t24)) (T := tb a) (w := w) (by omega)) rfl rfl rfl hl.1 rfl (Nat.le_of_ble_eq_true rfl) dX10_copy_40 (fun o w' H locs hp hB => ?_)
      obtain ⟨rfl, hf32, hw9⟩ := hp
      replace hB : Bd κ A s (mw κ a r f (va_up q 3 t24) (tb a) w) H locs := by rw [hw9] at hB; exact hB
      rcases hf32 with rfl | rfl
      · replace hR := ifp rfl hR
        refine W.eq (g2 := F0 m 43 ls [.int 0]) rfl ?_
        refine lv_if_ne (tgt := 50) hx hb dX10_copy_43 (by decide) (fun c33 => False.elim (by revert c33; decide)) (fun _ => ?_)
        refine lv_iconst (v := 1) hx hb dX10_copy_46 (by decide) ?_
        refine lv_goto (tgt := 51) hx hb dX10_copy_47 (by decide) ?_
        refine lv_istore_n (lv' := [(3, .int 1), (0, .ref (a 0)), (1, .int y), (2, .int z)]) hx hb dX10_copy_51 rfl hl (by decide) rfl (fun ls hl => ?_)
        refine lv_aload_n hx hb dX10_copy_52 rfl (lv_at hl 1 rfl) ?_
        refine gf (k0 := 0) hX hB (mw0x (a := a) (r := r) (f := f) (q := (va_up q 3 t24)) (T := tb a) (w := w) rfl) rfl in10 0 (by decide) wm_5_162 rfl rfl dX10_copy_53 ?_
        refine lv_iload_n hx hb dX10_copy_56 rfl (lv_at hl 3 rfl) ?_
        refine lv_aload_n hx hb dX10_copy_57 rfl (lv_at hl 1 rfl) ?_
        refine gf (k0 := 0) hX hB (mw0x (a := a) (r := r) (f := f) (q := (va_up q 3 t24)) (T := tb a) (w := w) rfl) rfl in10 0 (by decide) wm_5_162 rfl rfl dX10_copy_58 ?_
        refine lv_iload_n hx hb dX10_copy_61 rfl (lv_at hl 2 rfl) ?_
        refine aaldM (k0 := 1) hX hB (mw1 (a := a) (r := r) (f := f) (q := (va_up q 3 t24)) (T := tb a) (w := w)) (vp_in_mk (by assumption) (by assumption)) rfl dX10_copy_62 ?_
        have hb34 := mok_r hm y.toNatClampNeg (by omega)
        obtain ⟨F37, hd38⟩ := ex1 (D_X7_copy (r (2 * y.toNatClampNeg)) (r (2 * y.toNatClampNeg + 1)) (f y.toNatClampNeg))
        replace hR := bnd1_use hd38 hR
        refine call_V (n := 0) (k0 := (2 + 2 * y.toNatClampNeg)) (As := []) (rest := [.int z, .ref (a 1)]) hX hB (k_X7_copy κ l (mw κ a r f (va_up q 3 t24) (tb a) w) (2 + 2 * y.toNatClampNeg) (3 + 2 * y.toNatClampNeg) (a (2 + 2 * y.toNatClampNeg)) (a (3 + 2 * y.toNatClampNeg)) (r (2 * y.toNatClampNeg)) (r (2 * y.toNatClampNeg + 1)) (f y.toNatClampNeg) (mwG (i := y.toNatClampNeg) (a := a) (r := r) (f := f) (q := (va_up q 3 t24)) (T := tb a) (w := w) (by omega)) (mwA (i := y.toNatClampNeg) (a := a) (r := r) (f := f) (q := (va_up q 3 t24)) (T := tb a) (w := w) (by omega)) (mok_shp (i := y.toNatClampNeg) hm (by omega)) F37 hd38) ⟨rfl, yk_X7_copy⟩ wm_6_23 wm_6_24 wm_6_25 wm_1_7 wm_6_26 ⟨Nat.le_of_ble_eq_true rfl, Nat.le_of_ble_eq_true rfl⟩ ⟨Nat.le_of_ble_eq_true rfl, Nat.le_of_ble_eq_true rfl⟩ (mwG (i := y.toNatClampNeg) (a := a) (r := r) (f := f) (q := (va_up q 3 t24)) (T := tb a) (w := w) (by omega)) rfl rfl rfl hl.1 rfl (Nat.le_of_ble_eq_true rfl) dX10_copy_63 (fun o w' H locs hp hB => ?_)
        obtain ⟨q35, q36, rfl, hf39, hw9⟩ := hp
        replace hB : Bd κ A s (lA κ q36 ((r (2 * y.toNatClampNeg)) * 5) F37 :: gO q35 (r (2 * y.toNatClampNeg)) (r (2 * y.toNatClampNeg + 1)) q36 :: mw κ a r f (va_up q 3 t24) (tb a) w) H locs := by rw [hw9] at hB; exact hB
        have hscF37 : ∀ k, k < (r (2 * y.toNatClampNeg)) * 5 → sm (F37 k) := fun k hk => by rw [hf39 k hk]; exact (hm _ (by omega)).2 k hk
        refine W.eq (g2 := F0 m 66 ls [.ref q35, .int z, .ref (a 1)]) rfl ?_
        refine astM (f := tb a) (k0 := 3) (k1 := 1) hX hB (mw1 (a := a) (r := r) (f := f) (q := (va_up q 3 t24)) (T := tb a) (w := w)) rfl (vp_in_mk (by assumption) (by assumption)) (w1 := lA κ q36 ((r (2 * y.toNatClampNeg)) * 5) F37 :: gO q35 (r (2 * y.toNatClampNeg)) (r (2 * y.toNatClampNeg + 1)) q36 :: mw κ a r f (va_up q 3 t24) (va_up (tb a) z.toNatClampNeg (some q35)) w) (congrArg (List.cons _) (congrArg (List.cons _) (mwST _))) dX10_copy_66 (fun H locs hB => ?_)
        obtain ⟨a40, ha41, hg42, hB⟩ := Bd_repl2 (t := z.toNatClampNeg) (by omega) hB
        have hba40 := mok_r hm z.toNatClampNeg (by omega)
        refine lv_aload_n hx hb dX10_copy_67 rfl (lv_at hl 1 rfl) ?_
        refine lv_iload_n hx hb dX10_copy_68 rfl (lv_at hl 0 rfl) ?_
        refine lv_if_eq (tgt := 76) hx hb dX10_copy_69 (by decide) (fun c43 => False.elim (by revert c43; decide)) (fun _ => ?_)
        refine lv_iconst (v := 1) hx hb dX10_copy_72 (by decide) ?_
        refine lv_goto (tgt := 77) hx hb dX10_copy_73 (by decide) ?_
        refine call_V (n := 1) (k0 := 0) (As := [.int 1]) (rest := []) hX hB (k_X10_told κ l (mw κ a40 (va_up (va_up r (2 * z.toNatClampNeg) (r (2 * y.toNatClampNeg))) (2 * z.toNatClampNeg + 1) (r (2 * y.toNatClampNeg + 1))) (va_up f z.toNatClampNeg F37) (va_up q 3 t24) (tb a40) w) 0 (a 0) (a40 1) ((va_up q 3 t24) 0) ((va_up q 3 t24) 1) ((va_up q 3 t24) 2) ((va_up q 3 t24) 3) 1 (mw0x (a := a40) (r := (va_up (va_up r (2 * z.toNatClampNeg) (r (2 * y.toNatClampNeg))) (2 * z.toNatClampNeg + 1) (r (2 * y.toNatClampNeg + 1)))) (f := (va_up f z.toNatClampNeg F37)) (q := (va_up q 3 t24)) (T := tb a40) (w := w) (ha41.trans rfl))) ⟨rfl, yk_X10_told⟩ wm_5_208 wm_5_210 wp_30 wm_1_6 wm_5_211 ⟨Nat.le_of_ble_eq_true rfl, Nat.le_of_ble_eq_true rfl⟩ ⟨Nat.le_of_ble_eq_true rfl, Nat.le_of_ble_eq_true rfl⟩ (mw0x (a := a40) (r := (va_up (va_up r (2 * z.toNatClampNeg) (r (2 * y.toNatClampNeg))) (2 * z.toNatClampNeg + 1) (r (2 * y.toNatClampNeg + 1)))) (f := (va_up f z.toNatClampNeg F37)) (q := (va_up q 3 t24)) (T := tb a40) (w := w) (ha41.trans rfl)) rfl rfl rfl hl.1 rfl (Nat.le_of_ble_eq_true rfl) dX10_copy_77 (fun o w' H locs hp hB => ?_)
        obtain ⟨rfl, hw9⟩ := hp
        replace hB : Bd κ A s (mw κ a40 (va_up (va_up r (2 * z.toNatClampNeg) (r (2 * y.toNatClampNeg))) (2 * z.toNatClampNeg + 1) (r (2 * y.toNatClampNeg + 1))) (va_up f z.toNatClampNeg F37) (va_up (va_up q 3 t24) 0 (((va_up q 3 t24) 0) + 1)) (tb a40) w) H locs := by exact Bd_eq (mwQ0x (ha41.trans rfl) _) (by rw [hw9] at hB; exact hB)
        refine W.eq (g2 := F0 m 80 ls [.int 1]) rfl ?_
        rw [← hQ]
        exact end_i hX hB hA3 rfl rfl (by obtain ⟨rfl, rfl, rfl, rfl⟩ := pr4 hR; exact ⟨a40, rfl, (ha41.trans rfl), (mok_repl (t := z.toNatClampNeg) (R := (r (2 * y.toNatClampNeg))) (C := (r (2 * y.toNatClampNeg + 1))) (F := F37) hm ⟨by omega, by omega, by omega, by omega⟩ hscF37), rfl, rfl⟩) (Nat.le_of_ble_eq_true rfl) (Nat.le_of_ble_eq_true rfl) dX10_copy_80
      · replace hR := ifn (by decide) hR
        refine W.eq (g2 := F0 m 43 ls [.int 1]) rfl ?_
        refine lv_if_ne (tgt := 50) hx hb dX10_copy_43 (by decide) (fun _ => ?_) (fun c44 => False.elim (by revert c44; decide))
        refine lv_iconst (v := 0) hx hb dX10_copy_50 (by decide) ?_
        refine lv_istore_n (lv' := [(3, .int 0), (0, .ref (a 0)), (1, .int y), (2, .int z)]) hx hb dX10_copy_51 rfl hl (by decide) rfl (fun ls hl => ?_)
        refine lv_aload_n hx hb dX10_copy_52 rfl (lv_at hl 1 rfl) ?_
        refine gf (k0 := 0) hX hB (mw0x (a := a) (r := r) (f := f) (q := (va_up q 3 t24)) (T := tb a) (w := w) rfl) rfl in10 0 (by decide) wm_5_162 rfl rfl dX10_copy_53 ?_
        refine lv_iload_n hx hb dX10_copy_56 rfl (lv_at hl 3 rfl) ?_
        refine lv_aload_n hx hb dX10_copy_57 rfl (lv_at hl 1 rfl) ?_
        refine gf (k0 := 0) hX hB (mw0x (a := a) (r := r) (f := f) (q := (va_up q 3 t24)) (T := tb a) (w := w) rfl) rfl in10 0 (by decide) wm_5_162 rfl rfl dX10_copy_58 ?_
        refine lv_iload_n hx hb dX10_copy_61 rfl (lv_at hl 2 rfl) ?_
        refine aaldM (k0 := 1) hX hB (mw1 (a := a) (r := r) (f := f) (q := (va_up q 3 t24)) (T := tb a) (w := w)) (vp_in_mk (by assumption) (by assumption)) rfl dX10_copy_62 ?_
        have hb45 := mok_r hm y.toNatClampNeg (by omega)
        obtain ⟨F48, hd49⟩ := ex1 (D_X7_copy (r (2 * y.toNatClampNeg)) (r (2 * y.toNatClampNeg + 1)) (f y.toNatClampNeg))
        replace hR := bnd1_use hd49 hR
        refine call_V (n := 0) (k0 := (2 + 2 * y.toNatClampNeg)) (As := []) (rest := [.int z, .ref (a 1)]) hX hB (k_X7_copy κ l (mw κ a r f (va_up q 3 t24) (tb a) w) (2 + 2 * y.toNatClampNeg) (3 + 2 * y.toNatClampNeg) (a (2 + 2 * y.toNatClampNeg)) (a (3 + 2 * y.toNatClampNeg)) (r (2 * y.toNatClampNeg)) (r (2 * y.toNatClampNeg + 1)) (f y.toNatClampNeg) (mwG (i := y.toNatClampNeg) (a := a) (r := r) (f := f) (q := (va_up q 3 t24)) (T := tb a) (w := w) (by omega)) (mwA (i := y.toNatClampNeg) (a := a) (r := r) (f := f) (q := (va_up q 3 t24)) (T := tb a) (w := w) (by omega)) (mok_shp (i := y.toNatClampNeg) hm (by omega)) F48 hd49) ⟨rfl, yk_X7_copy⟩ wm_6_23 wm_6_24 wm_6_25 wm_1_7 wm_6_26 ⟨Nat.le_of_ble_eq_true rfl, Nat.le_of_ble_eq_true rfl⟩ ⟨Nat.le_of_ble_eq_true rfl, Nat.le_of_ble_eq_true rfl⟩ (mwG (i := y.toNatClampNeg) (a := a) (r := r) (f := f) (q := (va_up q 3 t24)) (T := tb a) (w := w) (by omega)) rfl rfl rfl hl.1 rfl (Nat.le_of_ble_eq_true rfl) dX10_copy_63 (fun o w' H locs hp hB => ?_)
        obtain ⟨q46, q47, rfl, hf50, hw9⟩ := hp
        replace hB : Bd κ A s (lA κ q47 ((r (2 * y.toNatClampNeg)) * 5) F48 :: gO q46 (r (2 * y.toNatClampNeg)) (r (2 * y.toNatClampNeg + 1)) q47 :: mw κ a r f (va_up q 3 t24) (tb a) w) H locs := by rw [hw9] at hB; exact hB
        have hscF48 : ∀ k, k < (r (2 * y.toNatClampNeg)) * 5 → sm (F48 k) := fun k hk => by rw [hf50 k hk]; exact (hm _ (by omega)).2 k hk
        refine W.eq (g2 := F0 m 66 ls [.ref q46, .int z, .ref (a 1)]) rfl ?_
        refine astM (f := tb a) (k0 := 3) (k1 := 1) hX hB (mw1 (a := a) (r := r) (f := f) (q := (va_up q 3 t24)) (T := tb a) (w := w)) rfl (vp_in_mk (by assumption) (by assumption)) (w1 := lA κ q47 ((r (2 * y.toNatClampNeg)) * 5) F48 :: gO q46 (r (2 * y.toNatClampNeg)) (r (2 * y.toNatClampNeg + 1)) q47 :: mw κ a r f (va_up q 3 t24) (va_up (tb a) z.toNatClampNeg (some q46)) w) (congrArg (List.cons _) (congrArg (List.cons _) (mwST _))) dX10_copy_66 (fun H locs hB => ?_)
        obtain ⟨a51, ha52, hg53, hB⟩ := Bd_repl2 (t := z.toNatClampNeg) (by omega) hB
        have hba51 := mok_r hm z.toNatClampNeg (by omega)
        refine lv_aload_n hx hb dX10_copy_67 rfl (lv_at hl 1 rfl) ?_
        refine lv_iload_n hx hb dX10_copy_68 rfl (lv_at hl 0 rfl) ?_
        refine lv_if_eq (tgt := 76) hx hb dX10_copy_69 (by decide) (fun _ => ?_) (fun c54 => False.elim (by revert c54; decide))
        refine lv_iconst (v := 0) hx hb dX10_copy_76 (by decide) ?_
        refine call_V (n := 1) (k0 := 0) (As := [.int 0]) (rest := []) hX hB (k_X10_told κ l (mw κ a51 (va_up (va_up r (2 * z.toNatClampNeg) (r (2 * y.toNatClampNeg))) (2 * z.toNatClampNeg + 1) (r (2 * y.toNatClampNeg + 1))) (va_up f z.toNatClampNeg F48) (va_up q 3 t24) (tb a51) w) 0 (a 0) (a51 1) ((va_up q 3 t24) 0) ((va_up q 3 t24) 1) ((va_up q 3 t24) 2) ((va_up q 3 t24) 3) 0 (mw0x (a := a51) (r := (va_up (va_up r (2 * z.toNatClampNeg) (r (2 * y.toNatClampNeg))) (2 * z.toNatClampNeg + 1) (r (2 * y.toNatClampNeg + 1)))) (f := (va_up f z.toNatClampNeg F48)) (q := (va_up q 3 t24)) (T := tb a51) (w := w) (ha52.trans rfl))) ⟨rfl, yk_X10_told⟩ wm_5_208 wm_5_210 wp_30 wm_1_6 wm_5_211 ⟨Nat.le_of_ble_eq_true rfl, Nat.le_of_ble_eq_true rfl⟩ ⟨Nat.le_of_ble_eq_true rfl, Nat.le_of_ble_eq_true rfl⟩ (mw0x (a := a51) (r := (va_up (va_up r (2 * z.toNatClampNeg) (r (2 * y.toNatClampNeg))) (2 * z.toNatClampNeg + 1) (r (2 * y.toNatClampNeg + 1)))) (f := (va_up f z.toNatClampNeg F48)) (q := (va_up q 3 t24)) (T := tb a51) (w := w) (ha52.trans rfl)) rfl rfl rfl hl.1 rfl (Nat.le_of_ble_eq_true rfl) dX10_copy_77 (fun o w' H locs hp hB => ?_)
        obtain ⟨rfl, hw9⟩ := hp
        replace hB : Bd κ A s (mw κ a51 (va_up (va_up r (2 * z.toNatClampNeg) (r (2 * y.toNatClampNeg))) (2 * z.toNatClampNeg + 1) (r (2 * y.toNatClampNeg + 1))) (va_up f z.toNatClampNeg F48) (va_up (va_up q 3 t24) 0 (((va_up q 3 t24) 0) + 1)) (tb a51) w) H locs := by exact Bd_eq (mwQ0x (ha52.trans rfl) _) (by rw [hw9] at hB; exact hB)
        refine W.eq (g2 := F0 m 80 ls [.int 0]) rfl ?_
        rw [← hQ]
        exact end_i hX hB hA3 rfl rfl (by obtain ⟨rfl, rfl, rfl, rfl⟩ := pr4 hR; exact ⟨a51, rfl, (ha52.trans rfl), (mok_repl (t := z.toNatClampNeg) (R := (r (2 * y.toNatClampNeg))) (C := (r (2 * y.toNatClampNeg + 1))) (F := F48) hm ⟨by omega, by omega, by omega, by omega⟩ hscF48), rfl, rfl⟩) (Nat.le_of_ble_eq_true rfl) (Nat.le_of_ble_eq_true rfl) dX10_copy_80
noncomputable def D_X10_swap (r : Nat → Nat) (f : Nat → Nat → Int64) (q : Nat → Int32) (y : Int32) (z : Int32) : Int32 × (Nat → Nat) × (Nat → Nat → Int64) × (Nat → Int32) := bnd1 (D_X10_isTable y) (fun (z1 : Int32) => (if z1 = 0 then bnd2 (D_X10_isThrown__ (q 0) (q 1) (q 2) (q 3) 1) (fun (x6 : Int32) (t7 : Int32) => (0, r, f, va_up q 3 t7)) else bnd1 (D_X10_isTable z) (fun (z12 : Int32) => (if z12 = 0 then bnd2 (D_X10_isThrown__ (q 0) (q 1) (q 2) (q 3) 1) (fun (x17 : Int32) (t18 : Int32) => (0, r, f, va_up q 3 t18)) else bnd2 (D_X10_isThrown__ (q 0) (q 1) (q 2) (q 3) 0) (fun (x23 : Int32) (t24 : Int32) => bnd1 (D_X7_isSame (r (2 * y.toNatClampNeg)) (r (2 * y.toNatClampNeg + 1)) (f y.toNatClampNeg) (r (2 * z.toNatClampNeg)) (r (2 * z.toNatClampNeg + 1)) (f z.toNatClampNeg)) (fun (x30 : Int32) => (if x30 = 0 then (1, (fun k => r (swr y.toNatClampNeg z.toNatClampNeg k)), (fun k => f (sw1 y.toNatClampNeg z.toNatClampNeg k)), va_up (va_up q 3 t24) 0 (((va_up q 3 t24) 0) + 1)) else (0, (fun k => r (swr y.toNatClampNeg z.toNatClampNeg k)), (fun k => f (sw1 y.toNatClampNeg z.toNatClampNeg k)), va_up (va_up q 3 t24) 0 (((va_up q 3 t24) 0) + 1)))))))))
theorem D_X10_swap_s {r : Nat → Nat} {f : Nat → Nat → Int64} {q : Nat → Int32} {y : Int32} {z : Int32} : D_X10_swap r f q y z = bnd1 (D_X10_isTable y) (fun (z1 : Int32) => (if z1 = 0 then bnd2 (D_X10_isThrown__ (q 0) (q 1) (q 2) (q 3) 1) (fun (x6 : Int32) (t7 : Int32) => (0, r, f, va_up q 3 t7)) else bnd1 (D_X10_isTable z) (fun (z12 : Int32) => (if z12 = 0 then bnd2 (D_X10_isThrown__ (q 0) (q 1) (q 2) (q 3) 1) (fun (x17 : Int32) (t18 : Int32) => (0, r, f, va_up q 3 t18)) else bnd2 (D_X10_isThrown__ (q 0) (q 1) (q 2) (q 3) 0) (fun (x23 : Int32) (t24 : Int32) => bnd1 (D_X7_isSame (r (2 * y.toNatClampNeg)) (r (2 * y.toNatClampNeg + 1)) (f y.toNatClampNeg) (r (2 * z.toNatClampNeg)) (r (2 * z.toNatClampNeg + 1)) (f z.toNatClampNeg)) (fun (x30 : Int32) => (if x30 = 0 then (1, (fun k => r (swr y.toNatClampNeg z.toNatClampNeg k)), (fun k => f (sw1 y.toNatClampNeg z.toNatClampNeg k)), va_up (va_up q 3 t24) 0 (((va_up q 3 t24) 0) + 1)) else (0, (fun k => r (swr y.toNatClampNeg z.toNatClampNeg k)), (fun k => f (sw1 y.toNatClampNeg z.toNatClampNeg k)), va_up (va_up q 3 t24) 0 (((va_up q 3 t24) 0) + 1))))))))) := rfl
set_option maxHeartbeats 4000000 in
set_option maxRecDepth 100000 in
theorem k_X10_swap (κ : Kt) (l : Launch) (w : va_W) (a r : Nat → Nat) (f : Nat → Nat → Int64) (q : Nat → Int32) (y : Int32) (z : Int32) (hm : mok r f) (o_x : Int32) (o_r' : Nat → Nat) (o_f' : Nat → Nat → Int64) (o_q' : Nat → Int32) (hR : D_X10_swap r f q y z = (o_x, o_r', o_f', o_q')) : CM κ l yX10_swap cX10_swap 5 (some .int) 2 44 0 0 [.ref (a 0), .int y, .int z] (mw κ a r f q (tb a) w) (fun o w' => ∃ (a' : Nat → Nat), o = some (.int o_x) ∧ (a' 0 = a 0) ∧ (mok o_r' o_f') ∧ (o_q' 2 = q 2) ∧ w' = mw κ a' o_r' o_f' o_q' (tb a') w) := by
  refine CM_begin (plainFor_of_name pn_RX10) (Nat.le_of_ble_eq_true rfl) ?_
  intro p e s m args below meth c A Q hX hnm hA3 hQ hB ls hl
  have hx := hX.1.1
  have hb := hX.1.2.1
  have hl : lv_has ls 5 [(0, .ref (a 0)), (1, .int y), (2, .int z)] := hl
  replace hR := (D_X10_swap_s).symm.trans hR
  refine lv_aload_n hx hb dX10_swap_0 rfl (lv_at hl 0 rfl) ?_
  refine lv_iload_n hx hb dX10_swap_1 rfl (lv_at hl 1 rfl) ?_
  obtain ⟨z1, hd2⟩ := ex1 (D_X10_isTable y)
  replace hR := bnd1_use hd2 hR
  refine call_S (n := 1) (As := [.int y]) (rest := [.ref (a 0)]) hX hB (k_X10_isTable κ l (mw κ a r f q (tb a) w) y z1 hd2) yk_X10_isTable wm_5_186 wm_5_187 wm_1_6 wm_5_188 ⟨Nat.le_of_ble_eq_true rfl, Nat.le_of_ble_eq_true rfl⟩ ⟨Nat.le_of_ble_eq_true rfl, Nat.le_of_ble_eq_true rfl⟩ rfl hl.1 rfl (Nat.le_of_ble_eq_true rfl) dX10_swap_2 (fun o w' H locs hp hB => ?_)
  obtain ⟨rfl, hf3, hw9⟩ := hp
  replace hB : Bd κ A s (mw κ a r f q (tb a) w) H locs := by rw [hw9] at hB; exact hB
  rcases hf3 with rfl | ⟨rfl, hz4a, hz4b⟩
  · replace hR := ifp rfl hR
    refine W.eq (g2 := F0 m 5 ls [.int 0, .ref (a 0)]) rfl ?_
    refine lv_if_eq (tgt := 15) hx hb dX10_swap_5 (by decide) (fun _ => ?_) (fun c5 => False.elim (by revert c5; decide))
    refine lv_iconst (v := 1) hx hb dX10_swap_15 (by decide) ?_
    refine lv_goto (tgt := 20) hx hb dX10_swap_16 (by decide) ?_
    obtain ⟨x6, t7, hd8⟩ := ex2 (D_X10_isThrown__ (q 0) (q 1) (q 2) (q 3) 1)
    replace hR := bnd2_use hd8 hR
    refine call_V (n := 1) (k0 := 0) (As := [.int 1]) (rest := []) hX hB (k_X10_isThrown__ κ l (mw κ a r f q (tb a) w) 0 (a 0) (a 1) (q 0) (q 1) (q 2) (q 3) 1 (mw0x (a := a) (r := r) (f := f) (q := q) (T := tb a) (w := w) rfl) x6 t7 hd8) ⟨rfl, yk_X10_isThrown__⟩ wm_6_15 wm_6_17 wp_33 wm_1_6 wm_6_18 ⟨Nat.le_of_ble_eq_true rfl, Nat.le_of_ble_eq_true rfl⟩ ⟨Nat.le_of_ble_eq_true rfl, Nat.le_of_ble_eq_true rfl⟩ (mw0x (a := a) (r := r) (f := f) (q := q) (T := tb a) (w := w) rfl) rfl rfl rfl hl.1 rfl (Nat.le_of_ble_eq_true rfl) dX10_swap_20 (fun o w' H locs hp hB => ?_)
    obtain ⟨rfl, hf9, hw9⟩ := hp
    replace hB : Bd κ A s (mw κ a r f (va_up q 3 t7) (tb a) w) H locs := by exact Bd_eq (mwQ3x rfl _) (by rw [hw9] at hB; exact hB)
    obtain rfl : x6 = 1 := hf9.trans (by decide)
    refine W.eq (g2 := F0 m 23 ls [.int 1]) rfl ?_
    refine lv_if_eq (tgt := 28) hx hb dX10_swap_23 (by decide) (fun c10 => False.elim (by revert c10; decide)) (fun _ => ?_)
    refine lv_iconst (v := 0) hx hb dX10_swap_26 (by decide) ?_
    rw [← hQ]
    exact end_i hX hB hA3 rfl rfl (by obtain ⟨rfl, rfl, rfl, rfl⟩ := pr4 hR; exact ⟨a, rfl, rfl, hm, rfl, rfl⟩) (Nat.le_of_ble_eq_true rfl) (Nat.le_of_ble_eq_true rfl) dX10_swap_27
  · replace hR := ifn (by decide) hR
    refine W.eq (g2 := F0 m 5 ls [.int 1, .ref (a 0)]) rfl ?_
    refine lv_if_eq (tgt := 15) hx hb dX10_swap_5 (by decide) (fun c11 => False.elim (by revert c11; decide)) (fun _ => ?_)
    refine lv_iload_n hx hb dX10_swap_8 rfl (lv_at hl 2 rfl) ?_
    obtain ⟨z12, hd13⟩ := ex1 (D_X10_isTable z)
    replace hR := bnd1_use hd13 hR
    refine call_S (n := 1) (As := [.int z]) (rest := [.ref (a 0)]) hX hB (k_X10_isTable κ l (mw κ a r f q (tb a) w) z z12 hd13) yk_X10_isTable wm_5_186 wm_5_187 wm_1_6 wm_5_188 ⟨Nat.le_of_ble_eq_true rfl, Nat.le_of_ble_eq_true rfl⟩ ⟨Nat.le_of_ble_eq_true rfl, Nat.le_of_ble_eq_true rfl⟩ rfl hl.1 rfl (Nat.le_of_ble_eq_true rfl) dX10_swap_9 (fun o w' H locs hp hB => ?_)
    obtain ⟨rfl, hf14, hw9⟩ := hp
    replace hB : Bd κ A s (mw κ a r f q (tb a) w) H locs := by rw [hw9] at hB; exact hB
    rcases hf14 with rfl | ⟨rfl, hz15a, hz15b⟩
    · replace hR := ifp rfl hR
      refine W.eq (g2 := F0 m 12 ls [.int 0, .ref (a 0)]) rfl ?_
      refine lv_if_ne (tgt := 19) hx hb dX10_swap_12 (by decide) (fun c16 => False.elim (by revert c16; decide)) (fun _ => ?_)
      refine lv_iconst (v := 1) hx hb dX10_swap_15 (by decide) ?_
      refine lv_goto (tgt := 20) hx hb dX10_swap_16 (by decide) ?_
      obtain ⟨x17, t18, hd19⟩ := ex2 (D_X10_isThrown__ (q 0) (q 1) (q 2) (q 3) 1)
      replace hR := bnd2_use hd19 hR
      refine call_V (n := 1) (k0 := 0) (As := [.int 1]) (rest := []) hX hB (k_X10_isThrown__ κ l (mw κ a r f q (tb a) w) 0 (a 0) (a 1) (q 0) (q 1) (q 2) (q 3) 1 (mw0x (a := a) (r := r) (f := f) (q := q) (T := tb a) (w := w) rfl) x17 t18 hd19) ⟨rfl, yk_X10_isThrown__⟩ wm_6_15 wm_6_17 wp_33 wm_1_6 wm_6_18 ⟨Nat.le_of_ble_eq_true rfl, Nat.le_of_ble_eq_true rfl⟩ ⟨Nat.le_of_ble_eq_true rfl, Nat.le_of_ble_eq_true rfl⟩ (mw0x (a := a) (r := r) (f := f) (q := q) (T := tb a) (w := w) rfl) rfl rfl rfl hl.1 rfl (Nat.le_of_ble_eq_true rfl) dX10_swap_20 (fun o w' H locs hp hB => ?_)
      obtain ⟨rfl, hf20, hw9⟩ := hp
      replace hB : Bd κ A s (mw κ a r f (va_up q 3 t18) (tb a) w) H locs := by exact Bd_eq (mwQ3x rfl _) (by rw [hw9] at hB; exact hB)
      obtain rfl : x17 = 1 := hf20.trans (by decide)
      refine W.eq (g2 := F0 m 23 ls [.int 1]) rfl ?_
      refine lv_if_eq (tgt := 28) hx hb dX10_swap_23 (by decide) (fun c21 => False.elim (by revert c21; decide)) (fun _ => ?_)
      refine lv_iconst (v := 0) hx hb dX10_swap_26 (by decide) ?_
      rw [← hQ]
      exact end_i hX hB hA3 rfl rfl (by obtain ⟨rfl, rfl, rfl, rfl⟩ := pr4 hR; exact ⟨a, rfl, rfl, hm, rfl, rfl⟩) (Nat.le_of_ble_eq_true rfl) (Nat.le_of_ble_eq_true rfl) dX10_swap_27
    · replace hR := ifn (by decide) hR
      refine W.eq (g2 := F0 m 12 ls [.int 1, .ref (a 0)]) rfl ?_
      refine lv_if_ne (tgt := 19) hx hb dX10_swap_12 (by decide) (fun _ => ?_) (fun c22 => False.elim (by revert c22; decide))
      refine lv_iconst (v := 0) hx hb dX10_swap_19 (by decide) ?_
      obtain ⟨x23, t24, hd25⟩ := ex2 (D_X10_isThrown__ (q 0) (q 1) (q 2) (q 3) 0)
      replace hR := bnd2_use hd25 hR
      refine call_V (n := 1) (k0 := 0) (As := [.int 0]) (rest := []) hX hB (k_X10_isThrown__ κ l (mw κ a r f q (tb a) w) 0 (a 0) (a 1) (q 0) (q 1) (q 2) (q 3) 0 (mw0x (a := a) (r := r) (f := f) (q := q) (T := tb a) (w := w) rfl) x23 t24 hd25) ⟨rfl, yk_X10_isThrown__⟩ wm_6_15 wm_6_17 wp_33 wm_1_6 wm_6_18 ⟨Nat.le_of_ble_eq_true rfl, Nat.le_of_ble_eq_true rfl⟩ ⟨Nat.le_of_ble_eq_true rfl, Nat.le_of_ble_eq_true rfl⟩ (mw0x (a := a) (r := r) (f := f) (q := q) (T := tb a) (w := w) rfl) rfl rfl rfl hl.1 rfl (Nat.le_of_ble_eq_true rfl) dX10_swap_20 (fun o w' H locs hp hB => ?_)
      obtain ⟨rfl, hf26, hw9⟩ := hp
      replace hB : Bd κ A s (mw κ a r f (va_up q 3 t24) (tb a) w) H locs := by exact Bd_eq (mwQ3x rfl _) (by rw [hw9] at hB; exact hB)
      obtain rfl : x23 = 0 := hf26.trans (by decide)
      refine W.eq (g2 := F0 m 23 ls [.int 0]) rfl ?_
      refine lv_if_eq (tgt := 28) hx hb dX10_swap_23 (by decide) (fun _ => ?_) (fun c27 => False.elim (by revert c27; decide))
      refine lv_aload_n hx hb dX10_swap_28 rfl (lv_at hl 0 rfl) ?_
      refine gf (k0 := 0) hX hB (mw0x (a := a) (r := r) (f := f) (q := (va_up q 3 t24)) (T := tb a) (w := w) rfl) rfl in10 0 (by decide) wm_5_162 rfl rfl dX10_swap_29 ?_
      refine lv_iload_n hx hb dX10_swap_32 rfl (lv_at hl 1 rfl) ?_
      refine aaldM (k0 := 1) hX hB (mw1 (a := a) (r := r) (f := f) (q := (va_up q 3 t24)) (T := tb a) (w := w)) (vp_in_mk (by assumption) (by assumption)) rfl dX10_swap_33 ?_
      have hb28 := mok_r hm y.toNatClampNeg (by omega)
      refine lv_aload_n hx hb dX10_swap_34 rfl (lv_at hl 0 rfl) ?_
      refine gf (k0 := 0) hX hB (mw0x (a := a) (r := r) (f := f) (q := (va_up q 3 t24)) (T := tb a) (w := w) rfl) rfl in10 0 (by decide) wm_5_162 rfl rfl dX10_swap_35 ?_
      refine lv_iload_n hx hb dX10_swap_38 rfl (lv_at hl 2 rfl) ?_
      refine aaldM (k0 := 1) hX hB (mw1 (a := a) (r := r) (f := f) (q := (va_up q 3 t24)) (T := tb a) (w := w)) (vp_in_mk (by assumption) (by assumption)) rfl dX10_swap_39 ?_
      have hb29 := mok_r hm z.toNatClampNeg (by omega)
      obtain ⟨x30, hd31⟩ := ex1 (D_X7_isSame (r (2 * y.toNatClampNeg)) (r (2 * y.toNatClampNeg + 1)) (f y.toNatClampNeg) (r (2 * z.toNatClampNeg)) (r (2 * z.toNatClampNeg + 1)) (f z.toNatClampNeg))
      replace hR := bnd1_use hd31 hR
      refine call_V (n := 1) (k0 := (2 + 2 * y.toNatClampNeg)) (As := [.ref (a (2 + 2 * z.toNatClampNeg))]) (rest := []) hX hB (k_X7_isSame κ l (mw κ a r f (va_up q 3 t24) (tb a) w) (2 + 2 * y.toNatClampNeg) (3 + 2 * y.toNatClampNeg) (a (2 + 2 * y.toNatClampNeg)) (a (3 + 2 * y.toNatClampNeg)) (r (2 * y.toNatClampNeg)) (r (2 * y.toNatClampNeg + 1)) (f y.toNatClampNeg) (2 + 2 * z.toNatClampNeg) (3 + 2 * z.toNatClampNeg) (a (2 + 2 * z.toNatClampNeg)) (a (3 + 2 * z.toNatClampNeg)) (r (2 * z.toNatClampNeg)) (r (2 * z.toNatClampNeg + 1)) (f z.toNatClampNeg) (mwG (i := y.toNatClampNeg) (a := a) (r := r) (f := f) (q := (va_up q 3 t24)) (T := tb a) (w := w) (by omega)) (mwA (i := y.toNatClampNeg) (a := a) (r := r) (f := f) (q := (va_up q 3 t24)) (T := tb a) (w := w) (by omega)) (mok_shp (i := y.toNatClampNeg) hm (by omega)) (mwG (i := z.toNatClampNeg) (a := a) (r := r) (f := f) (q := (va_up q 3 t24)) (T := tb a) (w := w) (by omega)) (mwA (i := z.toNatClampNeg) (a := a) (r := r) (f := f) (q := (va_up q 3 t24)) (T := tb a) (w := w) (by omega)) (mok_shp (i := z.toNatClampNeg) hm (by omega)) x30 hd31) ⟨rfl, yk_X7_isSame⟩ wm_6_19 wm_6_20 wm_6_21 wm_1_7 wm_6_22 ⟨Nat.le_of_ble_eq_true rfl, Nat.le_of_ble_eq_true rfl⟩ ⟨Nat.le_of_ble_eq_true rfl, Nat.le_of_ble_eq_true rfl⟩ (mwG (i := y.toNatClampNeg) (a := a) (r := r) (f := f) (q := (va_up q 3 t24)) (T := tb a) (w := w) (by omega)) rfl rfl rfl hl.1 rfl (Nat.le_of_ble_eq_true rfl) dX10_swap_40 (fun o w' H locs hp hB => ?_)
      obtain ⟨rfl, hf32, hw9⟩ := hp
      replace hB : Bd κ A s (mw κ a r f (va_up q 3 t24) (tb a) w) H locs := by rw [hw9] at hB; exact hB
      rcases hf32 with rfl | rfl
      · replace hR := ifp rfl hR
        refine W.eq (g2 := F0 m 43 ls [.int 0]) rfl ?_
        refine lv_if_ne (tgt := 50) hx hb dX10_swap_43 (by decide) (fun c33 => False.elim (by revert c33; decide)) (fun _ => ?_)
        refine lv_iconst (v := 1) hx hb dX10_swap_46 (by decide) ?_
        refine lv_goto (tgt := 51) hx hb dX10_swap_47 (by decide) ?_
        refine lv_istore_n (lv' := [(3, .int 1), (0, .ref (a 0)), (1, .int y), (2, .int z)]) hx hb dX10_swap_51 rfl hl (by decide) rfl (fun ls hl => ?_)
        refine lv_aload_n hx hb dX10_swap_52 rfl (lv_at hl 1 rfl) ?_
        refine gf (k0 := 0) hX hB (mw0x (a := a) (r := r) (f := f) (q := (va_up q 3 t24)) (T := tb a) (w := w) rfl) rfl in10 0 (by decide) wm_5_162 rfl rfl dX10_swap_53 ?_
        refine lv_iload_n hx hb dX10_swap_56 rfl (lv_at hl 2 rfl) ?_
        refine aaldM (k0 := 1) hX hB (mw1 (a := a) (r := r) (f := f) (q := (va_up q 3 t24)) (T := tb a) (w := w)) (vp_in_mk (by assumption) (by assumption)) rfl dX10_swap_57 ?_
        have hb34 := mok_r hm y.toNatClampNeg (by omega)
        refine lv_astore (lv' := [(4, .ref (a (2 + 2 * y.toNatClampNeg))), (3, .int 1), (0, .ref (a 0)), (1, .int y), (2, .int z)]) hx hb dX10_swap_58 hl (by decide) rfl (fun ls hl => ?_)
        refine lv_aload_n hx hb dX10_swap_60 rfl (lv_at hl 2 rfl) ?_
        refine gf (k0 := 0) hX hB (mw0x (a := a) (r := r) (f := f) (q := (va_up q 3 t24)) (T := tb a) (w := w) rfl) rfl in10 0 (by decide) wm_5_162 rfl rfl dX10_swap_61 ?_
        refine lv_iload_n hx hb dX10_swap_64 rfl (lv_at hl 3 rfl) ?_
        refine lv_aload_n hx hb dX10_swap_65 rfl (lv_at hl 2 rfl) ?_
        refine gf (k0 := 0) hX hB (mw0x (a := a) (r := r) (f := f) (q := (va_up q 3 t24)) (T := tb a) (w := w) rfl) rfl in10 0 (by decide) wm_5_162 rfl rfl dX10_swap_66 ?_
        refine lv_iload_n hx hb dX10_swap_69 rfl (lv_at hl 4 rfl) ?_
        refine aaldM (k0 := 1) hX hB (mw1 (a := a) (r := r) (f := f) (q := (va_up q 3 t24)) (T := tb a) (w := w)) (vp_in_mk (by assumption) (by assumption)) rfl dX10_swap_70 ?_
        have hb35 := mok_r hm z.toNatClampNeg (by omega)
        refine astM (f := tb a) (k0 := 1) (k1 := 2 + 2 * z.toNatClampNeg) hX hB (mw1 (a := a) (r := r) (f := f) (q := (va_up q 3 t24)) (T := tb a) (w := w)) (mwG (i := z.toNatClampNeg) (a := a) (r := r) (f := f) (q := (va_up q 3 t24)) (T := tb a) (w := w) (by omega)) (vp_in_mk (by assumption) (by assumption)) (w1 := mw κ a r f (va_up q 3 t24) (va_up (tb a) y.toNatClampNeg (some (a (2 + 2 * z.toNatClampNeg)))) w) (mwST _) dX10_swap_71 (fun H locs hB => ?_)
        refine lv_aload_n hx hb dX10_swap_72 rfl (lv_at hl 2 rfl) ?_
        refine gf (k0 := 0) hX hB (mw0x (a := a) (r := r) (f := f) (q := (va_up q 3 t24)) (T := va_up (tb a) y.toNatClampNeg (some (a (2 + 2 * z.toNatClampNeg)))) (w := w) rfl) rfl in10 0 (by decide) wm_5_162 rfl rfl dX10_swap_73 ?_
        refine lv_iload_n hx hb dX10_swap_76 rfl (lv_at hl 4 rfl) ?_
        refine lv_aload hx hb dX10_swap_77 (lv_at hl 0 rfl) ?_
        refine astM (f := va_up (tb a) y.toNatClampNeg (some (a (2 + 2 * z.toNatClampNeg)))) (k0 := 1) (k1 := 2 + 2 * y.toNatClampNeg) hX hB (mw1 (a := a) (r := r) (f := f) (q := (va_up q 3 t24)) (T := va_up (tb a) y.toNatClampNeg (some (a (2 + 2 * z.toNatClampNeg)))) (w := w)) (mwG (i := y.toNatClampNeg) (a := a) (r := r) (f := f) (q := (va_up q 3 t24)) (T := va_up (tb a) y.toNatClampNeg (some (a (2 + 2 * z.toNatClampNeg)))) (w := w) (by omega)) (vp_in_mk (by assumption) (by assumption)) (w1 := mw κ a r f (va_up q 3 t24) (va_up (va_up (tb a) y.toNatClampNeg (some (a (2 + 2 * z.toNatClampNeg)))) z.toNatClampNeg (some (a (2 + 2 * y.toNatClampNeg)))) w) (mwST _) dX10_swap_79 (fun H locs hB => ?_)
        obtain ⟨a36, ha37, hB⟩ := Bd_swap2 (t := y.toNatClampNeg) (u := z.toNatClampNeg) (by omega) (by omega) hB
        refine lv_aload_n hx hb dX10_swap_80 rfl (lv_at hl 2 rfl) ?_
        refine lv_iload_n hx hb dX10_swap_81 rfl (lv_at hl 1 rfl) ?_
        refine lv_if_eq (tgt := 89) hx hb dX10_swap_82 (by decide) (fun c38 => False.elim (by revert c38; decide)) (fun _ => ?_)
        refine lv_iconst (v := 1) hx hb dX10_swap_85 (by decide) ?_
        refine lv_goto (tgt := 90) hx hb dX10_swap_86 (by decide) ?_
        refine call_V (n := 1) (k0 := 0) (As := [.int 1]) (rest := []) hX hB (k_X10_told κ l (mw κ a36 (fun k => r (swr y.toNatClampNeg z.toNatClampNeg k)) (fun k => f (sw1 y.toNatClampNeg z.toNatClampNeg k)) (va_up q 3 t24) (tb a36) w) 0 (a 0) (a36 1) ((va_up q 3 t24) 0) ((va_up q 3 t24) 1) ((va_up q 3 t24) 2) ((va_up q 3 t24) 3) 1 (mw0x (a := a36) (r := (fun k => r (swr y.toNatClampNeg z.toNatClampNeg k))) (f := (fun k => f (sw1 y.toNatClampNeg z.toNatClampNeg k))) (q := (va_up q 3 t24)) (T := tb a36) (w := w) (ha37.trans rfl))) ⟨rfl, yk_X10_told⟩ wm_5_208 wm_5_210 wp_30 wm_1_6 wm_5_211 ⟨Nat.le_of_ble_eq_true rfl, Nat.le_of_ble_eq_true rfl⟩ ⟨Nat.le_of_ble_eq_true rfl, Nat.le_of_ble_eq_true rfl⟩ (mw0x (a := a36) (r := (fun k => r (swr y.toNatClampNeg z.toNatClampNeg k))) (f := (fun k => f (sw1 y.toNatClampNeg z.toNatClampNeg k))) (q := (va_up q 3 t24)) (T := tb a36) (w := w) (ha37.trans rfl)) rfl rfl rfl hl.1 rfl (Nat.le_of_ble_eq_true rfl) dX10_swap_90 (fun o w' H locs hp hB => ?_)
        obtain ⟨rfl, hw9⟩ := hp
        replace hB : Bd κ A s (mw κ a36 (fun k => r (swr y.toNatClampNeg z.toNatClampNeg k)) (fun k => f (sw1 y.toNatClampNeg z.toNatClampNeg k)) (va_up (va_up q 3 t24) 0 (((va_up q 3 t24) 0) + 1)) (tb a36) w) H locs := by exact Bd_eq (mwQ0x (ha37.trans rfl) _) (by rw [hw9] at hB; exact hB)
        refine W.eq (g2 := F0 m 93 ls [.int 1]) rfl ?_
        rw [← hQ]
        exact end_i hX hB hA3 rfl rfl (by obtain ⟨rfl, rfl, rfl, rfl⟩ := pr4 hR; exact ⟨a36, rfl, (ha37.trans rfl), (mok_swap hm (t := y.toNatClampNeg) (u := z.toNatClampNeg) (by omega) (by omega)), rfl, rfl⟩) (Nat.le_of_ble_eq_true rfl) (Nat.le_of_ble_eq_true rfl) dX10_swap_93
      · replace hR := ifn (by decide) hR
        refine W.eq (g2 := F0 m 43 ls [.int 1]) rfl ?_
        refine lv_if_ne (tgt := 50) hx hb dX10_swap_43 (by decide) (fun _ => ?_) (fun c39 => False.elim (by revert c39; decide))
        refine lv_iconst (v := 0) hx hb dX10_swap_50 (by decide) ?_
        refine lv_istore_n (lv' := [(3, .int 0), (0, .ref (a 0)), (1, .int y), (2, .int z)]) hx hb dX10_swap_51 rfl hl (by decide) rfl (fun ls hl => ?_)
        refine lv_aload_n hx hb dX10_swap_52 rfl (lv_at hl 1 rfl) ?_
        refine gf (k0 := 0) hX hB (mw0x (a := a) (r := r) (f := f) (q := (va_up q 3 t24)) (T := tb a) (w := w) rfl) rfl in10 0 (by decide) wm_5_162 rfl rfl dX10_swap_53 ?_
        refine lv_iload_n hx hb dX10_swap_56 rfl (lv_at hl 2 rfl) ?_
        refine aaldM (k0 := 1) hX hB (mw1 (a := a) (r := r) (f := f) (q := (va_up q 3 t24)) (T := tb a) (w := w)) (vp_in_mk (by assumption) (by assumption)) rfl dX10_swap_57 ?_
        have hb40 := mok_r hm y.toNatClampNeg (by omega)
        refine lv_astore (lv' := [(4, .ref (a (2 + 2 * y.toNatClampNeg))), (3, .int 0), (0, .ref (a 0)), (1, .int y), (2, .int z)]) hx hb dX10_swap_58 hl (by decide) rfl (fun ls hl => ?_)
        refine lv_aload_n hx hb dX10_swap_60 rfl (lv_at hl 2 rfl) ?_
        refine gf (k0 := 0) hX hB (mw0x (a := a) (r := r) (f := f) (q := (va_up q 3 t24)) (T := tb a) (w := w) rfl) rfl in10 0 (by decide) wm_5_162 rfl rfl dX10_swap_61 ?_
        refine lv_iload_n hx hb dX10_swap_64 rfl (lv_at hl 3 rfl) ?_
        refine lv_aload_n hx hb dX10_swap_65 rfl (lv_at hl 2 rfl) ?_
        refine gf (k0 := 0) hX hB (mw0x (a := a) (r := r) (f := f) (q := (va_up q 3 t24)) (T := tb a) (w := w) rfl) rfl in10 0 (by decide) wm_5_162 rfl rfl dX10_swap_66 ?_
        refine lv_iload_n hx hb dX10_swap_69 rfl (lv_at hl 4 rfl) ?_
        refine aaldM (k0 := 1) hX hB (mw1 (a := a) (r := r) (f := f) (q := (va_up q 3 t24)) (T := tb a) (w := w)) (vp_in_mk (by assumption) (by assumption)) rfl dX10_swap_70 ?_
        have hb41 := mok_r hm z.toNatClampNeg (by omega)
        refine astM (f := tb a) (k0 := 1) (k1 := 2 + 2 * z.toNatClampNeg) hX hB (mw1 (a := a) (r := r) (f := f) (q := (va_up q 3 t24)) (T := tb a) (w := w)) (mwG (i := z.toNatClampNeg) (a := a) (r := r) (f := f) (q := (va_up q 3 t24)) (T := tb a) (w := w) (by omega)) (vp_in_mk (by assumption) (by assumption)) (w1 := mw κ a r f (va_up q 3 t24) (va_up (tb a) y.toNatClampNeg (some (a (2 + 2 * z.toNatClampNeg)))) w) (mwST _) dX10_swap_71 (fun H locs hB => ?_)
        refine lv_aload_n hx hb dX10_swap_72 rfl (lv_at hl 2 rfl) ?_
        refine gf (k0 := 0) hX hB (mw0x (a := a) (r := r) (f := f) (q := (va_up q 3 t24)) (T := va_up (tb a) y.toNatClampNeg (some (a (2 + 2 * z.toNatClampNeg)))) (w := w) rfl) rfl in10 0 (by decide) wm_5_162 rfl rfl dX10_swap_73 ?_
        refine lv_iload_n hx hb dX10_swap_76 rfl (lv_at hl 4 rfl) ?_
        refine lv_aload hx hb dX10_swap_77 (lv_at hl 0 rfl) ?_
        refine astM (f := va_up (tb a) y.toNatClampNeg (some (a (2 + 2 * z.toNatClampNeg)))) (k0 := 1) (k1 := 2 + 2 * y.toNatClampNeg) hX hB (mw1 (a := a) (r := r) (f := f) (q := (va_up q 3 t24)) (T := va_up (tb a) y.toNatClampNeg (some (a (2 + 2 * z.toNatClampNeg)))) (w := w)) (mwG (i := y.toNatClampNeg) (a := a) (r := r) (f := f) (q := (va_up q 3 t24)) (T := va_up (tb a) y.toNatClampNeg (some (a (2 + 2 * z.toNatClampNeg)))) (w := w) (by omega)) (vp_in_mk (by assumption) (by assumption)) (w1 := mw κ a r f (va_up q 3 t24) (va_up (va_up (tb a) y.toNatClampNeg (some (a (2 + 2 * z.toNatClampNeg)))) z.toNatClampNeg (some (a (2 + 2 * y.toNatClampNeg)))) w) (mwST _) dX10_swap_79 (fun H locs hB => ?_)
        obtain ⟨a42, ha43, hB⟩ := Bd_swap2 (t := y.toNatClampNeg) (u := z.toNatClampNeg) (by omega) (by omega) hB
        refine lv_aload_n hx hb dX10_swap_80 rfl (lv_at hl 2 rfl) ?_
        refine lv_iload_n hx hb dX10_swap_81 rfl (lv_at hl 1 rfl) ?_
        refine lv_if_eq (tgt := 89) hx hb dX10_swap_82 (by decide) (fun _ => ?_) (fun c44 => False.elim (by revert c44; decide))
        refine lv_iconst (v := 0) hx hb dX10_swap_89 (by decide) ?_
        refine call_V (n := 1) (k0 := 0) (As := [.int 0]) (rest := []) hX hB (k_X10_told κ l (mw κ a42 (fun k => r (swr y.toNatClampNeg z.toNatClampNeg k)) (fun k => f (sw1 y.toNatClampNeg z.toNatClampNeg k)) (va_up q 3 t24) (tb a42) w) 0 (a 0) (a42 1) ((va_up q 3 t24) 0) ((va_up q 3 t24) 1) ((va_up q 3 t24) 2) ((va_up q 3 t24) 3) 0 (mw0x (a := a42) (r := (fun k => r (swr y.toNatClampNeg z.toNatClampNeg k))) (f := (fun k => f (sw1 y.toNatClampNeg z.toNatClampNeg k))) (q := (va_up q 3 t24)) (T := tb a42) (w := w) (ha43.trans rfl))) ⟨rfl, yk_X10_told⟩ wm_5_208 wm_5_210 wp_30 wm_1_6 wm_5_211 ⟨Nat.le_of_ble_eq_true rfl, Nat.le_of_ble_eq_true rfl⟩ ⟨Nat.le_of_ble_eq_true rfl, Nat.le_of_ble_eq_true rfl⟩ (mw0x (a := a42) (r := (fun k => r (swr y.toNatClampNeg z.toNatClampNeg k))) (f := (fun k => f (sw1 y.toNatClampNeg z.toNatClampNeg k))) (q := (va_up q 3 t24)) (T := tb a42) (w := w) (ha43.trans rfl)) rfl rfl rfl hl.1 rfl (Nat.le_of_ble_eq_true rfl) dX10_swap_90 (fun o w' H locs hp hB => ?_)
        obtain ⟨rfl, hw9⟩ := hp
        replace hB : Bd κ A s (mw κ a42 (fun k => r (swr y.toNatClampNeg z.toNatClampNeg k)) (fun k => f (sw1 y.toNatClampNeg z.toNatClampNeg k)) (va_up (va_up q 3 t24) 0 (((va_up q 3 t24) 0) + 1)) (tb a42) w) H locs := by exact Bd_eq (mwQ0x (ha43.trans rfl) _) (by rw [hw9] at hB; exact hB)
        refine W.eq (g2 := F0 m 93 ls [.int 0]) rfl ?_
        rw [← hQ]
        exact end_i hX hB hA3 rfl rfl (by obtain ⟨rfl, rfl, rfl, rfl⟩ := pr4 hR; exact ⟨a42, rfl, (ha43.trans rfl), (mok_swap hm (t := y.toNatClampNeg) (u := z.toNatClampNeg) (by omega) (by omega)), rfl, rfl⟩) (Nat.le_of_ble_eq_true rfl) (Nat.le_of_ble_eq_true rfl) dX10_swap_93
noncomputable def D_X10_flip (r : Nat → Nat) (f : Nat → Nat → Int64) (q : Nat → Int32) (y : Int32) : Int32 × (Nat → Nat) × (Nat → Nat → Int64) × (Nat → Int32) := bnd1 (D_X10_isTable y) (fun (z1 : Int32) => (if z1 = 0 then bnd2 (D_X10_isThrown__ (q 0) (q 1) (q 2) (q 3) 1) (fun (x6 : Int32) (t7 : Int32) => (0, r, f, va_up q 3 t7)) else bnd2 (D_X10_isThrown__ (q 0) (q 1) (q 2) (q 3) 0) (fun (x12 : Int32) (t13 : Int32) => bnd1 (D_X10_flipped (r (2 * y.toNatClampNeg)) (r (2 * y.toNatClampNeg + 1)) (f y.toNatClampNeg)) (fun (F20 : Nat → Int64) => (nI ((va_up (va_up r (2 * y.toNatClampNeg) (r (2 * y.toNatClampNeg + 1))) (2 * y.toNatClampNeg + 1) (r (2 * y.toNatClampNeg))) (2 * y.toNatClampNeg)), va_up (va_up r (2 * y.toNatClampNeg) (r (2 * y.toNatClampNeg + 1))) (2 * y.toNatClampNeg + 1) (r (2 * y.toNatClampNeg)), va_up f y.toNatClampNeg F20, va_up (va_up q 3 t13) 0 (((va_up q 3 t13) 0) + 1))))))
theorem D_X10_flip_s {r : Nat → Nat} {f : Nat → Nat → Int64} {q : Nat → Int32} {y : Int32} : D_X10_flip r f q y = bnd1 (D_X10_isTable y) (fun (z1 : Int32) => (if z1 = 0 then bnd2 (D_X10_isThrown__ (q 0) (q 1) (q 2) (q 3) 1) (fun (x6 : Int32) (t7 : Int32) => (0, r, f, va_up q 3 t7)) else bnd2 (D_X10_isThrown__ (q 0) (q 1) (q 2) (q 3) 0) (fun (x12 : Int32) (t13 : Int32) => bnd1 (D_X10_flipped (r (2 * y.toNatClampNeg)) (r (2 * y.toNatClampNeg + 1)) (f y.toNatClampNeg)) (fun (F20 : Nat → Int64) => (nI ((va_up (va_up r (2 * y.toNatClampNeg) (r (2 * y.toNatClampNeg + 1))) (2 * y.toNatClampNeg + 1) (r (2 * y.toNatClampNeg))) (2 * y.toNatClampNeg)), va_up (va_up r (2 * y.toNatClampNeg) (r (2 * y.toNatClampNeg + 1))) (2 * y.toNatClampNeg + 1) (r (2 * y.toNatClampNeg)), va_up f y.toNatClampNeg F20, va_up (va_up q 3 t13) 0 (((va_up q 3 t13) 0) + 1)))))) := rfl
set_option maxHeartbeats 4000000 in
set_option maxRecDepth 100000 in
theorem k_X10_flip (κ : Kt) (l : Launch) (w : va_W) (a r : Nat → Nat) (f : Nat → Nat → Int64) (q : Nat → Int32) (y : Int32) (hm : mok r f) (o_x : Int32) (o_r' : Nat → Nat) (o_f' : Nat → Nat → Int64) (o_q' : Nat → Int32) (hR : D_X10_flip r f q y = (o_x, o_r', o_f', o_q')) : CM κ l yX10_flip cX10_flip 2 (some .int) 3 65 2 23 [.ref (a 0), .int y] (mw κ a r f q (tb a) w) (fun o w' => ∃ (a' : Nat → Nat), o = some (.int o_x) ∧ (a' 0 = a 0) ∧ (mok o_r' o_f') ∧ (o_q' 2 = q 2) ∧ w' = mw κ a' o_r' o_f' o_q' (tb a') w) := by
  refine CM_begin (plainFor_of_name pn_RX10) (Nat.le_of_ble_eq_true rfl) ?_
  intro p e s m args below meth c A Q hX hnm hA3 hQ hB ls hl
  have hx := hX.1.1
  have hb := hX.1.2.1
  have hl : lv_has ls 2 [(0, .ref (a 0)), (1, .int y)] := hl
  replace hR := (D_X10_flip_s).symm.trans hR
  refine lv_aload_n hx hb dX10_flip_0 rfl (lv_at hl 0 rfl) ?_
  refine lv_iload_n hx hb dX10_flip_1 rfl (lv_at hl 1 rfl) ?_
  obtain ⟨z1, hd2⟩ := ex1 (D_X10_isTable y)
  replace hR := bnd1_use hd2 hR
  refine call_S (n := 1) (As := [.int y]) (rest := [.ref (a 0)]) hX hB (k_X10_isTable κ l (mw κ a r f q (tb a) w) y z1 hd2) yk_X10_isTable wm_5_186 wm_5_187 wm_1_6 wm_5_188 ⟨Nat.le_of_ble_eq_true rfl, Nat.le_of_ble_eq_true rfl⟩ ⟨Nat.le_of_ble_eq_true rfl, Nat.le_of_ble_eq_true rfl⟩ rfl hl.1 rfl (Nat.le_of_ble_eq_true rfl) dX10_flip_2 (fun o w' H locs hp hB => ?_)
  obtain ⟨rfl, hf3, hw9⟩ := hp
  replace hB : Bd κ A s (mw κ a r f q (tb a) w) H locs := by rw [hw9] at hB; exact hB
  rcases hf3 with rfl | ⟨rfl, hz4a, hz4b⟩
  · replace hR := ifp rfl hR
    refine W.eq (g2 := F0 m 5 ls [.int 0, .ref (a 0)]) rfl ?_
    refine lv_if_ne (tgt := 12) hx hb dX10_flip_5 (by decide) (fun c5 => False.elim (by revert c5; decide)) (fun _ => ?_)
    refine lv_iconst (v := 1) hx hb dX10_flip_8 (by decide) ?_
    refine lv_goto (tgt := 13) hx hb dX10_flip_9 (by decide) ?_
    obtain ⟨x6, t7, hd8⟩ := ex2 (D_X10_isThrown__ (q 0) (q 1) (q 2) (q 3) 1)
    replace hR := bnd2_use hd8 hR
    refine call_V (n := 1) (k0 := 0) (As := [.int 1]) (rest := []) hX hB (k_X10_isThrown__ κ l (mw κ a r f q (tb a) w) 0 (a 0) (a 1) (q 0) (q 1) (q 2) (q 3) 1 (mw0x (a := a) (r := r) (f := f) (q := q) (T := tb a) (w := w) rfl) x6 t7 hd8) ⟨rfl, yk_X10_isThrown__⟩ wm_6_15 wm_6_17 wp_33 wm_1_6 wm_6_18 ⟨Nat.le_of_ble_eq_true rfl, Nat.le_of_ble_eq_true rfl⟩ ⟨Nat.le_of_ble_eq_true rfl, Nat.le_of_ble_eq_true rfl⟩ (mw0x (a := a) (r := r) (f := f) (q := q) (T := tb a) (w := w) rfl) rfl rfl rfl hl.1 rfl (Nat.le_of_ble_eq_true rfl) dX10_flip_13 (fun o w' H locs hp hB => ?_)
    obtain ⟨rfl, hf9, hw9⟩ := hp
    replace hB : Bd κ A s (mw κ a r f (va_up q 3 t7) (tb a) w) H locs := by exact Bd_eq (mwQ3x rfl _) (by rw [hw9] at hB; exact hB)
    obtain rfl : x6 = 1 := hf9.trans (by decide)
    refine W.eq (g2 := F0 m 16 ls [.int 1]) rfl ?_
    refine lv_if_eq (tgt := 21) hx hb dX10_flip_16 (by decide) (fun c10 => False.elim (by revert c10; decide)) (fun _ => ?_)
    refine lv_iconst (v := 0) hx hb dX10_flip_19 (by decide) ?_
    rw [← hQ]
    exact end_i hX hB hA3 rfl rfl (by obtain ⟨rfl, rfl, rfl, rfl⟩ := pr4 hR; exact ⟨a, rfl, rfl, hm, rfl, rfl⟩) (Nat.le_of_ble_eq_true rfl) (Nat.le_of_ble_eq_true rfl) dX10_flip_20
  · replace hR := ifn (by decide) hR
    refine W.eq (g2 := F0 m 5 ls [.int 1, .ref (a 0)]) rfl ?_
    refine lv_if_ne (tgt := 12) hx hb dX10_flip_5 (by decide) (fun _ => ?_) (fun c11 => False.elim (by revert c11; decide))
    refine lv_iconst (v := 0) hx hb dX10_flip_12 (by decide) ?_
    obtain ⟨x12, t13, hd14⟩ := ex2 (D_X10_isThrown__ (q 0) (q 1) (q 2) (q 3) 0)
    replace hR := bnd2_use hd14 hR
    refine call_V (n := 1) (k0 := 0) (As := [.int 0]) (rest := []) hX hB (k_X10_isThrown__ κ l (mw κ a r f q (tb a) w) 0 (a 0) (a 1) (q 0) (q 1) (q 2) (q 3) 0 (mw0x (a := a) (r := r) (f := f) (q := q) (T := tb a) (w := w) rfl) x12 t13 hd14) ⟨rfl, yk_X10_isThrown__⟩ wm_6_15 wm_6_17 wp_33 wm_1_6 wm_6_18 ⟨Nat.le_of_ble_eq_true rfl, Nat.le_of_ble_eq_true rfl⟩ ⟨Nat.le_of_ble_eq_true rfl, Nat.le_of_ble_eq_true rfl⟩ (mw0x (a := a) (r := r) (f := f) (q := q) (T := tb a) (w := w) rfl) rfl rfl rfl hl.1 rfl (Nat.le_of_ble_eq_true rfl) dX10_flip_13 (fun o w' H locs hp hB => ?_)
    obtain ⟨rfl, hf15, hw9⟩ := hp
    replace hB : Bd κ A s (mw κ a r f (va_up q 3 t13) (tb a) w) H locs := by exact Bd_eq (mwQ3x rfl _) (by rw [hw9] at hB; exact hB)
    obtain rfl : x12 = 0 := hf15.trans (by decide)
    refine W.eq (g2 := F0 m 16 ls [.int 0]) rfl ?_
    refine lv_if_eq (tgt := 21) hx hb dX10_flip_16 (by decide) (fun _ => ?_) (fun c16 => False.elim (by revert c16; decide))
    refine lv_aload_n hx hb dX10_flip_21 rfl (lv_at hl 0 rfl) ?_
    refine gf (k0 := 0) hX hB (mw0x (a := a) (r := r) (f := f) (q := (va_up q 3 t13)) (T := tb a) (w := w) rfl) rfl in10 0 (by decide) wm_5_162 rfl rfl dX10_flip_22 ?_
    refine lv_iload_n hx hb dX10_flip_25 rfl (lv_at hl 1 rfl) ?_
    refine lv_aload_n hx hb dX10_flip_26 rfl (lv_at hl 0 rfl) ?_
    refine gf (k0 := 0) hX hB (mw0x (a := a) (r := r) (f := f) (q := (va_up q 3 t13)) (T := tb a) (w := w) rfl) rfl in10 0 (by decide) wm_5_162 rfl rfl dX10_flip_27 ?_
    refine lv_iload_n hx hb dX10_flip_30 rfl (lv_at hl 1 rfl) ?_
    refine aaldM (k0 := 1) hX hB (mw1 (a := a) (r := r) (f := f) (q := (va_up q 3 t13)) (T := tb a) (w := w)) (vp_in_mk (by assumption) (by assumption)) rfl dX10_flip_31 ?_
    have hb17 := mok_r hm y.toNatClampNeg (by omega)
    obtain ⟨F20, hd21⟩ := ex1 (D_X10_flipped (r (2 * y.toNatClampNeg)) (r (2 * y.toNatClampNeg + 1)) (f y.toNatClampNeg))
    replace hR := bnd1_use hd21 hR
    refine call_S (n := 1) (As := [.ref (a (2 + 2 * y.toNatClampNeg))]) (rest := [.int y, .ref (a 1)]) hX hB (k_X10_flipped κ l (mw κ a r f (va_up q 3 t13) (tb a) w) (2 + 2 * y.toNatClampNeg) (3 + 2 * y.toNatClampNeg) (a (2 + 2 * y.toNatClampNeg)) (a (3 + 2 * y.toNatClampNeg)) (r (2 * y.toNatClampNeg)) (r (2 * y.toNatClampNeg + 1)) (f y.toNatClampNeg) (mwG (i := y.toNatClampNeg) (a := a) (r := r) (f := f) (q := (va_up q 3 t13)) (T := tb a) (w := w) (by omega)) (mwA (i := y.toNatClampNeg) (a := a) (r := r) (f := f) (q := (va_up q 3 t13)) (T := tb a) (w := w) (by omega)) (mok_shp (i := y.toNatClampNeg) hm (by omega)) (by omega) ((hm _ (by omega)).2) F20 hd21) yk_X10_flipped wm_6_35 wm_6_36 wm_1_6 wm_6_37 ⟨Nat.le_of_ble_eq_true rfl, Nat.le_of_ble_eq_true rfl⟩ ⟨Nat.le_of_ble_eq_true rfl, Nat.le_of_ble_eq_true rfl⟩ rfl hl.1 rfl (Nat.le_of_ble_eq_true rfl) dX10_flip_32 (fun o w' H locs hp hB => ?_)
    obtain ⟨q18, q19, rfl, hf22, hw9⟩ := hp
    replace hB : Bd κ A s (lA κ q19 ((r (2 * y.toNatClampNeg + 1)) * 5) F20 :: gO q18 (r (2 * y.toNatClampNeg + 1)) (r (2 * y.toNatClampNeg)) q19 :: mw κ a r f (va_up q 3 t13) (tb a) w) H locs := by rw [hw9] at hB; exact hB
    refine W.eq (g2 := F0 m 35 ls [.ref q18, .int y, .ref (a 1)]) rfl ?_
    refine astM (f := tb a) (k0 := 3) (k1 := 1) hX hB (mw1 (a := a) (r := r) (f := f) (q := (va_up q 3 t13)) (T := tb a) (w := w)) rfl (vp_in_mk (by assumption) (by assumption)) (w1 := lA κ q19 ((r (2 * y.toNatClampNeg + 1)) * 5) F20 :: gO q18 (r (2 * y.toNatClampNeg + 1)) (r (2 * y.toNatClampNeg)) q19 :: mw κ a r f (va_up q 3 t13) (va_up (tb a) y.toNatClampNeg (some q18)) w) (congrArg (List.cons _) (congrArg (List.cons _) (mwST _))) dX10_flip_35 (fun H locs hB => ?_)
    obtain ⟨a23, ha24, hg25, hB⟩ := Bd_repl2 (t := y.toNatClampNeg) (by omega) hB
    have hba23 := mok_r hm y.toNatClampNeg (by omega)
    refine lv_aload_n hx hb dX10_flip_36 rfl (lv_at hl 0 rfl) ?_
    refine lv_aload_n hx hb dX10_flip_37 rfl (lv_at hl 0 rfl) ?_
    refine gf (k0 := 0) hX hB (mw0x (a := a23) (r := (va_up (va_up r (2 * y.toNatClampNeg) (r (2 * y.toNatClampNeg + 1))) (2 * y.toNatClampNeg + 1) (r (2 * y.toNatClampNeg)))) (f := (va_up f y.toNatClampNeg F20)) (q := (va_up q 3 t13)) (T := tb a23) (w := w) (ha24.trans rfl)) rfl in10 0 (by decide) wm_5_162 rfl rfl dX10_flip_38 ?_
    refine lv_iload_n hx hb dX10_flip_41 rfl (lv_at hl 1 rfl) ?_
    refine aaldM (k0 := 1) hX hB (mw1 (a := a23) (r := (va_up (va_up r (2 * y.toNatClampNeg) (r (2 * y.toNatClampNeg + 1))) (2 * y.toNatClampNeg + 1) (r (2 * y.toNatClampNeg)))) (f := (va_up f y.toNatClampNeg F20)) (q := (va_up q 3 t13)) (T := tb a23) (w := w)) (vp_in_mk (by assumption) (by assumption)) rfl dX10_flip_42 ?_
    have hb26 := mok_r (mok_repl (t := y.toNatClampNeg) (R := (r (2 * y.toNatClampNeg + 1))) (C := (r (2 * y.toNatClampNeg))) (F := F20) hm ⟨by omega, by omega, by omega, by omega⟩ hf22) y.toNatClampNeg (by omega)
    refine gf (k0 := 2 + 2 * y.toNatClampNeg) hX hB (mwG (i := y.toNatClampNeg) (a := a23) (r := (va_up (va_up r (2 * y.toNatClampNeg) (r (2 * y.toNatClampNeg + 1))) (2 * y.toNatClampNeg + 1) (r (2 * y.toNatClampNeg)))) (f := (va_up f y.toNatClampNeg F20)) (q := (va_up q 3 t13)) (T := tb a23) (w := w) (by omega)) rfl in7 0 (by decide) wm_5_148 rfl rfl dX10_flip_43 ?_
    refine call_V (n := 1) (k0 := 0) (As := [.int (nI ((va_up (va_up r (2 * y.toNatClampNeg) (r (2 * y.toNatClampNeg + 1))) (2 * y.toNatClampNeg + 1) (r (2 * y.toNatClampNeg))) (2 * y.toNatClampNeg)))]) (rest := []) hX hB (k_X10_told κ l (mw κ a23 (va_up (va_up r (2 * y.toNatClampNeg) (r (2 * y.toNatClampNeg + 1))) (2 * y.toNatClampNeg + 1) (r (2 * y.toNatClampNeg))) (va_up f y.toNatClampNeg F20) (va_up q 3 t13) (tb a23) w) 0 (a 0) (a23 1) ((va_up q 3 t13) 0) ((va_up q 3 t13) 1) ((va_up q 3 t13) 2) ((va_up q 3 t13) 3) (nI ((va_up (va_up r (2 * y.toNatClampNeg) (r (2 * y.toNatClampNeg + 1))) (2 * y.toNatClampNeg + 1) (r (2 * y.toNatClampNeg))) (2 * y.toNatClampNeg))) (mw0x (a := a23) (r := (va_up (va_up r (2 * y.toNatClampNeg) (r (2 * y.toNatClampNeg + 1))) (2 * y.toNatClampNeg + 1) (r (2 * y.toNatClampNeg)))) (f := (va_up f y.toNatClampNeg F20)) (q := (va_up q 3 t13)) (T := tb a23) (w := w) (ha24.trans rfl))) ⟨rfl, yk_X10_told⟩ wm_5_208 wm_5_210 wp_30 wm_1_6 wm_5_211 ⟨Nat.le_of_ble_eq_true rfl, Nat.le_of_ble_eq_true rfl⟩ ⟨Nat.le_of_ble_eq_true rfl, Nat.le_of_ble_eq_true rfl⟩ (mw0x (a := a23) (r := (va_up (va_up r (2 * y.toNatClampNeg) (r (2 * y.toNatClampNeg + 1))) (2 * y.toNatClampNeg + 1) (r (2 * y.toNatClampNeg)))) (f := (va_up f y.toNatClampNeg F20)) (q := (va_up q 3 t13)) (T := tb a23) (w := w) (ha24.trans rfl)) rfl rfl rfl hl.1 rfl (Nat.le_of_ble_eq_true rfl) dX10_flip_46 (fun o w' H locs hp hB => ?_)
    obtain ⟨rfl, hw9⟩ := hp
    replace hB : Bd κ A s (mw κ a23 (va_up (va_up r (2 * y.toNatClampNeg) (r (2 * y.toNatClampNeg + 1))) (2 * y.toNatClampNeg + 1) (r (2 * y.toNatClampNeg))) (va_up f y.toNatClampNeg F20) (va_up (va_up q 3 t13) 0 (((va_up q 3 t13) 0) + 1)) (tb a23) w) H locs := by exact Bd_eq (mwQ0x (ha24.trans rfl) _) (by rw [hw9] at hB; exact hB)
    refine W.eq (g2 := F0 m 49 ls [.int (nI ((va_up (va_up r (2 * y.toNatClampNeg) (r (2 * y.toNatClampNeg + 1))) (2 * y.toNatClampNeg + 1) (r (2 * y.toNatClampNeg))) (2 * y.toNatClampNeg)))]) rfl ?_
    rw [← hQ]
    exact end_i hX hB hA3 rfl rfl (by obtain ⟨rfl, rfl, rfl, rfl⟩ := pr4 hR; exact ⟨a23, rfl, (ha24.trans rfl), (mok_repl (t := y.toNatClampNeg) (R := (r (2 * y.toNatClampNeg + 1))) (C := (r (2 * y.toNatClampNeg))) (F := F20) hm ⟨by omega, by omega, by omega, by omega⟩ hf22), rfl, rfl⟩) (Nat.le_of_ble_eq_true rfl) (Nat.le_of_ble_eq_true rfl) dX10_flip_49
noncomputable def D_X10_exchange (r : Nat → Nat) (f : Nat → Nat → Int64) (q : Nat → Int32) (y : Int32) (c0 : Int32) (z : Int32) (u : Int32) : Int32 × (Nat → Nat) × (Nat → Nat → Int64) × (Nat → Int32) := bnd1 (D_X10_isLine r f q y c0 z) (fun (x1 : Int32) => (if x1 = 0 then bnd2 (D_X10_isThrown__ (q 0) (q 1) (q 2) (q 3) 1) (fun (x6 : Int32) (t7 : Int32) => (0, r, f, va_up q 3 t7)) else bnd1 (D_X10_isLine r f q y c0 u) (fun (x12 : Int32) => (if x12 = 0 then bnd2 (D_X10_isThrown__ (q 0) (q 1) (q 2) (q 3) 1) (fun (x17 : Int32) (t18 : Int32) => (0, r, f, va_up q 3 t18)) else bnd2 (D_X10_isThrown__ (q 0) (q 1) (q 2) (q 3) 0) (fun (x23 : Int32) (t24 : Int32) => bnd1 (D_X7_copy (r (2 * y.toNatClampNeg)) (r (2 * y.toNatClampNeg + 1)) (f y.toNatClampNeg)) (fun (F31 : Nat → Int64) => (if c0 = 0 then bnd4 (D_X10_changed r f (va_up q 3 t24) y (r (2 * y.toNatClampNeg)) (r (2 * y.toNatClampNeg + 1)) (xr (r (2 * y.toNatClampNeg + 1)) ((z).toNatClampNeg) ((u).toNatClampNeg) F31)) (fun (x35 : Int32) (rn37 : Nat → Nat) (fn38 : Nat → Nat → Int64) (qn39 : Nat → Int32) => (x35, rn37, fn38, qn39)) else bnd4 (D_X10_changed r f (va_up q 3 t24) y (r (2 * y.toNatClampNeg)) (r (2 * y.toNatClampNeg + 1)) (xc (r (2 * y.toNatClampNeg)) ((z).toNatClampNeg) ((u).toNatClampNeg) F31)) (fun (x44 : Int32) (rn46 : Nat → Nat) (fn47 : Nat → Nat → Int64) (qn48 : Nat → Int32) => (x44, rn46, fn47, qn48)))))))))
theorem D_X10_exchange_s {r : Nat → Nat} {f : Nat → Nat → Int64} {q : Nat → Int32} {y : Int32} {c0 : Int32} {z : Int32} {u : Int32} : D_X10_exchange r f q y c0 z u = bnd1 (D_X10_isLine r f q y c0 z) (fun (x1 : Int32) => (if x1 = 0 then bnd2 (D_X10_isThrown__ (q 0) (q 1) (q 2) (q 3) 1) (fun (x6 : Int32) (t7 : Int32) => (0, r, f, va_up q 3 t7)) else bnd1 (D_X10_isLine r f q y c0 u) (fun (x12 : Int32) => (if x12 = 0 then bnd2 (D_X10_isThrown__ (q 0) (q 1) (q 2) (q 3) 1) (fun (x17 : Int32) (t18 : Int32) => (0, r, f, va_up q 3 t18)) else bnd2 (D_X10_isThrown__ (q 0) (q 1) (q 2) (q 3) 0) (fun (x23 : Int32) (t24 : Int32) => bnd1 (D_X7_copy (r (2 * y.toNatClampNeg)) (r (2 * y.toNatClampNeg + 1)) (f y.toNatClampNeg)) (fun (F31 : Nat → Int64) => (if c0 = 0 then bnd4 (D_X10_changed r f (va_up q 3 t24) y (r (2 * y.toNatClampNeg)) (r (2 * y.toNatClampNeg + 1)) (xr (r (2 * y.toNatClampNeg + 1)) ((z).toNatClampNeg) ((u).toNatClampNeg) F31)) (fun (x35 : Int32) (rn37 : Nat → Nat) (fn38 : Nat → Nat → Int64) (qn39 : Nat → Int32) => (x35, rn37, fn38, qn39)) else bnd4 (D_X10_changed r f (va_up q 3 t24) y (r (2 * y.toNatClampNeg)) (r (2 * y.toNatClampNeg + 1)) (xc (r (2 * y.toNatClampNeg)) ((z).toNatClampNeg) ((u).toNatClampNeg) F31)) (fun (x44 : Int32) (rn46 : Nat → Nat) (fn47 : Nat → Nat → Int64) (qn48 : Nat → Int32) => (x44, rn46, fn47, qn48))))))))) := rfl
set_option maxHeartbeats 4000000 in
set_option maxRecDepth 100000 in
theorem k_X10_exchange (κ : Kt) (l : Launch) (w : va_W) (a r : Nat → Nat) (f : Nat → Nat → Int64) (q : Nat → Int32) (y : Int32) (c0 : Int32) (z : Int32) (u : Int32) (hm : mok r f) (o_x : Int32) (o_r' : Nat → Nat) (o_f' : Nat → Nat → Int64) (o_q' : Nat → Int32) (hR : D_X10_exchange r f q y c0 z u = (o_x, o_r', o_f', o_q')) : CM κ l yX10_exchange cX10_exchange 6 (some .int) 3 65 2 23 [.ref (a 0), .int y, .int c0, .int z, .int u] (mw κ a r f q (tb a) w) (fun o w' => ∃ (a' : Nat → Nat), o = some (.int o_x) ∧ (a' 0 = a 0) ∧ (mok o_r' o_f') ∧ (o_q' 2 = q 2) ∧ w' = mw κ a' o_r' o_f' o_q' (tb a') w) := by
  refine CM_begin (plainFor_of_name pn_RX10) (Nat.le_of_ble_eq_true rfl) ?_
  intro p e s m args below meth c A Q hX hnm hA3 hQ hB ls hl
  have hx := hX.1.1
  have hb := hX.1.2.1
  have hl : lv_has ls 6 [(0, .ref (a 0)), (1, .int y), (2, .int c0), (3, .int z), (4, .int u)] := hl
  replace hR := (D_X10_exchange_s).symm.trans hR
  refine lv_aload_n hx hb dX10_exchange_0 rfl (lv_at hl 0 rfl) ?_
  refine lv_aload_n hx hb dX10_exchange_1 rfl (lv_at hl 0 rfl) ?_
  refine lv_iload_n hx hb dX10_exchange_2 rfl (lv_at hl 1 rfl) ?_
  refine lv_iload_n hx hb dX10_exchange_3 rfl (lv_at hl 2 rfl) ?_
  refine lv_iload_n hx hb dX10_exchange_4 rfl (lv_at hl 3 rfl) ?_
  obtain ⟨x1, hd2⟩ := ex1 (D_X10_isLine r f q y c0 z)
  replace hR := bnd1_use hd2 hR
  refine call_V (n := 3) (k0 := 0) (As := [.int y, .int c0, .int z]) (rest := [.ref (a 0)]) hX hB (k_X10_isLine κ l w a r f q y c0 z hm x1 hd2) ⟨rfl, yk_X10_isLine⟩ wm_6_42 wm_6_44 wp_34 wm_1_6 wm_6_45 ⟨Nat.le_of_ble_eq_true rfl, Nat.le_of_ble_eq_true rfl⟩ ⟨Nat.le_of_ble_eq_true rfl, Nat.le_of_ble_eq_true rfl⟩ (mw0x (a := a) (r := r) (f := f) (q := q) (T := tb a) (w := w) rfl) rfl rfl rfl hl.1 rfl (Nat.le_of_ble_eq_true rfl) dX10_exchange_5 (fun o w' H locs hp hB => ?_)
  obtain ⟨rfl, hf3, hw9⟩ := hp
  replace hB : Bd κ A s (mw κ a r f q (tb a) w) H locs := by rw [hw9] at hB; exact hB
  rcases hf3 with rfl | ⟨rfl, hz4a, hz4b, hz4c, hz4d, hz4e⟩
  · replace hR := ifp rfl hR
    refine W.eq (g2 := F0 m 8 ls [.int 0, .ref (a 0)]) rfl ?_
    refine lv_if_eq (tgt := 22) hx hb dX10_exchange_8 (by decide) (fun _ => ?_) (fun c5 => False.elim (by revert c5; decide))
    refine lv_iconst (v := 1) hx hb dX10_exchange_22 (by decide) ?_
    refine lv_goto (tgt := 27) hx hb dX10_exchange_23 (by decide) ?_
    obtain ⟨x6, t7, hd8⟩ := ex2 (D_X10_isThrown__ (q 0) (q 1) (q 2) (q 3) 1)
    replace hR := bnd2_use hd8 hR
    refine call_V (n := 1) (k0 := 0) (As := [.int 1]) (rest := []) hX hB (k_X10_isThrown__ κ l (mw κ a r f q (tb a) w) 0 (a 0) (a 1) (q 0) (q 1) (q 2) (q 3) 1 (mw0x (a := a) (r := r) (f := f) (q := q) (T := tb a) (w := w) rfl) x6 t7 hd8) ⟨rfl, yk_X10_isThrown__⟩ wm_6_15 wm_6_17 wp_33 wm_1_6 wm_6_18 ⟨Nat.le_of_ble_eq_true rfl, Nat.le_of_ble_eq_true rfl⟩ ⟨Nat.le_of_ble_eq_true rfl, Nat.le_of_ble_eq_true rfl⟩ (mw0x (a := a) (r := r) (f := f) (q := q) (T := tb a) (w := w) rfl) rfl rfl rfl hl.1 rfl (Nat.le_of_ble_eq_true rfl) dX10_exchange_27 (fun o w' H locs hp hB => ?_)
    obtain ⟨rfl, hf9, hw9⟩ := hp
    replace hB : Bd κ A s (mw κ a r f (va_up q 3 t7) (tb a) w) H locs := by exact Bd_eq (mwQ3x rfl _) (by rw [hw9] at hB; exact hB)
    obtain rfl : x6 = 1 := hf9.trans (by decide)
    refine W.eq (g2 := F0 m 30 ls [.int 1]) rfl ?_
    refine lv_if_eq (tgt := 35) hx hb dX10_exchange_30 (by decide) (fun c10 => False.elim (by revert c10; decide)) (fun _ => ?_)
    refine lv_iconst (v := 0) hx hb dX10_exchange_33 (by decide) ?_
    rw [← hQ]
    exact end_i hX hB hA3 rfl rfl (by obtain ⟨rfl, rfl, rfl, rfl⟩ := pr4 hR; exact ⟨a, rfl, rfl, hm, rfl, rfl⟩) (Nat.le_of_ble_eq_true rfl) (Nat.le_of_ble_eq_true rfl) dX10_exchange_34
  · replace hR := ifn (by decide) hR
    refine W.eq (g2 := F0 m 8 ls [.int 1, .ref (a 0)]) rfl ?_
    refine lv_if_eq (tgt := 22) hx hb dX10_exchange_8 (by decide) (fun c11 => False.elim (by revert c11; decide)) (fun _ => ?_)
    refine lv_aload_n hx hb dX10_exchange_11 rfl (lv_at hl 0 rfl) ?_
    refine lv_iload_n hx hb dX10_exchange_12 rfl (lv_at hl 1 rfl) ?_
    refine lv_iload_n hx hb dX10_exchange_13 rfl (lv_at hl 2 rfl) ?_
    refine lv_iload hx hb dX10_exchange_14 (lv_at hl 4 rfl) ?_
    obtain ⟨x12, hd13⟩ := ex1 (D_X10_isLine r f q y c0 u)
    replace hR := bnd1_use hd13 hR
    refine call_V (n := 3) (k0 := 0) (As := [.int y, .int c0, .int u]) (rest := [.ref (a 0)]) hX hB (k_X10_isLine κ l w a r f q y c0 u hm x12 hd13) ⟨rfl, yk_X10_isLine⟩ wm_6_42 wm_6_44 wp_34 wm_1_6 wm_6_45 ⟨Nat.le_of_ble_eq_true rfl, Nat.le_of_ble_eq_true rfl⟩ ⟨Nat.le_of_ble_eq_true rfl, Nat.le_of_ble_eq_true rfl⟩ (mw0x (a := a) (r := r) (f := f) (q := q) (T := tb a) (w := w) rfl) rfl rfl rfl hl.1 rfl (Nat.le_of_ble_eq_true rfl) dX10_exchange_16 (fun o w' H locs hp hB => ?_)
    obtain ⟨rfl, hf14, hw9⟩ := hp
    replace hB : Bd κ A s (mw κ a r f q (tb a) w) H locs := by rw [hw9] at hB; exact hB
    rcases hf14 with rfl | ⟨rfl, hz15a, hz15b, hz15c, hz15d, hz15e⟩
    · replace hR := ifp rfl hR
      refine W.eq (g2 := F0 m 19 ls [.int 0, .ref (a 0)]) rfl ?_
      refine lv_if_ne (tgt := 26) hx hb dX10_exchange_19 (by decide) (fun c16 => False.elim (by revert c16; decide)) (fun _ => ?_)
      refine lv_iconst (v := 1) hx hb dX10_exchange_22 (by decide) ?_
      refine lv_goto (tgt := 27) hx hb dX10_exchange_23 (by decide) ?_
      obtain ⟨x17, t18, hd19⟩ := ex2 (D_X10_isThrown__ (q 0) (q 1) (q 2) (q 3) 1)
      replace hR := bnd2_use hd19 hR
      refine call_V (n := 1) (k0 := 0) (As := [.int 1]) (rest := []) hX hB (k_X10_isThrown__ κ l (mw κ a r f q (tb a) w) 0 (a 0) (a 1) (q 0) (q 1) (q 2) (q 3) 1 (mw0x (a := a) (r := r) (f := f) (q := q) (T := tb a) (w := w) rfl) x17 t18 hd19) ⟨rfl, yk_X10_isThrown__⟩ wm_6_15 wm_6_17 wp_33 wm_1_6 wm_6_18 ⟨Nat.le_of_ble_eq_true rfl, Nat.le_of_ble_eq_true rfl⟩ ⟨Nat.le_of_ble_eq_true rfl, Nat.le_of_ble_eq_true rfl⟩ (mw0x (a := a) (r := r) (f := f) (q := q) (T := tb a) (w := w) rfl) rfl rfl rfl hl.1 rfl (Nat.le_of_ble_eq_true rfl) dX10_exchange_27 (fun o w' H locs hp hB => ?_)
      obtain ⟨rfl, hf20, hw9⟩ := hp
      replace hB : Bd κ A s (mw κ a r f (va_up q 3 t18) (tb a) w) H locs := by exact Bd_eq (mwQ3x rfl _) (by rw [hw9] at hB; exact hB)
      obtain rfl : x17 = 1 := hf20.trans (by decide)
      refine W.eq (g2 := F0 m 30 ls [.int 1]) rfl ?_
      refine lv_if_eq (tgt := 35) hx hb dX10_exchange_30 (by decide) (fun c21 => False.elim (by revert c21; decide)) (fun _ => ?_)
      refine lv_iconst (v := 0) hx hb dX10_exchange_33 (by decide) ?_
      rw [← hQ]
      exact end_i hX hB hA3 rfl rfl (by obtain ⟨rfl, rfl, rfl, rfl⟩ := pr4 hR; exact ⟨a, rfl, rfl, hm, rfl, rfl⟩) (Nat.le_of_ble_eq_true rfl) (Nat.le_of_ble_eq_true rfl) dX10_exchange_34
    · replace hR := ifn (by decide) hR
      refine W.eq (g2 := F0 m 19 ls [.int 1, .ref (a 0)]) rfl ?_
      refine lv_if_ne (tgt := 26) hx hb dX10_exchange_19 (by decide) (fun _ => ?_) (fun c22 => False.elim (by revert c22; decide))
      refine lv_iconst (v := 0) hx hb dX10_exchange_26 (by decide) ?_
      obtain ⟨x23, t24, hd25⟩ := ex2 (D_X10_isThrown__ (q 0) (q 1) (q 2) (q 3) 0)
      replace hR := bnd2_use hd25 hR
      refine call_V (n := 1) (k0 := 0) (As := [.int 0]) (rest := []) hX hB (k_X10_isThrown__ κ l (mw κ a r f q (tb a) w) 0 (a 0) (a 1) (q 0) (q 1) (q 2) (q 3) 0 (mw0x (a := a) (r := r) (f := f) (q := q) (T := tb a) (w := w) rfl) x23 t24 hd25) ⟨rfl, yk_X10_isThrown__⟩ wm_6_15 wm_6_17 wp_33 wm_1_6 wm_6_18 ⟨Nat.le_of_ble_eq_true rfl, Nat.le_of_ble_eq_true rfl⟩ ⟨Nat.le_of_ble_eq_true rfl, Nat.le_of_ble_eq_true rfl⟩ (mw0x (a := a) (r := r) (f := f) (q := q) (T := tb a) (w := w) rfl) rfl rfl rfl hl.1 rfl (Nat.le_of_ble_eq_true rfl) dX10_exchange_27 (fun o w' H locs hp hB => ?_)
      obtain ⟨rfl, hf26, hw9⟩ := hp
      replace hB : Bd κ A s (mw κ a r f (va_up q 3 t24) (tb a) w) H locs := by exact Bd_eq (mwQ3x rfl _) (by rw [hw9] at hB; exact hB)
      obtain rfl : x23 = 0 := hf26.trans (by decide)
      refine W.eq (g2 := F0 m 30 ls [.int 0]) rfl ?_
      refine lv_if_eq (tgt := 35) hx hb dX10_exchange_30 (by decide) (fun _ => ?_) (fun c27 => False.elim (by revert c27; decide))
      refine lv_aload_n hx hb dX10_exchange_35 rfl (lv_at hl 0 rfl) ?_
      refine gf (k0 := 0) hX hB (mw0x (a := a) (r := r) (f := f) (q := (va_up q 3 t24)) (T := tb a) (w := w) rfl) rfl in10 0 (by decide) wm_5_162 rfl rfl dX10_exchange_36 ?_
      refine lv_iload_n hx hb dX10_exchange_39 rfl (lv_at hl 1 rfl) ?_
      refine aaldM (k0 := 1) hX hB (mw1 (a := a) (r := r) (f := f) (q := (va_up q 3 t24)) (T := tb a) (w := w)) (vp_in_mk (by assumption) (by assumption)) rfl dX10_exchange_40 ?_
      have hb28 := mok_r hm y.toNatClampNeg (by omega)
      obtain ⟨F31, hd32⟩ := ex1 (D_X7_copy (r (2 * y.toNatClampNeg)) (r (2 * y.toNatClampNeg + 1)) (f y.toNatClampNeg))
      replace hR := bnd1_use hd32 hR
      refine call_V (n := 0) (k0 := (2 + 2 * y.toNatClampNeg)) (As := []) (rest := []) hX hB (k_X7_copy κ l (mw κ a r f (va_up q 3 t24) (tb a) w) (2 + 2 * y.toNatClampNeg) (3 + 2 * y.toNatClampNeg) (a (2 + 2 * y.toNatClampNeg)) (a (3 + 2 * y.toNatClampNeg)) (r (2 * y.toNatClampNeg)) (r (2 * y.toNatClampNeg + 1)) (f y.toNatClampNeg) (mwG (i := y.toNatClampNeg) (a := a) (r := r) (f := f) (q := (va_up q 3 t24)) (T := tb a) (w := w) (by omega)) (mwA (i := y.toNatClampNeg) (a := a) (r := r) (f := f) (q := (va_up q 3 t24)) (T := tb a) (w := w) (by omega)) (mok_shp (i := y.toNatClampNeg) hm (by omega)) F31 hd32) ⟨rfl, yk_X7_copy⟩ wm_6_23 wm_6_24 wm_6_25 wm_1_7 wm_6_26 ⟨Nat.le_of_ble_eq_true rfl, Nat.le_of_ble_eq_true rfl⟩ ⟨Nat.le_of_ble_eq_true rfl, Nat.le_of_ble_eq_true rfl⟩ (mwG (i := y.toNatClampNeg) (a := a) (r := r) (f := f) (q := (va_up q 3 t24)) (T := tb a) (w := w) (by omega)) rfl rfl rfl hl.1 rfl (Nat.le_of_ble_eq_true rfl) dX10_exchange_41 (fun o w' H locs hp hB => ?_)
      obtain ⟨q29, q30, rfl, hf33, hw9⟩ := hp
      replace hB : Bd κ A s (lA κ q30 ((r (2 * y.toNatClampNeg)) * 5) F31 :: gO q29 (r (2 * y.toNatClampNeg)) (r (2 * y.toNatClampNeg + 1)) q30 :: mw κ a r f (va_up q 3 t24) (tb a) w) H locs := by rw [hw9] at hB; exact hB
      have hscF31 : ∀ k, k < (r (2 * y.toNatClampNeg)) * 5 → sm (F31 k) := fun k hk => by rw [hf33 k hk]; exact (hm _ (by omega)).2 k hk
      refine W.eq (g2 := F0 m 44 ls [.ref q29]) rfl ?_
      refine lv_astore (lv' := [(5, .ref q29), (0, .ref (a 0)), (1, .int y), (2, .int c0), (3, .int z), (4, .int u)]) hx hb dX10_exchange_44 hl (by decide) rfl (fun ls hl => ?_)
      refine lv_iload_n hx hb dX10_exchange_46 rfl (lv_at hl 3 rfl) ?_
      refine lv_if_eq (tgt := 61) hx hb dX10_exchange_47 (by decide) (fun c34 => ?_) (fun c34 => ?_)
      · replace hR := ifp c34 hR
        have hz4l := hz4d c34
        have hz15l := hz15d c34
        refine lv_aload hx hb dX10_exchange_61 (lv_at hl 0 rfl) ?_
        refine lv_iload_n hx hb dX10_exchange_63 rfl (lv_at hl 4 rfl) ?_
        refine lv_iload hx hb dX10_exchange_64 (lv_at hl 5 rfl) ?_
        refine call_V (n := 2) (k0 := 1) (As := [.int z, .int u]) (rest := []) hX hB (k_X7_exchangeRows κ l (lA κ q30 ((r (2 * y.toNatClampNeg)) * 5) F31 :: gO q29 (r (2 * y.toNatClampNeg)) (r (2 * y.toNatClampNeg + 1)) q30 :: mw κ a r f (va_up q 3 t24) (tb a) w) 1 0 q29 q30 (r (2 * y.toNatClampNeg)) (r (2 * y.toNatClampNeg + 1)) F31 z ((z).toNatClampNeg) u ((u).toNatClampNeg) rfl rfl ⟨by omega, by omega, by omega, by omega⟩ (nI_rep (by assumption)) (nI_rep (by assumption)) (by omega) (by omega)) ⟨rfl, yk_X7_exchangeRows⟩ wm_6_51 wm_6_52 wm_6_53 wm_1_7 wm_6_54 ⟨Nat.le_of_ble_eq_true rfl, Nat.le_of_ble_eq_true rfl⟩ ⟨Nat.le_of_ble_eq_true rfl, Nat.le_of_ble_eq_true rfl⟩ rfl rfl rfl rfl hl.1 rfl (Nat.le_of_ble_eq_true rfl) dX10_exchange_66 (fun o w' H locs hp hB => ?_)
        obtain ⟨rfl, hw9⟩ := hp
        replace hB : Bd κ A s (lA κ q30 ((r (2 * y.toNatClampNeg)) * 5) (xr (r (2 * y.toNatClampNeg + 1)) ((z).toNatClampNeg) ((u).toNatClampNeg) F31) :: gO q29 (r (2 * y.toNatClampNeg)) (r (2 * y.toNatClampNeg + 1)) q30 :: mw κ a r f (va_up q 3 t24) (tb a) w) H locs := by rw [hw9] at hB; exact hB
        refine W.eq (g2 := F0 m 69 ls []) rfl ?_
        refine lv_aload_n hx hb dX10_exchange_69 rfl (lv_at hl 1 rfl) ?_
        refine lv_iload_n hx hb dX10_exchange_70 rfl (lv_at hl 2 rfl) ?_
        refine lv_aload hx hb dX10_exchange_71 (lv_at hl 0 rfl) ?_
        obtain ⟨x35, rn37, fn38, qn39, hd40⟩ := ex4 (D_X10_changed r f (va_up q 3 t24) y (r (2 * y.toNatClampNeg)) (r (2 * y.toNatClampNeg + 1)) (xr (r (2 * y.toNatClampNeg + 1)) ((z).toNatClampNeg) ((u).toNatClampNeg) F31))
        replace hR := bnd4_use hd40 hR
        refine call_V (n := 2) (k0 := 2) (As := [.int y, .ref q29]) (rest := []) hX hB (k_X10_changed κ l w a r f (va_up q 3 t24) y q29 q30 (r (2 * y.toNatClampNeg)) (r (2 * y.toNatClampNeg + 1)) (xr (r (2 * y.toNatClampNeg + 1)) ((z).toNatClampNeg) ((u).toNatClampNeg) F31) hm ⟨by omega, by omega, by omega, by omega⟩ (by assumption) (by assumption) (by omega) (sm_xr (by omega) (by omega) hscF31) x35 rn37 fn38 qn39 hd40) ⟨rfl, yk_X10_changed⟩ wm_6_55 wm_6_57 wp_35 wm_1_6 wm_6_58 ⟨Nat.le_of_ble_eq_true rfl, Nat.le_of_ble_eq_true rfl⟩ ⟨Nat.le_of_ble_eq_true rfl, Nat.le_of_ble_eq_true rfl⟩ (mw0x (a := a) (r := r) (f := f) (q := (va_up q 3 t24)) (T := tb a) (w := w) rfl) rfl rfl rfl hl.1 rfl (Nat.le_of_ble_eq_true rfl) dX10_exchange_73 (fun o w' H locs hp hB => ?_)
        obtain ⟨an36, rfl, hf41, hf42, hf43, hw9⟩ := hp
        replace hB : Bd κ A s (mw κ an36 rn37 fn38 qn39 (tb an36) w) H locs := by rw [hw9] at hB; exact hB
        refine W.eq (g2 := F0 m 76 ls [.int x35]) rfl ?_
        rw [← hQ]
        exact end_i hX hB hA3 rfl rfl (by obtain ⟨rfl, rfl, rfl, rfl⟩ := pr4 hR; exact ⟨an36, rfl, (hf41.trans rfl), hf42, (hf43.trans rfl), rfl⟩) (Nat.le_of_ble_eq_true rfl) (Nat.le_of_ble_eq_true rfl) dX10_exchange_76
      · replace hR := ifn c34 hR
        have hz4l := hz4e c34
        have hz15l := hz15e c34
        refine lv_aload hx hb dX10_exchange_50 (lv_at hl 0 rfl) ?_
        refine lv_iload_n hx hb dX10_exchange_52 rfl (lv_at hl 4 rfl) ?_
        refine lv_iload hx hb dX10_exchange_53 (lv_at hl 5 rfl) ?_
        refine call_V (n := 2) (k0 := 1) (As := [.int z, .int u]) (rest := []) hX hB (k_X7_exchangeColumns κ l (lA κ q30 ((r (2 * y.toNatClampNeg)) * 5) F31 :: gO q29 (r (2 * y.toNatClampNeg)) (r (2 * y.toNatClampNeg + 1)) q30 :: mw κ a r f (va_up q 3 t24) (tb a) w) 1 0 q29 q30 (r (2 * y.toNatClampNeg)) (r (2 * y.toNatClampNeg + 1)) F31 z ((z).toNatClampNeg) u ((u).toNatClampNeg) rfl rfl ⟨by omega, by omega, by omega, by omega⟩ (nI_rep (by assumption)) (nI_rep (by assumption)) (by omega) (by omega)) ⟨rfl, yk_X7_exchangeColumns⟩ wm_6_46 wm_6_47 wm_6_48 wm_1_7 wm_6_49 ⟨Nat.le_of_ble_eq_true rfl, Nat.le_of_ble_eq_true rfl⟩ ⟨Nat.le_of_ble_eq_true rfl, Nat.le_of_ble_eq_true rfl⟩ rfl rfl rfl rfl hl.1 rfl (Nat.le_of_ble_eq_true rfl) dX10_exchange_55 (fun o w' H locs hp hB => ?_)
        obtain ⟨rfl, hw9⟩ := hp
        replace hB : Bd κ A s (lA κ q30 ((r (2 * y.toNatClampNeg)) * 5) (xc (r (2 * y.toNatClampNeg)) ((z).toNatClampNeg) ((u).toNatClampNeg) F31) :: gO q29 (r (2 * y.toNatClampNeg)) (r (2 * y.toNatClampNeg + 1)) q30 :: mw κ a r f (va_up q 3 t24) (tb a) w) H locs := by rw [hw9] at hB; exact hB
        refine W.eq (g2 := F0 m 58 ls []) rfl ?_
        refine lv_goto (tgt := 69) hx hb dX10_exchange_58 (by decide) ?_
        refine lv_aload_n hx hb dX10_exchange_69 rfl (lv_at hl 1 rfl) ?_
        refine lv_iload_n hx hb dX10_exchange_70 rfl (lv_at hl 2 rfl) ?_
        refine lv_aload hx hb dX10_exchange_71 (lv_at hl 0 rfl) ?_
        obtain ⟨x44, rn46, fn47, qn48, hd49⟩ := ex4 (D_X10_changed r f (va_up q 3 t24) y (r (2 * y.toNatClampNeg)) (r (2 * y.toNatClampNeg + 1)) (xc (r (2 * y.toNatClampNeg)) ((z).toNatClampNeg) ((u).toNatClampNeg) F31))
        replace hR := bnd4_use hd49 hR
        refine call_V (n := 2) (k0 := 2) (As := [.int y, .ref q29]) (rest := []) hX hB (k_X10_changed κ l w a r f (va_up q 3 t24) y q29 q30 (r (2 * y.toNatClampNeg)) (r (2 * y.toNatClampNeg + 1)) (xc (r (2 * y.toNatClampNeg)) ((z).toNatClampNeg) ((u).toNatClampNeg) F31) hm ⟨by omega, by omega, by omega, by omega⟩ (by assumption) (by assumption) (by omega) (sm_xc (by omega) (by omega) hscF31) x44 rn46 fn47 qn48 hd49) ⟨rfl, yk_X10_changed⟩ wm_6_55 wm_6_57 wp_35 wm_1_6 wm_6_58 ⟨Nat.le_of_ble_eq_true rfl, Nat.le_of_ble_eq_true rfl⟩ ⟨Nat.le_of_ble_eq_true rfl, Nat.le_of_ble_eq_true rfl⟩ (mw0x (a := a) (r := r) (f := f) (q := (va_up q 3 t24)) (T := tb a) (w := w) rfl) rfl rfl rfl hl.1 rfl (Nat.le_of_ble_eq_true rfl) dX10_exchange_73 (fun o w' H locs hp hB => ?_)
        obtain ⟨an45, rfl, hf50, hf51, hf52, hw9⟩ := hp
        replace hB : Bd κ A s (mw κ an45 rn46 fn47 qn48 (tb an45) w) H locs := by rw [hw9] at hB; exact hB
        refine W.eq (g2 := F0 m 76 ls [.int x44]) rfl ?_
        rw [← hQ]
        exact end_i hX hB hA3 rfl rfl (by obtain ⟨rfl, rfl, rfl, rfl⟩ := pr4 hR; exact ⟨an45, rfl, (hf50.trans rfl), hf51, (hf52.trans rfl), rfl⟩) (Nat.le_of_ble_eq_true rfl) (Nat.le_of_ble_eq_true rfl) dX10_exchange_76
noncomputable def D_X10_turn_42 (r : Nat → Nat) (f : Nat → Nat → Int64) (q : Nat → Int32) (y : Int32) (z : Int32) (t13 : Int32) (nn : Nat) : Nat → (Nat → Int64) → Int32 × (Nat → Nat) × (Nat → Nat → Int64) × (Nat → Int32) := @Nat.rec (fun _ => Nat → (Nat → Int64) → Int32 × (Nat → Nat) × (Nat → Nat → Int64) × (Nat → Int32)) (fun _ _ => default) (fun _ lb42 (y5_42 : Nat) (fq19_42 : Nat → Int64) => (if (r (2 * y.toNatClampNeg)) ≤ y5_42 then bnd4 (D_X10_changed r f (va_up q 3 t13) y (r (2 * y.toNatClampNeg)) (r (2 * y.toNatClampNeg + 1)) fq19_42) (fun (x54 : Int32) (rn56 : Nat → Nat) (fn57 : Nat → Nat → Int64) (qn58 : Nat → Int32) => (x54, rn56, fn57, qn58)) else (lb42 (y5_42 + 1) (vp_updL fq19_42 (y5_42 * 5 + ((z).toNatClampNeg)) (-(fq19_42 (y5_42 * 5 + ((z).toNatClampNeg)))))))) nn
theorem D_X10_turn_42_s {r : Nat → Nat} {f : Nat → Nat → Int64} {q : Nat → Int32} {y : Int32} {z : Int32} {t13 : Int32} {nn : Nat} {y5_42 : Nat} {fq19_42 : Nat → Int64} : D_X10_turn_42 r f q y z t13 (nn + 1) y5_42 fq19_42 = (if (r (2 * y.toNatClampNeg)) ≤ y5_42 then bnd4 (D_X10_changed r f (va_up q 3 t13) y (r (2 * y.toNatClampNeg)) (r (2 * y.toNatClampNeg + 1)) fq19_42) (fun (x54 : Int32) (rn56 : Nat → Nat) (fn57 : Nat → Nat → Int64) (qn58 : Nat → Int32) => (x54, rn56, fn57, qn58)) else ((D_X10_turn_42 r f q y z t13 nn) (y5_42 + 1) (vp_updL fq19_42 (y5_42 * 5 + ((z).toNatClampNeg)) (-(fq19_42 (y5_42 * 5 + ((z).toNatClampNeg))))))) := rfl
noncomputable def D_X10_turn (r : Nat → Nat) (f : Nat → Nat → Int64) (q : Nat → Int32) (y : Int32) (c0 : Int32) (z : Int32) : Int32 × (Nat → Nat) × (Nat → Nat → Int64) × (Nat → Int32) := bnd1 (D_X10_isLine r f q y c0 z) (fun (x1 : Int32) => (if x1 = 0 then bnd2 (D_X10_isThrown__ (q 0) (q 1) (q 2) (q 3) 1) (fun (x6 : Int32) (t7 : Int32) => (0, r, f, va_up q 3 t7)) else bnd2 (D_X10_isThrown__ (q 0) (q 1) (q 2) (q 3) 0) (fun (x12 : Int32) (t13 : Int32) => bnd1 (D_X7_copy (r (2 * y.toNatClampNeg)) (r (2 * y.toNatClampNeg + 1)) (f y.toNatClampNeg)) (fun (F20 : Nat → Int64) => (if c0 = 0 then bnd4 (D_X10_changed r f (va_up q 3 t13) y (r (2 * y.toNatClampNeg)) (r (2 * y.toNatClampNeg + 1)) (tr (r (2 * y.toNatClampNeg + 1)) ((z).toNatClampNeg) F20)) (fun (x24 : Int32) (rn26 : Nat → Nat) (fn27 : Nat → Nat → Int64) (qn28 : Nat → Int32) => (x24, rn26, fn27, qn28)) else (D_X10_turn_42 r f q y z t13 ((r (2 * y.toNatClampNeg)) + 1 - 0 + 1) 0 F20))))))
theorem D_X10_turn_s {r : Nat → Nat} {f : Nat → Nat → Int64} {q : Nat → Int32} {y : Int32} {c0 : Int32} {z : Int32} : D_X10_turn r f q y c0 z = bnd1 (D_X10_isLine r f q y c0 z) (fun (x1 : Int32) => (if x1 = 0 then bnd2 (D_X10_isThrown__ (q 0) (q 1) (q 2) (q 3) 1) (fun (x6 : Int32) (t7 : Int32) => (0, r, f, va_up q 3 t7)) else bnd2 (D_X10_isThrown__ (q 0) (q 1) (q 2) (q 3) 0) (fun (x12 : Int32) (t13 : Int32) => bnd1 (D_X7_copy (r (2 * y.toNatClampNeg)) (r (2 * y.toNatClampNeg + 1)) (f y.toNatClampNeg)) (fun (F20 : Nat → Int64) => (if c0 = 0 then bnd4 (D_X10_changed r f (va_up q 3 t13) y (r (2 * y.toNatClampNeg)) (r (2 * y.toNatClampNeg + 1)) (tr (r (2 * y.toNatClampNeg + 1)) ((z).toNatClampNeg) F20)) (fun (x24 : Int32) (rn26 : Nat → Nat) (fn27 : Nat → Nat → Int64) (qn28 : Nat → Int32) => (x24, rn26, fn27, qn28)) else (D_X10_turn_42 r f q y z t13 ((r (2 * y.toNatClampNeg)) + 1 - 0 + 1) 0 F20)))))) := rfl
set_option maxHeartbeats 4000000 in
set_option maxRecDepth 100000 in
theorem k_X10_turn (κ : Kt) (l : Launch) (w : va_W) (a r : Nat → Nat) (f : Nat → Nat → Int64) (q : Nat → Int32) (y : Int32) (c0 : Int32) (z : Int32) (hm : mok r f) (o_x : Int32) (o_r' : Nat → Nat) (o_f' : Nat → Nat → Int64) (o_q' : Nat → Int32) (hR : D_X10_turn r f q y c0 z = (o_x, o_r', o_f', o_q')) : CM κ l yX10_turn cX10_turn 6 (some .int) 3 65 2 23 [.ref (a 0), .int y, .int c0, .int z] (mw κ a r f q (tb a) w) (fun o w' => ∃ (a' : Nat → Nat), o = some (.int o_x) ∧ (a' 0 = a 0) ∧ (mok o_r' o_f') ∧ (o_q' 2 = q 2) ∧ w' = mw κ a' o_r' o_f' o_q' (tb a') w) := by
  refine CM_begin (plainFor_of_name pn_RX10) (Nat.le_of_ble_eq_true rfl) ?_
  intro p e s m args below meth c A Q hX hnm hA3 hQ hB ls hl
  have hx := hX.1.1
  have hb := hX.1.2.1
  have hl : lv_has ls 6 [(0, .ref (a 0)), (1, .int y), (2, .int c0), (3, .int z)] := hl
  replace hR := (D_X10_turn_s).symm.trans hR
  refine lv_aload_n hx hb dX10_turn_0 rfl (lv_at hl 0 rfl) ?_
  refine lv_aload_n hx hb dX10_turn_1 rfl (lv_at hl 0 rfl) ?_
  refine lv_iload_n hx hb dX10_turn_2 rfl (lv_at hl 1 rfl) ?_
  refine lv_iload_n hx hb dX10_turn_3 rfl (lv_at hl 2 rfl) ?_
  refine lv_iload_n hx hb dX10_turn_4 rfl (lv_at hl 3 rfl) ?_
  obtain ⟨x1, hd2⟩ := ex1 (D_X10_isLine r f q y c0 z)
  replace hR := bnd1_use hd2 hR
  refine call_V (n := 3) (k0 := 0) (As := [.int y, .int c0, .int z]) (rest := [.ref (a 0)]) hX hB (k_X10_isLine κ l w a r f q y c0 z hm x1 hd2) ⟨rfl, yk_X10_isLine⟩ wm_6_42 wm_6_44 wp_34 wm_1_6 wm_6_45 ⟨Nat.le_of_ble_eq_true rfl, Nat.le_of_ble_eq_true rfl⟩ ⟨Nat.le_of_ble_eq_true rfl, Nat.le_of_ble_eq_true rfl⟩ (mw0x (a := a) (r := r) (f := f) (q := q) (T := tb a) (w := w) rfl) rfl rfl rfl hl.1 rfl (Nat.le_of_ble_eq_true rfl) dX10_turn_5 (fun o w' H locs hp hB => ?_)
  obtain ⟨rfl, hf3, hw9⟩ := hp
  replace hB : Bd κ A s (mw κ a r f q (tb a) w) H locs := by rw [hw9] at hB; exact hB
  rcases hf3 with rfl | ⟨rfl, hz4a, hz4b, hz4c, hz4d, hz4e⟩
  · replace hR := ifp rfl hR
    refine W.eq (g2 := F0 m 8 ls [.int 0, .ref (a 0)]) rfl ?_
    refine lv_if_ne (tgt := 15) hx hb dX10_turn_8 (by decide) (fun c5 => False.elim (by revert c5; decide)) (fun _ => ?_)
    refine lv_iconst (v := 1) hx hb dX10_turn_11 (by decide) ?_
    refine lv_goto (tgt := 16) hx hb dX10_turn_12 (by decide) ?_
    obtain ⟨x6, t7, hd8⟩ := ex2 (D_X10_isThrown__ (q 0) (q 1) (q 2) (q 3) 1)
    replace hR := bnd2_use hd8 hR
    refine call_V (n := 1) (k0 := 0) (As := [.int 1]) (rest := []) hX hB (k_X10_isThrown__ κ l (mw κ a r f q (tb a) w) 0 (a 0) (a 1) (q 0) (q 1) (q 2) (q 3) 1 (mw0x (a := a) (r := r) (f := f) (q := q) (T := tb a) (w := w) rfl) x6 t7 hd8) ⟨rfl, yk_X10_isThrown__⟩ wm_6_15 wm_6_17 wp_33 wm_1_6 wm_6_18 ⟨Nat.le_of_ble_eq_true rfl, Nat.le_of_ble_eq_true rfl⟩ ⟨Nat.le_of_ble_eq_true rfl, Nat.le_of_ble_eq_true rfl⟩ (mw0x (a := a) (r := r) (f := f) (q := q) (T := tb a) (w := w) rfl) rfl rfl rfl hl.1 rfl (Nat.le_of_ble_eq_true rfl) dX10_turn_16 (fun o w' H locs hp hB => ?_)
    obtain ⟨rfl, hf9, hw9⟩ := hp
    replace hB : Bd κ A s (mw κ a r f (va_up q 3 t7) (tb a) w) H locs := by exact Bd_eq (mwQ3x rfl _) (by rw [hw9] at hB; exact hB)
    obtain rfl : x6 = 1 := hf9.trans (by decide)
    refine W.eq (g2 := F0 m 19 ls [.int 1]) rfl ?_
    refine lv_if_eq (tgt := 24) hx hb dX10_turn_19 (by decide) (fun c10 => False.elim (by revert c10; decide)) (fun _ => ?_)
    refine lv_iconst (v := 0) hx hb dX10_turn_22 (by decide) ?_
    rw [← hQ]
    exact end_i hX hB hA3 rfl rfl (by obtain ⟨rfl, rfl, rfl, rfl⟩ := pr4 hR; exact ⟨a, rfl, rfl, hm, rfl, rfl⟩) (Nat.le_of_ble_eq_true rfl) (Nat.le_of_ble_eq_true rfl) dX10_turn_23
  · replace hR := ifn (by decide) hR
    refine W.eq (g2 := F0 m 8 ls [.int 1, .ref (a 0)]) rfl ?_
    refine lv_if_ne (tgt := 15) hx hb dX10_turn_8 (by decide) (fun _ => ?_) (fun c11 => False.elim (by revert c11; decide))
    refine lv_iconst (v := 0) hx hb dX10_turn_15 (by decide) ?_
    obtain ⟨x12, t13, hd14⟩ := ex2 (D_X10_isThrown__ (q 0) (q 1) (q 2) (q 3) 0)
    replace hR := bnd2_use hd14 hR
    refine call_V (n := 1) (k0 := 0) (As := [.int 0]) (rest := []) hX hB (k_X10_isThrown__ κ l (mw κ a r f q (tb a) w) 0 (a 0) (a 1) (q 0) (q 1) (q 2) (q 3) 0 (mw0x (a := a) (r := r) (f := f) (q := q) (T := tb a) (w := w) rfl) x12 t13 hd14) ⟨rfl, yk_X10_isThrown__⟩ wm_6_15 wm_6_17 wp_33 wm_1_6 wm_6_18 ⟨Nat.le_of_ble_eq_true rfl, Nat.le_of_ble_eq_true rfl⟩ ⟨Nat.le_of_ble_eq_true rfl, Nat.le_of_ble_eq_true rfl⟩ (mw0x (a := a) (r := r) (f := f) (q := q) (T := tb a) (w := w) rfl) rfl rfl rfl hl.1 rfl (Nat.le_of_ble_eq_true rfl) dX10_turn_16 (fun o w' H locs hp hB => ?_)
    obtain ⟨rfl, hf15, hw9⟩ := hp
    replace hB : Bd κ A s (mw κ a r f (va_up q 3 t13) (tb a) w) H locs := by exact Bd_eq (mwQ3x rfl _) (by rw [hw9] at hB; exact hB)
    obtain rfl : x12 = 0 := hf15.trans (by decide)
    refine W.eq (g2 := F0 m 19 ls [.int 0]) rfl ?_
    refine lv_if_eq (tgt := 24) hx hb dX10_turn_19 (by decide) (fun _ => ?_) (fun c16 => False.elim (by revert c16; decide))
    refine lv_aload_n hx hb dX10_turn_24 rfl (lv_at hl 0 rfl) ?_
    refine gf (k0 := 0) hX hB (mw0x (a := a) (r := r) (f := f) (q := (va_up q 3 t13)) (T := tb a) (w := w) rfl) rfl in10 0 (by decide) wm_5_162 rfl rfl dX10_turn_25 ?_
    refine lv_iload_n hx hb dX10_turn_28 rfl (lv_at hl 1 rfl) ?_
    refine aaldM (k0 := 1) hX hB (mw1 (a := a) (r := r) (f := f) (q := (va_up q 3 t13)) (T := tb a) (w := w)) (vp_in_mk (by assumption) (by assumption)) rfl dX10_turn_29 ?_
    have hb17 := mok_r hm y.toNatClampNeg (by omega)
    obtain ⟨F20, hd21⟩ := ex1 (D_X7_copy (r (2 * y.toNatClampNeg)) (r (2 * y.toNatClampNeg + 1)) (f y.toNatClampNeg))
    replace hR := bnd1_use hd21 hR
    refine call_V (n := 0) (k0 := (2 + 2 * y.toNatClampNeg)) (As := []) (rest := []) hX hB (k_X7_copy κ l (mw κ a r f (va_up q 3 t13) (tb a) w) (2 + 2 * y.toNatClampNeg) (3 + 2 * y.toNatClampNeg) (a (2 + 2 * y.toNatClampNeg)) (a (3 + 2 * y.toNatClampNeg)) (r (2 * y.toNatClampNeg)) (r (2 * y.toNatClampNeg + 1)) (f y.toNatClampNeg) (mwG (i := y.toNatClampNeg) (a := a) (r := r) (f := f) (q := (va_up q 3 t13)) (T := tb a) (w := w) (by omega)) (mwA (i := y.toNatClampNeg) (a := a) (r := r) (f := f) (q := (va_up q 3 t13)) (T := tb a) (w := w) (by omega)) (mok_shp (i := y.toNatClampNeg) hm (by omega)) F20 hd21) ⟨rfl, yk_X7_copy⟩ wm_6_23 wm_6_24 wm_6_25 wm_1_7 wm_6_26 ⟨Nat.le_of_ble_eq_true rfl, Nat.le_of_ble_eq_true rfl⟩ ⟨Nat.le_of_ble_eq_true rfl, Nat.le_of_ble_eq_true rfl⟩ (mwG (i := y.toNatClampNeg) (a := a) (r := r) (f := f) (q := (va_up q 3 t13)) (T := tb a) (w := w) (by omega)) rfl rfl rfl hl.1 rfl (Nat.le_of_ble_eq_true rfl) dX10_turn_30 (fun o w' H locs hp hB => ?_)
    obtain ⟨q18, q19, rfl, hf22, hw9⟩ := hp
    replace hB : Bd κ A s (lA κ q19 ((r (2 * y.toNatClampNeg)) * 5) F20 :: gO q18 (r (2 * y.toNatClampNeg)) (r (2 * y.toNatClampNeg + 1)) q19 :: mw κ a r f (va_up q 3 t13) (tb a) w) H locs := by rw [hw9] at hB; exact hB
    have hscF20 : ∀ k, k < (r (2 * y.toNatClampNeg)) * 5 → sm (F20 k) := fun k hk => by rw [hf22 k hk]; exact (hm _ (by omega)).2 k hk
    refine W.eq (g2 := F0 m 33 ls [.ref q18]) rfl ?_
    refine lv_astore (lv' := [(4, .ref q18), (0, .ref (a 0)), (1, .int y), (2, .int c0), (3, .int z)]) hx hb dX10_turn_33 hl (by decide) rfl (fun ls hl => ?_)
    refine lv_iload_n hx hb dX10_turn_35 rfl (lv_at hl 3 rfl) ?_
    refine lv_if_eq (tgt := 78) hx hb dX10_turn_36 (by decide) (fun c23 => ?_) (fun c23 => ?_)
    · replace hR := ifp c23 hR
      have hz4l := hz4d c23
      refine lv_aload hx hb dX10_turn_78 (lv_at hl 0 rfl) ?_
      refine lv_iload_n hx hb dX10_turn_80 rfl (lv_at hl 4 rfl) ?_
      refine call_V (n := 1) (k0 := 1) (As := [.int z]) (rest := []) hX hB (k_X7_turnRow κ l (lA κ q19 ((r (2 * y.toNatClampNeg)) * 5) F20 :: gO q18 (r (2 * y.toNatClampNeg)) (r (2 * y.toNatClampNeg + 1)) q19 :: mw κ a r f (va_up q 3 t13) (tb a) w) 1 0 q18 q19 (r (2 * y.toNatClampNeg)) (r (2 * y.toNatClampNeg + 1)) F20 z ((z).toNatClampNeg) rfl rfl ⟨by omega, by omega, by omega, by omega⟩ (nI_rep (by assumption)) (by omega)) ⟨rfl, yk_X7_turnRow⟩ wm_6_67 wm_6_68 wm_6_69 wm_1_7 wm_6_70 ⟨Nat.le_of_ble_eq_true rfl, Nat.le_of_ble_eq_true rfl⟩ ⟨Nat.le_of_ble_eq_true rfl, Nat.le_of_ble_eq_true rfl⟩ rfl rfl rfl rfl hl.1 rfl (Nat.le_of_ble_eq_true rfl) dX10_turn_81 (fun o w' H locs hp hB => ?_)
      obtain ⟨rfl, hw9⟩ := hp
      replace hB : Bd κ A s (lA κ q19 ((r (2 * y.toNatClampNeg)) * 5) (tr (r (2 * y.toNatClampNeg + 1)) ((z).toNatClampNeg) F20) :: gO q18 (r (2 * y.toNatClampNeg)) (r (2 * y.toNatClampNeg + 1)) q19 :: mw κ a r f (va_up q 3 t13) (tb a) w) H locs := by rw [hw9] at hB; exact hB
      refine W.eq (g2 := F0 m 84 ls []) rfl ?_
      refine lv_aload_n hx hb dX10_turn_84 rfl (lv_at hl 1 rfl) ?_
      refine lv_iload_n hx hb dX10_turn_85 rfl (lv_at hl 2 rfl) ?_
      refine lv_aload hx hb dX10_turn_86 (lv_at hl 0 rfl) ?_
      obtain ⟨x24, rn26, fn27, qn28, hd29⟩ := ex4 (D_X10_changed r f (va_up q 3 t13) y (r (2 * y.toNatClampNeg)) (r (2 * y.toNatClampNeg + 1)) (tr (r (2 * y.toNatClampNeg + 1)) ((z).toNatClampNeg) F20))
      replace hR := bnd4_use hd29 hR
      refine call_V (n := 2) (k0 := 2) (As := [.int y, .ref q18]) (rest := []) hX hB (k_X10_changed κ l w a r f (va_up q 3 t13) y q18 q19 (r (2 * y.toNatClampNeg)) (r (2 * y.toNatClampNeg + 1)) (tr (r (2 * y.toNatClampNeg + 1)) ((z).toNatClampNeg) F20) hm ⟨by omega, by omega, by omega, by omega⟩ (by assumption) (by assumption) (by omega) (sm_tr hscF20) x24 rn26 fn27 qn28 hd29) ⟨rfl, yk_X10_changed⟩ wm_6_55 wm_6_57 wp_35 wm_1_6 wm_6_58 ⟨Nat.le_of_ble_eq_true rfl, Nat.le_of_ble_eq_true rfl⟩ ⟨Nat.le_of_ble_eq_true rfl, Nat.le_of_ble_eq_true rfl⟩ (mw0x (a := a) (r := r) (f := f) (q := (va_up q 3 t13)) (T := tb a) (w := w) rfl) rfl rfl rfl hl.1 rfl (Nat.le_of_ble_eq_true rfl) dX10_turn_88 (fun o w' H locs hp hB => ?_)
      obtain ⟨an25, rfl, hf30, hf31, hf32, hw9⟩ := hp
      replace hB : Bd κ A s (mw κ an25 rn26 fn27 qn28 (tb an25) w) H locs := by rw [hw9] at hB; exact hB
      refine W.eq (g2 := F0 m 91 ls [.int x24]) rfl ?_
      rw [← hQ]
      exact end_i hX hB hA3 rfl rfl (by obtain ⟨rfl, rfl, rfl, rfl⟩ := pr4 hR; exact ⟨an25, rfl, (hf30.trans rfl), hf31, (hf32.trans rfl), rfl⟩) (Nat.le_of_ble_eq_true rfl) (Nat.le_of_ble_eq_true rfl) dX10_turn_91
    · replace hR := ifn c23 hR
      have hz4l := hz4e c23
      refine lv_iconst (v := 0) hx hb dX10_turn_39 (by decide) ?_
      refine lv_istore (lv' := [(5, .int 0), (4, .ref q18), (0, .ref (a 0)), (1, .int y), (2, .int c0), (3, .int z)]) hx hb dX10_turn_40 hl (by decide) rfl (fun ls hl => ?_)
      have lp42 : ∀ (nn42 : Nat) (y5_42 : Nat) (fq19_42 : Nat → Int64) (H : Heap) (locs : List Loc), (y5_42 ≤ (r (2 * y.toNatClampNeg))) → (∀ k, k < r (2 * y.toNatClampNeg) * 5 → sm (fq19_42 k)) → (r (2 * y.toNatClampNeg)) + 1 - y5_42 < nn42 → D_X10_turn_42 r f q y z t13 nn42 y5_42 fq19_42 = (o_x, o_r', o_f', o_q') → Bd κ A s (lA κ q19 ((r (2 * y.toNatClampNeg)) * 5) fq19_42 :: gO q18 (r (2 * y.toNatClampNeg)) (r (2 * y.toNatClampNeg + 1)) q19 :: mw κ a r f (va_up q 3 t13) (tb a) w) H locs → ∀ ls : Array Slot, lv_has ls 6 [(5, .int (nI y5_42)), (4, .ref q18), (0, .ref (a 0)), (1, .int y), (2, .int c0), (3, .int z)] → W p l e (Rm 3 65 2 23) s m args below meth c H locs (2) (23) Q (F0 m 42 ls []) := by
        intro nn42
        induction nn42 with
        | zero => intro y5_42 fq19_42 H locs hn5_42 hft hμ; exact absurd hμ (Nat.not_lt_zero _)
        | succ nn42 ih42 =>
          intro y5_42 fq19_42 H locs hn5_42 hft hμ42 hR hB ls hl
          replace hR := (D_X10_turn_42_s).symm.trans hR
          refine lv_iload hx hb dX10_turn_42 (lv_at hl 0 rfl) ?_
          refine lv_aload hx hb dX10_turn_44 (lv_at hl 1 rfl) ?_
          refine gf (k0 := 1) hX hB rfl rfl in7 0 (by decide) wm_5_148 rfl rfl dX10_turn_46 ?_
          refine lv_icmp_ge (tgt := 75) hx hb dX10_turn_49 (by decide) (fun c53 => ?_) (fun c53 => ?_)
          · rw [nleP (a := r (2 * y.toNatClampNeg)) (b := y5_42) (by omega) (by omega)] at c53
            replace hR := ifp c53 hR
            refine lv_goto (tgt := 84) hx hb dX10_turn_75 (by decide) ?_
            refine lv_aload_n hx hb dX10_turn_84 rfl (lv_at hl 2 rfl) ?_
            refine lv_iload_n hx hb dX10_turn_85 rfl (lv_at hl 3 rfl) ?_
            refine lv_aload hx hb dX10_turn_86 (lv_at hl 1 rfl) ?_
            obtain ⟨x54, rn56, fn57, qn58, hd59⟩ := ex4 (D_X10_changed r f (va_up q 3 t13) y (r (2 * y.toNatClampNeg)) (r (2 * y.toNatClampNeg + 1)) fq19_42)
            replace hR := bnd4_use hd59 hR
            refine call_V (n := 2) (k0 := 2) (As := [.int y, .ref q18]) (rest := []) hX hB (k_X10_changed κ l w a r f (va_up q 3 t13) y q18 q19 (r (2 * y.toNatClampNeg)) (r (2 * y.toNatClampNeg + 1)) fq19_42 hm ⟨by omega, by omega, by omega, by omega⟩ (by assumption) (by assumption) (by omega) hft x54 rn56 fn57 qn58 hd59) ⟨rfl, yk_X10_changed⟩ wm_6_55 wm_6_57 wp_35 wm_1_6 wm_6_58 ⟨Nat.le_of_ble_eq_true rfl, Nat.le_of_ble_eq_true rfl⟩ ⟨Nat.le_of_ble_eq_true rfl, Nat.le_of_ble_eq_true rfl⟩ (mw0x (a := a) (r := r) (f := f) (q := (va_up q 3 t13)) (T := tb a) (w := w) rfl) rfl rfl rfl hl.1 rfl (Nat.le_of_ble_eq_true rfl) dX10_turn_88 (fun o w' H locs hp hB => ?_)
            obtain ⟨an55, rfl, hf60, hf61, hf62, hw9⟩ := hp
            replace hB : Bd κ A s (mw κ an55 rn56 fn57 qn58 (tb an55) w) H locs := by rw [hw9] at hB; exact hB
            refine W.eq (g2 := F0 m 91 ls [.int x54]) rfl ?_
            rw [← hQ]
            exact end_i hX hB hA3 rfl rfl (by obtain ⟨rfl, rfl, rfl, rfl⟩ := pr4 hR; exact ⟨an55, rfl, (hf60.trans rfl), hf61, (hf62.trans rfl), rfl⟩) (Nat.le_of_ble_eq_true rfl) (Nat.le_of_ble_eq_true rfl) dX10_turn_91
          · rw [nleP (a := r (2 * y.toNatClampNeg)) (b := y5_42) (by omega) (by omega)] at c53
            replace hR := ifn c53 hR
            refine lv_aload hx hb dX10_turn_52 (lv_at hl 1 rfl) ?_
            refine lv_iload hx hb dX10_turn_54 (lv_at hl 0 rfl) ?_
            refine lv_iload_n hx hb dX10_turn_56 rfl (lv_at hl 5 rfl) ?_
            refine lv_aload hx hb dX10_turn_57 (lv_at hl 1 rfl) ?_
            refine lv_iload hx hb dX10_turn_59 (lv_at hl 0 rfl) ?_
            refine lv_iload_n hx hb dX10_turn_61 rfl (lv_at hl 5 rfl) ?_
            refine call_V (n := 2) (k0 := 1) (As := [.int (nI y5_42), .int z]) (rest := [.int z, .int (nI y5_42), .ref q18]) hX hB (k_X7_at κ l (lA κ q19 ((r (2 * y.toNatClampNeg)) * 5) fq19_42 :: gO q18 (r (2 * y.toNatClampNeg)) (r (2 * y.toNatClampNeg + 1)) q19 :: mw κ a r f (va_up q 3 t13) (tb a) w) 1 0 q18 q19 (r (2 * y.toNatClampNeg)) (r (2 * y.toNatClampNeg + 1)) fq19_42 (nI y5_42) y5_42 z ((z).toNatClampNeg) rfl rfl ⟨by omega, by omega, by omega, by omega⟩ rfl (nI_rep (by assumption)) (by omega)) ⟨rfl, yk_X7_at⟩ wm_5_237 wm_5_238 wm_5_239 wm_1_7 wm_6_0 ⟨Nat.le_of_ble_eq_true rfl, Nat.le_of_ble_eq_true rfl⟩ ⟨Nat.le_of_ble_eq_true rfl, Nat.le_of_ble_eq_true rfl⟩ rfl rfl rfl rfl hl.1 rfl (Nat.le_of_ble_eq_true rfl) dX10_turn_62 (fun o w' H locs hp hB => ?_)
            obtain ⟨rfl, hw9⟩ := hp
            replace hB : Bd κ A s (lA κ q19 ((r (2 * y.toNatClampNeg)) * 5) fq19_42 :: gO q18 (r (2 * y.toNatClampNeg)) (r (2 * y.toNatClampNeg + 1)) q19 :: mw κ a r f (va_up q 3 t13) (tb a) w) H locs := by rw [hw9] at hB; exact hB
            refine W.eq (g2 := F0 m 65 ls [.long (fq19_42 (y5_42 * 5 + ((z).toNatClampNeg))), .int z, .int (nI y5_42), .ref q18]) rfl ?_
            refine lv_lneg hx hb dX10_turn_65 ?_
            refine call_V (n := 3) (k0 := 1) (As := [.int (nI y5_42), .int z, .long (-(fq19_42 (y5_42 * 5 + ((z).toNatClampNeg))))]) (rest := []) hX hB (k_X7_put κ l (lA κ q19 ((r (2 * y.toNatClampNeg)) * 5) fq19_42 :: gO q18 (r (2 * y.toNatClampNeg)) (r (2 * y.toNatClampNeg + 1)) q19 :: mw κ a r f (va_up q 3 t13) (tb a) w) 1 0 q18 q19 (r (2 * y.toNatClampNeg)) (r (2 * y.toNatClampNeg + 1)) fq19_42 (nI y5_42) y5_42 z ((z).toNatClampNeg) (-(fq19_42 (y5_42 * 5 + ((z).toNatClampNeg)))) rfl rfl ⟨by omega, by omega, by omega, by omega⟩ rfl (nI_rep (by assumption)) (by omega)) ⟨rfl, yk_X7_put⟩ wm_6_1 wm_5_222 wm_5_223 wm_1_7 wm_5_224 ⟨Nat.le_of_ble_eq_true rfl, Nat.le_of_ble_eq_true rfl⟩ ⟨Nat.le_of_ble_eq_true rfl, Nat.le_of_ble_eq_true rfl⟩ rfl rfl rfl rfl hl.1 rfl (Nat.le_of_ble_eq_true rfl) dX10_turn_66 (fun o w' H locs hp hB => ?_)
            obtain ⟨rfl, hw9⟩ := hp
            replace hB : Bd κ A s (lA κ q19 ((r (2 * y.toNatClampNeg)) * 5) (vp_updL fq19_42 (y5_42 * 5 + ((z).toNatClampNeg)) (-(fq19_42 (y5_42 * 5 + ((z).toNatClampNeg))))) :: gO q18 (r (2 * y.toNatClampNeg)) (r (2 * y.toNatClampNeg + 1)) q19 :: mw κ a r f (va_up q 3 t13) (tb a) w) H locs := by rw [hw9] at hB; exact hB
            refine W.eq (g2 := F0 m 69 ls []) rfl ?_
            refine lv_iinc (v := nI (y5_42 + 1)) (lv' := [(5, .int (nI (y5_42 + 1))), (4, .ref q18), (0, .ref (a 0)), (1, .int y), (2, .int c0), (3, .int z)]) hx hb dX10_turn_69 hl (k := 0) rfl (nI_add y5_42 1) (by decide) rfl (fun ls hl => ?_)
            refine lv_goto (tgt := 42) hx hb dX10_turn_72 (by decide) ?_
            exact ih42 (y5_42 + 1) (vp_updL fq19_42 (y5_42 * 5 + ((z).toNatClampNeg)) (-(fq19_42 (y5_42 * 5 + ((z).toNatClampNeg))))) _ _ (by omega) (sm_upd hft (sm_neg (hft _ (by omega)))) (by omega) hR hB _ hl
      exact lp42 _ 0 F20 _ _ (by omega) hscF20 (Nat.lt_succ_self _) hR hB _ hl
noncomputable def D_X10_add (r : Nat → Nat) (f : Nat → Nat → Int64) (q : Nat → Int32) (y : Int32) (c0 : Int32) (z : Int32) (u : Int32) (v : Int32) : Int32 × (Nat → Nat) × (Nat → Nat → Int64) × (Nat → Int32) := bnd1 (D_X10_isLine r f q y c0 z) (fun (x1 : Int32) => (if x1 = 0 then (if z = u then bnd2 (D_X10_isThrown_ (q 0) (q 1) (q 2) (q 3) 1 1) (fun (x7 : Int32) (t8 : Int32) => (0, r, f, va_up q 3 t8)) else (if v < (-20) then bnd2 (D_X10_isThrown_ (q 0) (q 1) (q 2) (q 3) 1 1) (fun (x13 : Int32) (t14 : Int32) => (0, r, f, va_up q 3 t14)) else (if v ≤ 20 then bnd2 (D_X10_isThrown_ (q 0) (q 1) (q 2) (q 3) 1 0) (fun (x19 : Int32) (t20 : Int32) => (0, r, f, va_up q 3 t20)) else bnd2 (D_X10_isThrown_ (q 0) (q 1) (q 2) (q 3) 1 1) (fun (x24 : Int32) (t25 : Int32) => (0, r, f, va_up q 3 t25))))) else bnd1 (D_X10_isLine r f q y c0 u) (fun (x30 : Int32) => (if x30 = 0 then (if z = u then bnd2 (D_X10_isThrown_ (q 0) (q 1) (q 2) (q 3) 1 1) (fun (x36 : Int32) (t37 : Int32) => (0, r, f, va_up q 3 t37)) else (if v < (-20) then bnd2 (D_X10_isThrown_ (q 0) (q 1) (q 2) (q 3) 1 1) (fun (x42 : Int32) (t43 : Int32) => (0, r, f, va_up q 3 t43)) else (if v ≤ 20 then bnd2 (D_X10_isThrown_ (q 0) (q 1) (q 2) (q 3) 1 0) (fun (x48 : Int32) (t49 : Int32) => (0, r, f, va_up q 3 t49)) else bnd2 (D_X10_isThrown_ (q 0) (q 1) (q 2) (q 3) 1 1) (fun (x53 : Int32) (t54 : Int32) => (0, r, f, va_up q 3 t54))))) else (if z = u then bnd2 (D_X10_isThrown_ (q 0) (q 1) (q 2) (q 3) 0 1) (fun (x60 : Int32) (t61 : Int32) => (0, r, f, va_up q 3 t61)) else (if v < (-20) then bnd2 (D_X10_isThrown_ (q 0) (q 1) (q 2) (q 3) 0 1) (fun (x66 : Int32) (t67 : Int32) => (0, r, f, va_up q 3 t67)) else (if v ≤ 20 then bnd2 (D_X10_isThrown_ (q 0) (q 1) (q 2) (q 3) 0 0) (fun (x72 : Int32) (t73 : Int32) => bnd1 (D_X7_copy (r (2 * y.toNatClampNeg)) (r (2 * y.toNatClampNeg + 1)) (f y.toNatClampNeg)) (fun (F80 : Nat → Int64) => (if c0 = 0 then bnd1 (D_X7_isLet (r (2 * y.toNatClampNeg)) (r (2 * y.toNatClampNeg + 1)) (ar (r (2 * y.toNatClampNeg + 1)) ((z).toNatClampNeg) ((u).toNatClampNeg) ((v).toInt64) F80)) (fun (x84 : Int32) => (if x84 = 0 then (-9, r, f, va_up (va_up q 3 t73) 1 (((va_up q 3 t73) 1) + 1)) else bnd4 (D_X10_changed r f (va_up q 3 t73) y (r (2 * y.toNatClampNeg)) (r (2 * y.toNatClampNeg + 1)) (ar (r (2 * y.toNatClampNeg + 1)) ((z).toNatClampNeg) ((u).toNatClampNeg) ((v).toInt64) F80)) (fun (x90 : Int32) (rn92 : Nat → Nat) (fn93 : Nat → Nat → Int64) (qn94 : Nat → Int32) => (x90, rn92, fn93, qn94)))) else bnd1 (D_X7_isLet (r (2 * y.toNatClampNeg)) (r (2 * y.toNatClampNeg + 1)) (ac (r (2 * y.toNatClampNeg)) ((z).toNatClampNeg) ((u).toNatClampNeg) ((v).toInt64) F80)) (fun (x99 : Int32) => (if x99 = 0 then (-9, r, f, va_up (va_up q 3 t73) 1 (((va_up q 3 t73) 1) + 1)) else bnd4 (D_X10_changed r f (va_up q 3 t73) y (r (2 * y.toNatClampNeg)) (r (2 * y.toNatClampNeg + 1)) (ac (r (2 * y.toNatClampNeg)) ((z).toNatClampNeg) ((u).toNatClampNeg) ((v).toInt64) F80)) (fun (x105 : Int32) (rn107 : Nat → Nat) (fn108 : Nat → Nat → Int64) (qn109 : Nat → Int32) => (x105, rn107, fn108, qn109))))))) else bnd2 (D_X10_isThrown_ (q 0) (q 1) (q 2) (q 3) 0 1) (fun (x114 : Int32) (t115 : Int32) => (0, r, f, va_up q 3 t115)))))))))
theorem D_X10_add_s {r : Nat → Nat} {f : Nat → Nat → Int64} {q : Nat → Int32} {y : Int32} {c0 : Int32} {z : Int32} {u : Int32} {v : Int32} : D_X10_add r f q y c0 z u v = bnd1 (D_X10_isLine r f q y c0 z) (fun (x1 : Int32) => (if x1 = 0 then (if z = u then bnd2 (D_X10_isThrown_ (q 0) (q 1) (q 2) (q 3) 1 1) (fun (x7 : Int32) (t8 : Int32) => (0, r, f, va_up q 3 t8)) else (if v < (-20) then bnd2 (D_X10_isThrown_ (q 0) (q 1) (q 2) (q 3) 1 1) (fun (x13 : Int32) (t14 : Int32) => (0, r, f, va_up q 3 t14)) else (if v ≤ 20 then bnd2 (D_X10_isThrown_ (q 0) (q 1) (q 2) (q 3) 1 0) (fun (x19 : Int32) (t20 : Int32) => (0, r, f, va_up q 3 t20)) else bnd2 (D_X10_isThrown_ (q 0) (q 1) (q 2) (q 3) 1 1) (fun (x24 : Int32) (t25 : Int32) => (0, r, f, va_up q 3 t25))))) else bnd1 (D_X10_isLine r f q y c0 u) (fun (x30 : Int32) => (if x30 = 0 then (if z = u then bnd2 (D_X10_isThrown_ (q 0) (q 1) (q 2) (q 3) 1 1) (fun (x36 : Int32) (t37 : Int32) => (0, r, f, va_up q 3 t37)) else (if v < (-20) then bnd2 (D_X10_isThrown_ (q 0) (q 1) (q 2) (q 3) 1 1) (fun (x42 : Int32) (t43 : Int32) => (0, r, f, va_up q 3 t43)) else (if v ≤ 20 then bnd2 (D_X10_isThrown_ (q 0) (q 1) (q 2) (q 3) 1 0) (fun (x48 : Int32) (t49 : Int32) => (0, r, f, va_up q 3 t49)) else bnd2 (D_X10_isThrown_ (q 0) (q 1) (q 2) (q 3) 1 1) (fun (x53 : Int32) (t54 : Int32) => (0, r, f, va_up q 3 t54))))) else (if z = u then bnd2 (D_X10_isThrown_ (q 0) (q 1) (q 2) (q 3) 0 1) (fun (x60 : Int32) (t61 : Int32) => (0, r, f, va_up q 3 t61)) else (if v < (-20) then bnd2 (D_X10_isThrown_ (q 0) (q 1) (q 2) (q 3) 0 1) (fun (x66 : Int32) (t67 : Int32) => (0, r, f, va_up q 3 t67)) else (if v ≤ 20 then bnd2 (D_X10_isThrown_ (q 0) (q 1) (q 2) (q 3) 0 0) (fun (x72 : Int32) (t73 : Int32) => bnd1 (D_X7_copy (r (2 * y.toNatClampNeg)) (r (2 * y.toNatClampNeg + 1)) (f y.toNatClampNeg)) (fun (F80 : Nat → Int64) => (if c0 = 0 then bnd1 (D_X7_isLet (r (2 * y.toNatClampNeg)) (r (2 * y.toNatClampNeg + 1)) (ar (r (2 * y.toNatClampNeg + 1)) ((z).toNatClampNeg) ((u).toNatClampNeg) ((v).toInt64) F80)) (fun (x84 : Int32) => (if x84 = 0 then (-9, r, f, va_up (va_up q 3 t73) 1 (((va_up q 3 t73) 1) + 1)) else bnd4 (D_X10_changed r f (va_up q 3 t73) y (r (2 * y.toNatClampNeg)) (r (2 * y.toNatClampNeg + 1)) (ar (r (2 * y.toNatClampNeg + 1)) ((z).toNatClampNeg) ((u).toNatClampNeg) ((v).toInt64) F80)) (fun (x90 : Int32) (rn92 : Nat → Nat) (fn93 : Nat → Nat → Int64) (qn94 : Nat → Int32) => (x90, rn92, fn93, qn94)))) else bnd1 (D_X7_isLet (r (2 * y.toNatClampNeg)) (r (2 * y.toNatClampNeg + 1)) (ac (r (2 * y.toNatClampNeg)) ((z).toNatClampNeg) ((u).toNatClampNeg) ((v).toInt64) F80)) (fun (x99 : Int32) => (if x99 = 0 then (-9, r, f, va_up (va_up q 3 t73) 1 (((va_up q 3 t73) 1) + 1)) else bnd4 (D_X10_changed r f (va_up q 3 t73) y (r (2 * y.toNatClampNeg)) (r (2 * y.toNatClampNeg + 1)) (ac (r (2 * y.toNatClampNeg)) ((z).toNatClampNeg) ((u).toNatClampNeg) ((v).toInt64) F80)) (fun (x105 : Int32) (rn107 : Nat → Nat) (fn108 : Nat → Nat → Int64) (qn109 : Nat → Int32) => (x105, rn107, fn108, qn109))))))) else bnd2 (D_X10_isThrown_ (q 0) (q 1) (q 2) (q 3) 0 1) (fun (x114 : Int32) (t115 : Int32) => (0, r, f, va_up q 3 t115))))))))) := rfl
set_option maxHeartbeats 4000000 in
set_option maxRecDepth 100000 in
theorem k_X10_add (κ : Kt) (l : Launch) (w : va_W) (a r : Nat → Nat) (f : Nat → Nat → Int64) (q : Nat → Int32) (y : Int32) (c0 : Int32) (z : Int32) (u : Int32) (v : Int32) (hm : mok r f) (o_x : Int32) (o_r' : Nat → Nat) (o_f' : Nat → Nat → Int64) (o_q' : Nat → Int32) (hR : D_X10_add r f q y c0 z u v = (o_x, o_r', o_f', o_q')) : CM κ l yX10_add cX10_add 7 (some .int) 3 65 2 23 [.ref (a 0), .int y, .int c0, .int z, .int u, .int v] (mw κ a r f q (tb a) w) (fun o w' => ∃ (a' : Nat → Nat), o = some (.int o_x) ∧ (a' 0 = a 0) ∧ (mok o_r' o_f') ∧ (o_q' 2 = q 2) ∧ w' = mw κ a' o_r' o_f' o_q' (tb a') w) := by
  refine CM_begin (plainFor_of_name pn_RX10) (Nat.le_of_ble_eq_true rfl) ?_
  intro p e s m args below meth c A Q hX hnm hA3 hQ hB ls hl
  have hx := hX.1.1
  have hb := hX.1.2.1
  have hl : lv_has ls 7 [(0, .ref (a 0)), (1, .int y), (2, .int c0), (3, .int z), (4, .int u), (5, .int v)] := hl
  replace hR := (D_X10_add_s).symm.trans hR
  refine lv_aload_n hx hb dX10_add_0 rfl (lv_at hl 0 rfl) ?_
  refine lv_aload_n hx hb dX10_add_1 rfl (lv_at hl 0 rfl) ?_
  refine lv_iload_n hx hb dX10_add_2 rfl (lv_at hl 1 rfl) ?_
  refine lv_iload_n hx hb dX10_add_3 rfl (lv_at hl 2 rfl) ?_
  refine lv_iload_n hx hb dX10_add_4 rfl (lv_at hl 3 rfl) ?_
  obtain ⟨x1, hd2⟩ := ex1 (D_X10_isLine r f q y c0 z)
  replace hR := bnd1_use hd2 hR
  refine call_V (n := 3) (k0 := 0) (As := [.int y, .int c0, .int z]) (rest := [.ref (a 0)]) hX hB (k_X10_isLine κ l w a r f q y c0 z hm x1 hd2) ⟨rfl, yk_X10_isLine⟩ wm_6_42 wm_6_44 wp_34 wm_1_6 wm_6_45 ⟨Nat.le_of_ble_eq_true rfl, Nat.le_of_ble_eq_true rfl⟩ ⟨Nat.le_of_ble_eq_true rfl, Nat.le_of_ble_eq_true rfl⟩ (mw0x (a := a) (r := r) (f := f) (q := q) (T := tb a) (w := w) rfl) rfl rfl rfl hl.1 rfl (Nat.le_of_ble_eq_true rfl) dX10_add_5 (fun o w' H locs hp hB => ?_)
  obtain ⟨rfl, hf3, hw9⟩ := hp
  replace hB : Bd κ A s (mw κ a r f q (tb a) w) H locs := by rw [hw9] at hB; exact hB
  rcases hf3 with rfl | ⟨rfl, hz4a, hz4b, hz4c, hz4d, hz4e⟩
  · replace hR := ifp rfl hR
    refine W.eq (g2 := F0 m 8 ls [.int 0, .ref (a 0)]) rfl ?_
    refine lv_if_eq (tgt := 22) hx hb dX10_add_8 (by decide) (fun _ => ?_) (fun c5 => False.elim (by revert c5; decide))
    refine lv_iconst (v := 1) hx hb dX10_add_22 (by decide) ?_
    refine lv_goto (tgt := 27) hx hb dX10_add_23 (by decide) ?_
    refine lv_iload_n hx hb dX10_add_27 rfl (lv_at hl 3 rfl) ?_
    refine lv_iload hx hb dX10_add_28 (lv_at hl 4 rfl) ?_
    refine lv_icmp_eq (tgt := 47) hx hb dX10_add_30 (by decide) (fun c6 => ?_) (fun c6 => ?_)
    · replace hR := ifp c6 hR
      refine lv_iconst (v := 1) hx hb dX10_add_47 (by decide) ?_
      refine lv_goto (tgt := 52) hx hb dX10_add_48 (by decide) ?_
      obtain ⟨x7, t8, hd9⟩ := ex2 (D_X10_isThrown_ (q 0) (q 1) (q 2) (q 3) 1 1)
      replace hR := bnd2_use hd9 hR
      refine call_V (n := 2) (k0 := 0) (As := [.int 1, .int 1]) (rest := []) hX hB (k_X10_isThrown_ κ l (mw κ a r f q (tb a) w) 0 (a 0) (a 1) (q 0) (q 1) (q 2) (q 3) 1 1 (mw0x (a := a) (r := r) (f := f) (q := q) (T := tb a) (w := w) rfl) x7 t8 hd9) ⟨rfl, yk_X10_isThrown_⟩ wm_5_192 wm_5_194 wp_27 wm_1_6 wm_5_195 ⟨Nat.le_of_ble_eq_true rfl, Nat.le_of_ble_eq_true rfl⟩ ⟨Nat.le_of_ble_eq_true rfl, Nat.le_of_ble_eq_true rfl⟩ (mw0x (a := a) (r := r) (f := f) (q := q) (T := tb a) (w := w) rfl) rfl rfl rfl hl.1 rfl (Nat.le_of_ble_eq_true rfl) dX10_add_52 (fun o w' H locs hp hB => ?_)
      obtain ⟨rfl, hf10, hw9⟩ := hp
      replace hB : Bd κ A s (mw κ a r f (va_up q 3 t8) (tb a) w) H locs := by exact Bd_eq (mwQ3x rfl _) (by rw [hw9] at hB; exact hB)
      obtain rfl : x7 = 1 := hf10.trans (by decide)
      refine W.eq (g2 := F0 m 55 ls [.int 1]) rfl ?_
      refine lv_if_eq (tgt := 60) hx hb dX10_add_55 (by decide) (fun c11 => False.elim (by revert c11; decide)) (fun _ => ?_)
      refine lv_iconst (v := 0) hx hb dX10_add_58 (by decide) ?_
      rw [← hQ]
      exact end_i hX hB hA3 rfl rfl (by obtain ⟨rfl, rfl, rfl, rfl⟩ := pr4 hR; exact ⟨a, rfl, rfl, hm, rfl, rfl⟩) (Nat.le_of_ble_eq_true rfl) (Nat.le_of_ble_eq_true rfl) dX10_add_59
    · replace hR := ifn c6 hR
      refine lv_iload hx hb dX10_add_33 (lv_at hl 5 rfl) ?_
      refine lv_bipush (v := (-20)) hx hb dX10_add_35 (by decide) ?_
      refine lv_icmp_lt (tgt := 47) hx hb dX10_add_37 (by decide) (fun c12 => ?_) (fun c12 => ?_)
      · replace hR := ifp c12 hR
        refine lv_iconst (v := 1) hx hb dX10_add_47 (by decide) ?_
        refine lv_goto (tgt := 52) hx hb dX10_add_48 (by decide) ?_
        obtain ⟨x13, t14, hd15⟩ := ex2 (D_X10_isThrown_ (q 0) (q 1) (q 2) (q 3) 1 1)
        replace hR := bnd2_use hd15 hR
        refine call_V (n := 2) (k0 := 0) (As := [.int 1, .int 1]) (rest := []) hX hB (k_X10_isThrown_ κ l (mw κ a r f q (tb a) w) 0 (a 0) (a 1) (q 0) (q 1) (q 2) (q 3) 1 1 (mw0x (a := a) (r := r) (f := f) (q := q) (T := tb a) (w := w) rfl) x13 t14 hd15) ⟨rfl, yk_X10_isThrown_⟩ wm_5_192 wm_5_194 wp_27 wm_1_6 wm_5_195 ⟨Nat.le_of_ble_eq_true rfl, Nat.le_of_ble_eq_true rfl⟩ ⟨Nat.le_of_ble_eq_true rfl, Nat.le_of_ble_eq_true rfl⟩ (mw0x (a := a) (r := r) (f := f) (q := q) (T := tb a) (w := w) rfl) rfl rfl rfl hl.1 rfl (Nat.le_of_ble_eq_true rfl) dX10_add_52 (fun o w' H locs hp hB => ?_)
        obtain ⟨rfl, hf16, hw9⟩ := hp
        replace hB : Bd κ A s (mw κ a r f (va_up q 3 t14) (tb a) w) H locs := by exact Bd_eq (mwQ3x rfl _) (by rw [hw9] at hB; exact hB)
        obtain rfl : x13 = 1 := hf16.trans (by decide)
        refine W.eq (g2 := F0 m 55 ls [.int 1]) rfl ?_
        refine lv_if_eq (tgt := 60) hx hb dX10_add_55 (by decide) (fun c17 => False.elim (by revert c17; decide)) (fun _ => ?_)
        refine lv_iconst (v := 0) hx hb dX10_add_58 (by decide) ?_
        rw [← hQ]
        exact end_i hX hB hA3 rfl rfl (by obtain ⟨rfl, rfl, rfl, rfl⟩ := pr4 hR; exact ⟨a, rfl, rfl, hm, rfl, rfl⟩) (Nat.le_of_ble_eq_true rfl) (Nat.le_of_ble_eq_true rfl) dX10_add_59
      · replace hR := ifn c12 hR
        refine lv_iload hx hb dX10_add_40 (lv_at hl 5 rfl) ?_
        refine lv_bipush (v := 20) hx hb dX10_add_42 (by decide) ?_
        refine lv_icmp_le (tgt := 51) hx hb dX10_add_44 (by decide) (fun c18 => ?_) (fun c18 => ?_)
        · replace hR := ifp c18 hR
          refine lv_iconst (v := 0) hx hb dX10_add_51 (by decide) ?_
          obtain ⟨x19, t20, hd21⟩ := ex2 (D_X10_isThrown_ (q 0) (q 1) (q 2) (q 3) 1 0)
          replace hR := bnd2_use hd21 hR
          refine call_V (n := 2) (k0 := 0) (As := [.int 1, .int 0]) (rest := []) hX hB (k_X10_isThrown_ κ l (mw κ a r f q (tb a) w) 0 (a 0) (a 1) (q 0) (q 1) (q 2) (q 3) 1 0 (mw0x (a := a) (r := r) (f := f) (q := q) (T := tb a) (w := w) rfl) x19 t20 hd21) ⟨rfl, yk_X10_isThrown_⟩ wm_5_192 wm_5_194 wp_27 wm_1_6 wm_5_195 ⟨Nat.le_of_ble_eq_true rfl, Nat.le_of_ble_eq_true rfl⟩ ⟨Nat.le_of_ble_eq_true rfl, Nat.le_of_ble_eq_true rfl⟩ (mw0x (a := a) (r := r) (f := f) (q := q) (T := tb a) (w := w) rfl) rfl rfl rfl hl.1 rfl (Nat.le_of_ble_eq_true rfl) dX10_add_52 (fun o w' H locs hp hB => ?_)
          obtain ⟨rfl, hf22, hw9⟩ := hp
          replace hB : Bd κ A s (mw κ a r f (va_up q 3 t20) (tb a) w) H locs := by exact Bd_eq (mwQ3x rfl _) (by rw [hw9] at hB; exact hB)
          obtain rfl : x19 = 1 := hf22.trans (by decide)
          refine W.eq (g2 := F0 m 55 ls [.int 1]) rfl ?_
          refine lv_if_eq (tgt := 60) hx hb dX10_add_55 (by decide) (fun c23 => False.elim (by revert c23; decide)) (fun _ => ?_)
          refine lv_iconst (v := 0) hx hb dX10_add_58 (by decide) ?_
          rw [← hQ]
          exact end_i hX hB hA3 rfl rfl (by obtain ⟨rfl, rfl, rfl, rfl⟩ := pr4 hR; exact ⟨a, rfl, rfl, hm, rfl, rfl⟩) (Nat.le_of_ble_eq_true rfl) (Nat.le_of_ble_eq_true rfl) dX10_add_59
        · replace hR := ifn c18 hR
          refine lv_iconst (v := 1) hx hb dX10_add_47 (by decide) ?_
          refine lv_goto (tgt := 52) hx hb dX10_add_48 (by decide) ?_
          obtain ⟨x24, t25, hd26⟩ := ex2 (D_X10_isThrown_ (q 0) (q 1) (q 2) (q 3) 1 1)
          replace hR := bnd2_use hd26 hR
          refine call_V (n := 2) (k0 := 0) (As := [.int 1, .int 1]) (rest := []) hX hB (k_X10_isThrown_ κ l (mw κ a r f q (tb a) w) 0 (a 0) (a 1) (q 0) (q 1) (q 2) (q 3) 1 1 (mw0x (a := a) (r := r) (f := f) (q := q) (T := tb a) (w := w) rfl) x24 t25 hd26) ⟨rfl, yk_X10_isThrown_⟩ wm_5_192 wm_5_194 wp_27 wm_1_6 wm_5_195 ⟨Nat.le_of_ble_eq_true rfl, Nat.le_of_ble_eq_true rfl⟩ ⟨Nat.le_of_ble_eq_true rfl, Nat.le_of_ble_eq_true rfl⟩ (mw0x (a := a) (r := r) (f := f) (q := q) (T := tb a) (w := w) rfl) rfl rfl rfl hl.1 rfl (Nat.le_of_ble_eq_true rfl) dX10_add_52 (fun o w' H locs hp hB => ?_)
          obtain ⟨rfl, hf27, hw9⟩ := hp
          replace hB : Bd κ A s (mw κ a r f (va_up q 3 t25) (tb a) w) H locs := by exact Bd_eq (mwQ3x rfl _) (by rw [hw9] at hB; exact hB)
          obtain rfl : x24 = 1 := hf27.trans (by decide)
          refine W.eq (g2 := F0 m 55 ls [.int 1]) rfl ?_
          refine lv_if_eq (tgt := 60) hx hb dX10_add_55 (by decide) (fun c28 => False.elim (by revert c28; decide)) (fun _ => ?_)
          refine lv_iconst (v := 0) hx hb dX10_add_58 (by decide) ?_
          rw [← hQ]
          exact end_i hX hB hA3 rfl rfl (by obtain ⟨rfl, rfl, rfl, rfl⟩ := pr4 hR; exact ⟨a, rfl, rfl, hm, rfl, rfl⟩) (Nat.le_of_ble_eq_true rfl) (Nat.le_of_ble_eq_true rfl) dX10_add_59
  · replace hR := ifn (by decide) hR
    refine W.eq (g2 := F0 m 8 ls [.int 1, .ref (a 0)]) rfl ?_
    refine lv_if_eq (tgt := 22) hx hb dX10_add_8 (by decide) (fun c29 => False.elim (by revert c29; decide)) (fun _ => ?_)
    refine lv_aload_n hx hb dX10_add_11 rfl (lv_at hl 0 rfl) ?_
    refine lv_iload_n hx hb dX10_add_12 rfl (lv_at hl 1 rfl) ?_
    refine lv_iload_n hx hb dX10_add_13 rfl (lv_at hl 2 rfl) ?_
    refine lv_iload hx hb dX10_add_14 (lv_at hl 4 rfl) ?_
    obtain ⟨x30, hd31⟩ := ex1 (D_X10_isLine r f q y c0 u)
    replace hR := bnd1_use hd31 hR
    refine call_V (n := 3) (k0 := 0) (As := [.int y, .int c0, .int u]) (rest := [.ref (a 0)]) hX hB (k_X10_isLine κ l w a r f q y c0 u hm x30 hd31) ⟨rfl, yk_X10_isLine⟩ wm_6_42 wm_6_44 wp_34 wm_1_6 wm_6_45 ⟨Nat.le_of_ble_eq_true rfl, Nat.le_of_ble_eq_true rfl⟩ ⟨Nat.le_of_ble_eq_true rfl, Nat.le_of_ble_eq_true rfl⟩ (mw0x (a := a) (r := r) (f := f) (q := q) (T := tb a) (w := w) rfl) rfl rfl rfl hl.1 rfl (Nat.le_of_ble_eq_true rfl) dX10_add_16 (fun o w' H locs hp hB => ?_)
    obtain ⟨rfl, hf32, hw9⟩ := hp
    replace hB : Bd κ A s (mw κ a r f q (tb a) w) H locs := by rw [hw9] at hB; exact hB
    rcases hf32 with rfl | ⟨rfl, hz33a, hz33b, hz33c, hz33d, hz33e⟩
    · replace hR := ifp rfl hR
      refine W.eq (g2 := F0 m 19 ls [.int 0, .ref (a 0)]) rfl ?_
      refine lv_if_ne (tgt := 26) hx hb dX10_add_19 (by decide) (fun c34 => False.elim (by revert c34; decide)) (fun _ => ?_)
      refine lv_iconst (v := 1) hx hb dX10_add_22 (by decide) ?_
      refine lv_goto (tgt := 27) hx hb dX10_add_23 (by decide) ?_
      refine lv_iload_n hx hb dX10_add_27 rfl (lv_at hl 3 rfl) ?_
      refine lv_iload hx hb dX10_add_28 (lv_at hl 4 rfl) ?_
      refine lv_icmp_eq (tgt := 47) hx hb dX10_add_30 (by decide) (fun c35 => ?_) (fun c35 => ?_)
      · replace hR := ifp c35 hR
        refine lv_iconst (v := 1) hx hb dX10_add_47 (by decide) ?_
        refine lv_goto (tgt := 52) hx hb dX10_add_48 (by decide) ?_
        obtain ⟨x36, t37, hd38⟩ := ex2 (D_X10_isThrown_ (q 0) (q 1) (q 2) (q 3) 1 1)
        replace hR := bnd2_use hd38 hR
        refine call_V (n := 2) (k0 := 0) (As := [.int 1, .int 1]) (rest := []) hX hB (k_X10_isThrown_ κ l (mw κ a r f q (tb a) w) 0 (a 0) (a 1) (q 0) (q 1) (q 2) (q 3) 1 1 (mw0x (a := a) (r := r) (f := f) (q := q) (T := tb a) (w := w) rfl) x36 t37 hd38) ⟨rfl, yk_X10_isThrown_⟩ wm_5_192 wm_5_194 wp_27 wm_1_6 wm_5_195 ⟨Nat.le_of_ble_eq_true rfl, Nat.le_of_ble_eq_true rfl⟩ ⟨Nat.le_of_ble_eq_true rfl, Nat.le_of_ble_eq_true rfl⟩ (mw0x (a := a) (r := r) (f := f) (q := q) (T := tb a) (w := w) rfl) rfl rfl rfl hl.1 rfl (Nat.le_of_ble_eq_true rfl) dX10_add_52 (fun o w' H locs hp hB => ?_)
        obtain ⟨rfl, hf39, hw9⟩ := hp
        replace hB : Bd κ A s (mw κ a r f (va_up q 3 t37) (tb a) w) H locs := by exact Bd_eq (mwQ3x rfl _) (by rw [hw9] at hB; exact hB)
        obtain rfl : x36 = 1 := hf39.trans (by decide)
        refine W.eq (g2 := F0 m 55 ls [.int 1]) rfl ?_
        refine lv_if_eq (tgt := 60) hx hb dX10_add_55 (by decide) (fun c40 => False.elim (by revert c40; decide)) (fun _ => ?_)
        refine lv_iconst (v := 0) hx hb dX10_add_58 (by decide) ?_
        rw [← hQ]
        exact end_i hX hB hA3 rfl rfl (by obtain ⟨rfl, rfl, rfl, rfl⟩ := pr4 hR; exact ⟨a, rfl, rfl, hm, rfl, rfl⟩) (Nat.le_of_ble_eq_true rfl) (Nat.le_of_ble_eq_true rfl) dX10_add_59
      · replace hR := ifn c35 hR
        refine lv_iload hx hb dX10_add_33 (lv_at hl 5 rfl) ?_
        refine lv_bipush (v := (-20)) hx hb dX10_add_35 (by decide) ?_
        refine lv_icmp_lt (tgt := 47) hx hb dX10_add_37 (by decide) (fun c41 => ?_) (fun c41 => ?_)
        · replace hR := ifp c41 hR
          refine lv_iconst (v := 1) hx hb dX10_add_47 (by decide) ?_
          refine lv_goto (tgt := 52) hx hb dX10_add_48 (by decide) ?_
          obtain ⟨x42, t43, hd44⟩ := ex2 (D_X10_isThrown_ (q 0) (q 1) (q 2) (q 3) 1 1)
          replace hR := bnd2_use hd44 hR
          refine call_V (n := 2) (k0 := 0) (As := [.int 1, .int 1]) (rest := []) hX hB (k_X10_isThrown_ κ l (mw κ a r f q (tb a) w) 0 (a 0) (a 1) (q 0) (q 1) (q 2) (q 3) 1 1 (mw0x (a := a) (r := r) (f := f) (q := q) (T := tb a) (w := w) rfl) x42 t43 hd44) ⟨rfl, yk_X10_isThrown_⟩ wm_5_192 wm_5_194 wp_27 wm_1_6 wm_5_195 ⟨Nat.le_of_ble_eq_true rfl, Nat.le_of_ble_eq_true rfl⟩ ⟨Nat.le_of_ble_eq_true rfl, Nat.le_of_ble_eq_true rfl⟩ (mw0x (a := a) (r := r) (f := f) (q := q) (T := tb a) (w := w) rfl) rfl rfl rfl hl.1 rfl (Nat.le_of_ble_eq_true rfl) dX10_add_52 (fun o w' H locs hp hB => ?_)
          obtain ⟨rfl, hf45, hw9⟩ := hp
          replace hB : Bd κ A s (mw κ a r f (va_up q 3 t43) (tb a) w) H locs := by exact Bd_eq (mwQ3x rfl _) (by rw [hw9] at hB; exact hB)
          obtain rfl : x42 = 1 := hf45.trans (by decide)
          refine W.eq (g2 := F0 m 55 ls [.int 1]) rfl ?_
          refine lv_if_eq (tgt := 60) hx hb dX10_add_55 (by decide) (fun c46 => False.elim (by revert c46; decide)) (fun _ => ?_)
          refine lv_iconst (v := 0) hx hb dX10_add_58 (by decide) ?_
          rw [← hQ]
          exact end_i hX hB hA3 rfl rfl (by obtain ⟨rfl, rfl, rfl, rfl⟩ := pr4 hR; exact ⟨a, rfl, rfl, hm, rfl, rfl⟩) (Nat.le_of_ble_eq_true rfl) (Nat.le_of_ble_eq_true rfl) dX10_add_59
        · replace hR := ifn c41 hR
          refine lv_iload hx hb dX10_add_40 (lv_at hl 5 rfl) ?_
          refine lv_bipush (v := 20) hx hb dX10_add_42 (by decide) ?_
          refine lv_icmp_le (tgt := 51) hx hb dX10_add_44 (by decide) (fun c47 => ?_) (fun c47 => ?_)
          · replace hR := ifp c47 hR
            refine lv_iconst (v := 0) hx hb dX10_add_51 (by decide) ?_
            obtain ⟨x48, t49, hd50⟩ := ex2 (D_X10_isThrown_ (q 0) (q 1) (q 2) (q 3) 1 0)
            replace hR := bnd2_use hd50 hR
            refine call_V (n := 2) (k0 := 0) (As := [.int 1, .int 0]) (rest := []) hX hB (k_X10_isThrown_ κ l (mw κ a r f q (tb a) w) 0 (a 0) (a 1) (q 0) (q 1) (q 2) (q 3) 1 0 (mw0x (a := a) (r := r) (f := f) (q := q) (T := tb a) (w := w) rfl) x48 t49 hd50) ⟨rfl, yk_X10_isThrown_⟩ wm_5_192 wm_5_194 wp_27 wm_1_6 wm_5_195 ⟨Nat.le_of_ble_eq_true rfl, Nat.le_of_ble_eq_true rfl⟩ ⟨Nat.le_of_ble_eq_true rfl, Nat.le_of_ble_eq_true rfl⟩ (mw0x (a := a) (r := r) (f := f) (q := q) (T := tb a) (w := w) rfl) rfl rfl rfl hl.1 rfl (Nat.le_of_ble_eq_true rfl) dX10_add_52 (fun o w' H locs hp hB => ?_)
            obtain ⟨rfl, hf51, hw9⟩ := hp
            replace hB : Bd κ A s (mw κ a r f (va_up q 3 t49) (tb a) w) H locs := by exact Bd_eq (mwQ3x rfl _) (by rw [hw9] at hB; exact hB)
            obtain rfl : x48 = 1 := hf51.trans (by decide)
            refine W.eq (g2 := F0 m 55 ls [.int 1]) rfl ?_
            refine lv_if_eq (tgt := 60) hx hb dX10_add_55 (by decide) (fun c52 => False.elim (by revert c52; decide)) (fun _ => ?_)
            refine lv_iconst (v := 0) hx hb dX10_add_58 (by decide) ?_
            rw [← hQ]
            exact end_i hX hB hA3 rfl rfl (by obtain ⟨rfl, rfl, rfl, rfl⟩ := pr4 hR; exact ⟨a, rfl, rfl, hm, rfl, rfl⟩) (Nat.le_of_ble_eq_true rfl) (Nat.le_of_ble_eq_true rfl) dX10_add_59
          · replace hR := ifn c47 hR
            refine lv_iconst (v := 1) hx hb dX10_add_47 (by decide) ?_
            refine lv_goto (tgt := 52) hx hb dX10_add_48 (by decide) ?_
            obtain ⟨x53, t54, hd55⟩ := ex2 (D_X10_isThrown_ (q 0) (q 1) (q 2) (q 3) 1 1)
            replace hR := bnd2_use hd55 hR
            refine call_V (n := 2) (k0 := 0) (As := [.int 1, .int 1]) (rest := []) hX hB (k_X10_isThrown_ κ l (mw κ a r f q (tb a) w) 0 (a 0) (a 1) (q 0) (q 1) (q 2) (q 3) 1 1 (mw0x (a := a) (r := r) (f := f) (q := q) (T := tb a) (w := w) rfl) x53 t54 hd55) ⟨rfl, yk_X10_isThrown_⟩ wm_5_192 wm_5_194 wp_27 wm_1_6 wm_5_195 ⟨Nat.le_of_ble_eq_true rfl, Nat.le_of_ble_eq_true rfl⟩ ⟨Nat.le_of_ble_eq_true rfl, Nat.le_of_ble_eq_true rfl⟩ (mw0x (a := a) (r := r) (f := f) (q := q) (T := tb a) (w := w) rfl) rfl rfl rfl hl.1 rfl (Nat.le_of_ble_eq_true rfl) dX10_add_52 (fun o w' H locs hp hB => ?_)
            obtain ⟨rfl, hf56, hw9⟩ := hp
            replace hB : Bd κ A s (mw κ a r f (va_up q 3 t54) (tb a) w) H locs := by exact Bd_eq (mwQ3x rfl _) (by rw [hw9] at hB; exact hB)
            obtain rfl : x53 = 1 := hf56.trans (by decide)
            refine W.eq (g2 := F0 m 55 ls [.int 1]) rfl ?_
            refine lv_if_eq (tgt := 60) hx hb dX10_add_55 (by decide) (fun c57 => False.elim (by revert c57; decide)) (fun _ => ?_)
            refine lv_iconst (v := 0) hx hb dX10_add_58 (by decide) ?_
            rw [← hQ]
            exact end_i hX hB hA3 rfl rfl (by obtain ⟨rfl, rfl, rfl, rfl⟩ := pr4 hR; exact ⟨a, rfl, rfl, hm, rfl, rfl⟩) (Nat.le_of_ble_eq_true rfl) (Nat.le_of_ble_eq_true rfl) dX10_add_59
    · replace hR := ifn (by decide) hR
      refine W.eq (g2 := F0 m 19 ls [.int 1, .ref (a 0)]) rfl ?_
      refine lv_if_ne (tgt := 26) hx hb dX10_add_19 (by decide) (fun _ => ?_) (fun c58 => False.elim (by revert c58; decide))
      refine lv_iconst (v := 0) hx hb dX10_add_26 (by decide) ?_
      refine lv_iload_n hx hb dX10_add_27 rfl (lv_at hl 3 rfl) ?_
      refine lv_iload hx hb dX10_add_28 (lv_at hl 4 rfl) ?_
      refine lv_icmp_eq (tgt := 47) hx hb dX10_add_30 (by decide) (fun c59 => ?_) (fun c59 => ?_)
      · replace hR := ifp c59 hR
        refine lv_iconst (v := 1) hx hb dX10_add_47 (by decide) ?_
        refine lv_goto (tgt := 52) hx hb dX10_add_48 (by decide) ?_
        obtain ⟨x60, t61, hd62⟩ := ex2 (D_X10_isThrown_ (q 0) (q 1) (q 2) (q 3) 0 1)
        replace hR := bnd2_use hd62 hR
        refine call_V (n := 2) (k0 := 0) (As := [.int 0, .int 1]) (rest := []) hX hB (k_X10_isThrown_ κ l (mw κ a r f q (tb a) w) 0 (a 0) (a 1) (q 0) (q 1) (q 2) (q 3) 0 1 (mw0x (a := a) (r := r) (f := f) (q := q) (T := tb a) (w := w) rfl) x60 t61 hd62) ⟨rfl, yk_X10_isThrown_⟩ wm_5_192 wm_5_194 wp_27 wm_1_6 wm_5_195 ⟨Nat.le_of_ble_eq_true rfl, Nat.le_of_ble_eq_true rfl⟩ ⟨Nat.le_of_ble_eq_true rfl, Nat.le_of_ble_eq_true rfl⟩ (mw0x (a := a) (r := r) (f := f) (q := q) (T := tb a) (w := w) rfl) rfl rfl rfl hl.1 rfl (Nat.le_of_ble_eq_true rfl) dX10_add_52 (fun o w' H locs hp hB => ?_)
        obtain ⟨rfl, hf63, hw9⟩ := hp
        replace hB : Bd κ A s (mw κ a r f (va_up q 3 t61) (tb a) w) H locs := by exact Bd_eq (mwQ3x rfl _) (by rw [hw9] at hB; exact hB)
        obtain rfl : x60 = 1 := hf63.trans (by decide)
        refine W.eq (g2 := F0 m 55 ls [.int 1]) rfl ?_
        refine lv_if_eq (tgt := 60) hx hb dX10_add_55 (by decide) (fun c64 => False.elim (by revert c64; decide)) (fun _ => ?_)
        refine lv_iconst (v := 0) hx hb dX10_add_58 (by decide) ?_
        rw [← hQ]
        exact end_i hX hB hA3 rfl rfl (by obtain ⟨rfl, rfl, rfl, rfl⟩ := pr4 hR; exact ⟨a, rfl, rfl, hm, rfl, rfl⟩) (Nat.le_of_ble_eq_true rfl) (Nat.le_of_ble_eq_true rfl) dX10_add_59
      · replace hR := ifn c59 hR
        refine lv_iload hx hb dX10_add_33 (lv_at hl 5 rfl) ?_
        refine lv_bipush (v := (-20)) hx hb dX10_add_35 (by decide) ?_
        refine lv_icmp_lt (tgt := 47) hx hb dX10_add_37 (by decide) (fun c65 => ?_) (fun c65 => ?_)
        · replace hR := ifp c65 hR
          refine lv_iconst (v := 1) hx hb dX10_add_47 (by decide) ?_
          refine lv_goto (tgt := 52) hx hb dX10_add_48 (by decide) ?_
          obtain ⟨x66, t67, hd68⟩ := ex2 (D_X10_isThrown_ (q 0) (q 1) (q 2) (q 3) 0 1)
          replace hR := bnd2_use hd68 hR
          refine call_V (n := 2) (k0 := 0) (As := [.int 0, .int 1]) (rest := []) hX hB (k_X10_isThrown_ κ l (mw κ a r f q (tb a) w) 0 (a 0) (a 1) (q 0) (q 1) (q 2) (q 3) 0 1 (mw0x (a := a) (r := r) (f := f) (q := q) (T := tb a) (w := w) rfl) x66 t67 hd68) ⟨rfl, yk_X10_isThrown_⟩ wm_5_192 wm_5_194 wp_27 wm_1_6 wm_5_195 ⟨Nat.le_of_ble_eq_true rfl, Nat.le_of_ble_eq_true rfl⟩ ⟨Nat.le_of_ble_eq_true rfl, Nat.le_of_ble_eq_true rfl⟩ (mw0x (a := a) (r := r) (f := f) (q := q) (T := tb a) (w := w) rfl) rfl rfl rfl hl.1 rfl (Nat.le_of_ble_eq_true rfl) dX10_add_52 (fun o w' H locs hp hB => ?_)
          obtain ⟨rfl, hf69, hw9⟩ := hp
          replace hB : Bd κ A s (mw κ a r f (va_up q 3 t67) (tb a) w) H locs := by exact Bd_eq (mwQ3x rfl _) (by rw [hw9] at hB; exact hB)
          obtain rfl : x66 = 1 := hf69.trans (by decide)
          refine W.eq (g2 := F0 m 55 ls [.int 1]) rfl ?_
          refine lv_if_eq (tgt := 60) hx hb dX10_add_55 (by decide) (fun c70 => False.elim (by revert c70; decide)) (fun _ => ?_)
          refine lv_iconst (v := 0) hx hb dX10_add_58 (by decide) ?_
          rw [← hQ]
          exact end_i hX hB hA3 rfl rfl (by obtain ⟨rfl, rfl, rfl, rfl⟩ := pr4 hR; exact ⟨a, rfl, rfl, hm, rfl, rfl⟩) (Nat.le_of_ble_eq_true rfl) (Nat.le_of_ble_eq_true rfl) dX10_add_59
        · replace hR := ifn c65 hR
          refine lv_iload hx hb dX10_add_40 (lv_at hl 5 rfl) ?_
          refine lv_bipush (v := 20) hx hb dX10_add_42 (by decide) ?_
          refine lv_icmp_le (tgt := 51) hx hb dX10_add_44 (by decide) (fun c71 => ?_) (fun c71 => ?_)
          · replace hR := ifp c71 hR
            refine lv_iconst (v := 0) hx hb dX10_add_51 (by decide) ?_
            obtain ⟨x72, t73, hd74⟩ := ex2 (D_X10_isThrown_ (q 0) (q 1) (q 2) (q 3) 0 0)
            replace hR := bnd2_use hd74 hR
            refine call_V (n := 2) (k0 := 0) (As := [.int 0, .int 0]) (rest := []) hX hB (k_X10_isThrown_ κ l (mw κ a r f q (tb a) w) 0 (a 0) (a 1) (q 0) (q 1) (q 2) (q 3) 0 0 (mw0x (a := a) (r := r) (f := f) (q := q) (T := tb a) (w := w) rfl) x72 t73 hd74) ⟨rfl, yk_X10_isThrown_⟩ wm_5_192 wm_5_194 wp_27 wm_1_6 wm_5_195 ⟨Nat.le_of_ble_eq_true rfl, Nat.le_of_ble_eq_true rfl⟩ ⟨Nat.le_of_ble_eq_true rfl, Nat.le_of_ble_eq_true rfl⟩ (mw0x (a := a) (r := r) (f := f) (q := q) (T := tb a) (w := w) rfl) rfl rfl rfl hl.1 rfl (Nat.le_of_ble_eq_true rfl) dX10_add_52 (fun o w' H locs hp hB => ?_)
            obtain ⟨rfl, hf75, hw9⟩ := hp
            replace hB : Bd κ A s (mw κ a r f (va_up q 3 t73) (tb a) w) H locs := by exact Bd_eq (mwQ3x rfl _) (by rw [hw9] at hB; exact hB)
            obtain rfl : x72 = 0 := hf75.trans (by decide)
            refine W.eq (g2 := F0 m 55 ls [.int 0]) rfl ?_
            refine lv_if_eq (tgt := 60) hx hb dX10_add_55 (by decide) (fun _ => ?_) (fun c76 => False.elim (by revert c76; decide))
            refine lv_aload_n hx hb dX10_add_60 rfl (lv_at hl 0 rfl) ?_
            refine gf (k0 := 0) hX hB (mw0x (a := a) (r := r) (f := f) (q := (va_up q 3 t73)) (T := tb a) (w := w) rfl) rfl in10 0 (by decide) wm_5_162 rfl rfl dX10_add_61 ?_
            refine lv_iload_n hx hb dX10_add_64 rfl (lv_at hl 1 rfl) ?_
            refine aaldM (k0 := 1) hX hB (mw1 (a := a) (r := r) (f := f) (q := (va_up q 3 t73)) (T := tb a) (w := w)) (vp_in_mk (by assumption) (by assumption)) rfl dX10_add_65 ?_
            have hb77 := mok_r hm y.toNatClampNeg (by omega)
            obtain ⟨F80, hd81⟩ := ex1 (D_X7_copy (r (2 * y.toNatClampNeg)) (r (2 * y.toNatClampNeg + 1)) (f y.toNatClampNeg))
            replace hR := bnd1_use hd81 hR
            refine call_V (n := 0) (k0 := (2 + 2 * y.toNatClampNeg)) (As := []) (rest := []) hX hB (k_X7_copy κ l (mw κ a r f (va_up q 3 t73) (tb a) w) (2 + 2 * y.toNatClampNeg) (3 + 2 * y.toNatClampNeg) (a (2 + 2 * y.toNatClampNeg)) (a (3 + 2 * y.toNatClampNeg)) (r (2 * y.toNatClampNeg)) (r (2 * y.toNatClampNeg + 1)) (f y.toNatClampNeg) (mwG (i := y.toNatClampNeg) (a := a) (r := r) (f := f) (q := (va_up q 3 t73)) (T := tb a) (w := w) (by omega)) (mwA (i := y.toNatClampNeg) (a := a) (r := r) (f := f) (q := (va_up q 3 t73)) (T := tb a) (w := w) (by omega)) (mok_shp (i := y.toNatClampNeg) hm (by omega)) F80 hd81) ⟨rfl, yk_X7_copy⟩ wm_6_23 wm_6_24 wm_6_25 wm_1_7 wm_6_26 ⟨Nat.le_of_ble_eq_true rfl, Nat.le_of_ble_eq_true rfl⟩ ⟨Nat.le_of_ble_eq_true rfl, Nat.le_of_ble_eq_true rfl⟩ (mwG (i := y.toNatClampNeg) (a := a) (r := r) (f := f) (q := (va_up q 3 t73)) (T := tb a) (w := w) (by omega)) rfl rfl rfl hl.1 rfl (Nat.le_of_ble_eq_true rfl) dX10_add_66 (fun o w' H locs hp hB => ?_)
            obtain ⟨q78, q79, rfl, hf82, hw9⟩ := hp
            replace hB : Bd κ A s (lA κ q79 ((r (2 * y.toNatClampNeg)) * 5) F80 :: gO q78 (r (2 * y.toNatClampNeg)) (r (2 * y.toNatClampNeg + 1)) q79 :: mw κ a r f (va_up q 3 t73) (tb a) w) H locs := by rw [hw9] at hB; exact hB
            have hscF80 : ∀ k, k < (r (2 * y.toNatClampNeg)) * 5 → sm (F80 k) := fun k hk => by rw [hf82 k hk]; exact (hm _ (by omega)).2 k hk
            refine W.eq (g2 := F0 m 69 ls [.ref q78]) rfl ?_
            refine lv_astore (lv' := [(6, .ref q78), (0, .ref (a 0)), (1, .int y), (2, .int c0), (3, .int z), (4, .int u), (5, .int v)]) hx hb dX10_add_69 hl (by decide) rfl (fun ls hl => ?_)
            refine lv_iload_n hx hb dX10_add_71 rfl (lv_at hl 3 rfl) ?_
            refine lv_if_eq (tgt := 89) hx hb dX10_add_72 (by decide) (fun c83 => ?_) (fun c83 => ?_)
            · replace hR := ifp c83 hR
              have hz4l := hz4d c83
              have hz33l := hz33d c83
              refine lv_aload hx hb dX10_add_89 (lv_at hl 0 rfl) ?_
              refine lv_iload_n hx hb dX10_add_91 rfl (lv_at hl 4 rfl) ?_
              refine lv_iload hx hb dX10_add_92 (lv_at hl 5 rfl) ?_
              refine lv_iload hx hb dX10_add_94 (lv_at hl 6 rfl) ?_
              refine lv_i2l hx hb dX10_add_96 rfl ?_
              refine call_V (n := 3) (k0 := 1) (As := [.int z, .int u, .long ((v).toInt64)]) (rest := []) hX hB (k_X7_addRow κ l (lA κ q79 ((r (2 * y.toNatClampNeg)) * 5) F80 :: gO q78 (r (2 * y.toNatClampNeg)) (r (2 * y.toNatClampNeg + 1)) q79 :: mw κ a r f (va_up q 3 t73) (tb a) w) 1 0 q78 q79 (r (2 * y.toNatClampNeg)) (r (2 * y.toNatClampNeg + 1)) F80 z ((z).toNatClampNeg) u ((u).toNatClampNeg) ((v).toInt64) rfl rfl ⟨by omega, by omega, by omega, by omega⟩ (nI_rep (by assumption)) (nI_rep (by assumption)) (by omega) (by omega) (ne_nat (by assumption) (by assumption) (by assumption))) ⟨rfl, yk_X7_addRow⟩ wm_6_79 wm_6_80 wm_6_81 wm_1_7 wm_6_82 ⟨Nat.le_of_ble_eq_true rfl, Nat.le_of_ble_eq_true rfl⟩ ⟨Nat.le_of_ble_eq_true rfl, Nat.le_of_ble_eq_true rfl⟩ rfl rfl rfl rfl hl.1 rfl (Nat.le_of_ble_eq_true rfl) dX10_add_97 (fun o w' H locs hp hB => ?_)
              obtain ⟨rfl, hw9⟩ := hp
              replace hB : Bd κ A s (lA κ q79 ((r (2 * y.toNatClampNeg)) * 5) (ar (r (2 * y.toNatClampNeg + 1)) ((z).toNatClampNeg) ((u).toNatClampNeg) ((v).toInt64) F80) :: gO q78 (r (2 * y.toNatClampNeg)) (r (2 * y.toNatClampNeg + 1)) q79 :: mw κ a r f (va_up q 3 t73) (tb a) w) H locs := by rw [hw9] at hB; exact hB
              refine W.eq (g2 := F0 m 100 ls []) rfl ?_
              refine lv_aload hx hb dX10_add_100 (lv_at hl 0 rfl) ?_
              obtain ⟨x84, hd85⟩ := ex1 (D_X7_isLet (r (2 * y.toNatClampNeg)) (r (2 * y.toNatClampNeg + 1)) (ar (r (2 * y.toNatClampNeg + 1)) ((z).toNatClampNeg) ((u).toNatClampNeg) ((v).toInt64) F80))
              replace hR := bnd1_use hd85 hR
              refine call_V (n := 0) (k0 := 1) (As := []) (rest := []) hX hB (k_X7_isLet κ l (lA κ q79 ((r (2 * y.toNatClampNeg)) * 5) (ar (r (2 * y.toNatClampNeg + 1)) ((z).toNatClampNeg) ((u).toNatClampNeg) ((v).toInt64) F80) :: gO q78 (r (2 * y.toNatClampNeg)) (r (2 * y.toNatClampNeg + 1)) q79 :: mw κ a r f (va_up q 3 t73) (tb a) w) 1 0 q78 q79 (r (2 * y.toNatClampNeg)) (r (2 * y.toNatClampNeg + 1)) (ar (r (2 * y.toNatClampNeg + 1)) ((z).toNatClampNeg) ((u).toNatClampNeg) ((v).toInt64) F80) rfl rfl ⟨by omega, by omega, by omega, by omega⟩ x84 hd85) ⟨rfl, yk_X7_isLet⟩ wm_6_83 wm_6_84 wm_6_85 wm_1_7 wm_6_86 ⟨Nat.le_of_ble_eq_true rfl, Nat.le_of_ble_eq_true rfl⟩ ⟨Nat.le_of_ble_eq_true rfl, Nat.le_of_ble_eq_true rfl⟩ rfl rfl rfl rfl hl.1 rfl (Nat.le_of_ble_eq_true rfl) dX10_add_102 (fun o w' H locs hp hB => ?_)
              obtain ⟨rfl, hf86, hf87, hw9⟩ := hp
              replace hB : Bd κ A s (lA κ q79 ((r (2 * y.toNatClampNeg)) * 5) (ar (r (2 * y.toNatClampNeg + 1)) ((z).toNatClampNeg) ((u).toNatClampNeg) ((v).toInt64) F80) :: gO q78 (r (2 * y.toNatClampNeg)) (r (2 * y.toNatClampNeg + 1)) q79 :: mw κ a r f (va_up q 3 t73) (tb a) w) H locs := by rw [hw9] at hB; exact hB
              rcases hf86 with rfl | rfl
              · replace hR := ifp rfl hR
                refine W.eq (g2 := F0 m 105 ls [.int 0]) rfl ?_
                refine lv_if_eq (tgt := 118) hx hb dX10_add_105 (by decide) (fun _ => ?_) (fun c88 => False.elim (by revert c88; decide))
                refine lv_aload_n hx hb dX10_add_118 rfl (lv_at hl 1 rfl) ?_
                refine call_V (n := 0) (k0 := 2) (As := []) (rest := []) hX hB (k_X10_no κ l (lA κ q79 ((r (2 * y.toNatClampNeg)) * 5) (ar (r (2 * y.toNatClampNeg + 1)) ((z).toNatClampNeg) ((u).toNatClampNeg) ((v).toInt64) F80) :: gO q78 (r (2 * y.toNatClampNeg)) (r (2 * y.toNatClampNeg + 1)) q79 :: mw κ a r f (va_up q 3 t73) (tb a) w) 2 (a 0) (a 1) ((va_up q 3 t73) 0) ((va_up q 3 t73) 1) ((va_up q 3 t73) 2) ((va_up q 3 t73) 3) (mw0x (a := a) (r := r) (f := f) (q := (va_up q 3 t73)) (T := tb a) (w := w) rfl)) ⟨rfl, yk_X10_no⟩ wm_6_89 wm_6_91 wp_36 wm_1_6 wm_6_92 ⟨Nat.le_of_ble_eq_true rfl, Nat.le_of_ble_eq_true rfl⟩ ⟨Nat.le_of_ble_eq_true rfl, Nat.le_of_ble_eq_true rfl⟩ (mw0x (a := a) (r := r) (f := f) (q := (va_up q 3 t73)) (T := tb a) (w := w) rfl) rfl rfl rfl hl.1 rfl (Nat.le_of_ble_eq_true rfl) dX10_add_119 (fun o w' H locs hp hB => ?_)
                obtain ⟨rfl, hw9⟩ := hp
                replace hB : Bd κ A s (lA κ q79 ((r (2 * y.toNatClampNeg)) * 5) (ar (r (2 * y.toNatClampNeg + 1)) ((z).toNatClampNeg) ((u).toNatClampNeg) ((v).toInt64) F80) :: gO q78 (r (2 * y.toNatClampNeg)) (r (2 * y.toNatClampNeg + 1)) q79 :: mw κ a r f (va_up (va_up q 3 t73) 1 (((va_up q 3 t73) 1) + 1)) (tb a) w) H locs := by exact Bd_eq (congrArg (List.cons _) (congrArg (List.cons _) (mwQ1x rfl _))) (by rw [hw9] at hB; exact hB)
                refine W.eq (g2 := F0 m 122 ls [.int (-9)]) rfl ?_
                replace hB : Bd κ A s (lA κ q79 ((r (2 * y.toNatClampNeg)) * 5) (ar (r (2 * y.toNatClampNeg + 1)) ((z).toNatClampNeg) ((u).toNatClampNeg) ((v).toInt64) F80) :: mw κ a r f (va_up (va_up q 3 t73) 1 (((va_up q 3 t73) 1) + 1)) (tb a) w) H locs := Bd_del 1 hB
                replace hB : Bd κ A s (mw κ a r f (va_up (va_up q 3 t73) 1 (((va_up q 3 t73) 1) + 1)) (tb a) w) H locs := Bd_del 0 hB
                rw [← hQ]
                exact end_i hX hB hA3 rfl rfl (by obtain ⟨rfl, rfl, rfl, rfl⟩ := pr4 hR; exact ⟨a, rfl, rfl, hm, rfl, rfl⟩) (Nat.le_of_ble_eq_true rfl) (Nat.le_of_ble_eq_true rfl) dX10_add_122
              · replace hR := ifn (by decide) hR
                refine W.eq (g2 := F0 m 105 ls [.int 1]) rfl ?_
                refine lv_if_eq (tgt := 118) hx hb dX10_add_105 (by decide) (fun c89 => False.elim (by revert c89; decide)) (fun _ => ?_)
                refine lv_aload_n hx hb dX10_add_108 rfl (lv_at hl 1 rfl) ?_
                refine lv_iload_n hx hb dX10_add_109 rfl (lv_at hl 2 rfl) ?_
                refine lv_aload hx hb dX10_add_110 (lv_at hl 0 rfl) ?_
                obtain ⟨x90, rn92, fn93, qn94, hd95⟩ := ex4 (D_X10_changed r f (va_up q 3 t73) y (r (2 * y.toNatClampNeg)) (r (2 * y.toNatClampNeg + 1)) (ar (r (2 * y.toNatClampNeg + 1)) ((z).toNatClampNeg) ((u).toNatClampNeg) ((v).toInt64) F80))
                replace hR := bnd4_use hd95 hR
                refine call_V (n := 2) (k0 := 2) (As := [.int y, .ref q78]) (rest := []) hX hB (k_X10_changed κ l w a r f (va_up q 3 t73) y q78 q79 (r (2 * y.toNatClampNeg)) (r (2 * y.toNatClampNeg + 1)) (ar (r (2 * y.toNatClampNeg + 1)) ((z).toNatClampNeg) ((u).toNatClampNeg) ((v).toInt64) F80) hm ⟨by omega, by omega, by omega, by omega⟩ (by assumption) (by assumption) (by omega) (hf87 rfl) x90 rn92 fn93 qn94 hd95) ⟨rfl, yk_X10_changed⟩ wm_6_55 wm_6_57 wp_35 wm_1_6 wm_6_58 ⟨Nat.le_of_ble_eq_true rfl, Nat.le_of_ble_eq_true rfl⟩ ⟨Nat.le_of_ble_eq_true rfl, Nat.le_of_ble_eq_true rfl⟩ (mw0x (a := a) (r := r) (f := f) (q := (va_up q 3 t73)) (T := tb a) (w := w) rfl) rfl rfl rfl hl.1 rfl (Nat.le_of_ble_eq_true rfl) dX10_add_112 (fun o w' H locs hp hB => ?_)
                obtain ⟨an91, rfl, hf96, hf97, hf98, hw9⟩ := hp
                replace hB : Bd κ A s (mw κ an91 rn92 fn93 qn94 (tb an91) w) H locs := by rw [hw9] at hB; exact hB
                refine W.eq (g2 := F0 m 115 ls [.int x90]) rfl ?_
                refine lv_goto (tgt := 122) hx hb dX10_add_115 (by decide) ?_
                rw [← hQ]
                exact end_i hX hB hA3 rfl rfl (by obtain ⟨rfl, rfl, rfl, rfl⟩ := pr4 hR; exact ⟨an91, rfl, (hf96.trans rfl), hf97, (hf98.trans rfl), rfl⟩) (Nat.le_of_ble_eq_true rfl) (Nat.le_of_ble_eq_true rfl) dX10_add_122
            · replace hR := ifn c83 hR
              have hz4l := hz4e c83
              have hz33l := hz33e c83
              refine lv_aload hx hb dX10_add_75 (lv_at hl 0 rfl) ?_
              refine lv_iload_n hx hb dX10_add_77 rfl (lv_at hl 4 rfl) ?_
              refine lv_iload hx hb dX10_add_78 (lv_at hl 5 rfl) ?_
              refine lv_iload hx hb dX10_add_80 (lv_at hl 6 rfl) ?_
              refine lv_i2l hx hb dX10_add_82 rfl ?_
              refine call_V (n := 3) (k0 := 1) (As := [.int z, .int u, .long ((v).toInt64)]) (rest := []) hX hB (k_X7_addColumn κ l (lA κ q79 ((r (2 * y.toNatClampNeg)) * 5) F80 :: gO q78 (r (2 * y.toNatClampNeg)) (r (2 * y.toNatClampNeg + 1)) q79 :: mw κ a r f (va_up q 3 t73) (tb a) w) 1 0 q78 q79 (r (2 * y.toNatClampNeg)) (r (2 * y.toNatClampNeg + 1)) F80 z ((z).toNatClampNeg) u ((u).toNatClampNeg) ((v).toInt64) rfl rfl ⟨by omega, by omega, by omega, by omega⟩ (nI_rep (by assumption)) (nI_rep (by assumption)) (by omega) (by omega) (ne_nat (by assumption) (by assumption) (by assumption))) ⟨rfl, yk_X7_addColumn⟩ wm_6_75 wm_6_76 wm_6_77 wm_1_7 wm_6_78 ⟨Nat.le_of_ble_eq_true rfl, Nat.le_of_ble_eq_true rfl⟩ ⟨Nat.le_of_ble_eq_true rfl, Nat.le_of_ble_eq_true rfl⟩ rfl rfl rfl rfl hl.1 rfl (Nat.le_of_ble_eq_true rfl) dX10_add_83 (fun o w' H locs hp hB => ?_)
              obtain ⟨rfl, hw9⟩ := hp
              replace hB : Bd κ A s (lA κ q79 ((r (2 * y.toNatClampNeg)) * 5) (ac (r (2 * y.toNatClampNeg)) ((z).toNatClampNeg) ((u).toNatClampNeg) ((v).toInt64) F80) :: gO q78 (r (2 * y.toNatClampNeg)) (r (2 * y.toNatClampNeg + 1)) q79 :: mw κ a r f (va_up q 3 t73) (tb a) w) H locs := by rw [hw9] at hB; exact hB
              refine W.eq (g2 := F0 m 86 ls []) rfl ?_
              refine lv_goto (tgt := 100) hx hb dX10_add_86 (by decide) ?_
              refine lv_aload hx hb dX10_add_100 (lv_at hl 0 rfl) ?_
              obtain ⟨x99, hd100⟩ := ex1 (D_X7_isLet (r (2 * y.toNatClampNeg)) (r (2 * y.toNatClampNeg + 1)) (ac (r (2 * y.toNatClampNeg)) ((z).toNatClampNeg) ((u).toNatClampNeg) ((v).toInt64) F80))
              replace hR := bnd1_use hd100 hR
              refine call_V (n := 0) (k0 := 1) (As := []) (rest := []) hX hB (k_X7_isLet κ l (lA κ q79 ((r (2 * y.toNatClampNeg)) * 5) (ac (r (2 * y.toNatClampNeg)) ((z).toNatClampNeg) ((u).toNatClampNeg) ((v).toInt64) F80) :: gO q78 (r (2 * y.toNatClampNeg)) (r (2 * y.toNatClampNeg + 1)) q79 :: mw κ a r f (va_up q 3 t73) (tb a) w) 1 0 q78 q79 (r (2 * y.toNatClampNeg)) (r (2 * y.toNatClampNeg + 1)) (ac (r (2 * y.toNatClampNeg)) ((z).toNatClampNeg) ((u).toNatClampNeg) ((v).toInt64) F80) rfl rfl ⟨by omega, by omega, by omega, by omega⟩ x99 hd100) ⟨rfl, yk_X7_isLet⟩ wm_6_83 wm_6_84 wm_6_85 wm_1_7 wm_6_86 ⟨Nat.le_of_ble_eq_true rfl, Nat.le_of_ble_eq_true rfl⟩ ⟨Nat.le_of_ble_eq_true rfl, Nat.le_of_ble_eq_true rfl⟩ rfl rfl rfl rfl hl.1 rfl (Nat.le_of_ble_eq_true rfl) dX10_add_102 (fun o w' H locs hp hB => ?_)
              obtain ⟨rfl, hf101, hf102, hw9⟩ := hp
              replace hB : Bd κ A s (lA κ q79 ((r (2 * y.toNatClampNeg)) * 5) (ac (r (2 * y.toNatClampNeg)) ((z).toNatClampNeg) ((u).toNatClampNeg) ((v).toInt64) F80) :: gO q78 (r (2 * y.toNatClampNeg)) (r (2 * y.toNatClampNeg + 1)) q79 :: mw κ a r f (va_up q 3 t73) (tb a) w) H locs := by rw [hw9] at hB; exact hB
              rcases hf101 with rfl | rfl
              · replace hR := ifp rfl hR
                refine W.eq (g2 := F0 m 105 ls [.int 0]) rfl ?_
                refine lv_if_eq (tgt := 118) hx hb dX10_add_105 (by decide) (fun _ => ?_) (fun c103 => False.elim (by revert c103; decide))
                refine lv_aload_n hx hb dX10_add_118 rfl (lv_at hl 1 rfl) ?_
                refine call_V (n := 0) (k0 := 2) (As := []) (rest := []) hX hB (k_X10_no κ l (lA κ q79 ((r (2 * y.toNatClampNeg)) * 5) (ac (r (2 * y.toNatClampNeg)) ((z).toNatClampNeg) ((u).toNatClampNeg) ((v).toInt64) F80) :: gO q78 (r (2 * y.toNatClampNeg)) (r (2 * y.toNatClampNeg + 1)) q79 :: mw κ a r f (va_up q 3 t73) (tb a) w) 2 (a 0) (a 1) ((va_up q 3 t73) 0) ((va_up q 3 t73) 1) ((va_up q 3 t73) 2) ((va_up q 3 t73) 3) (mw0x (a := a) (r := r) (f := f) (q := (va_up q 3 t73)) (T := tb a) (w := w) rfl)) ⟨rfl, yk_X10_no⟩ wm_6_89 wm_6_91 wp_36 wm_1_6 wm_6_92 ⟨Nat.le_of_ble_eq_true rfl, Nat.le_of_ble_eq_true rfl⟩ ⟨Nat.le_of_ble_eq_true rfl, Nat.le_of_ble_eq_true rfl⟩ (mw0x (a := a) (r := r) (f := f) (q := (va_up q 3 t73)) (T := tb a) (w := w) rfl) rfl rfl rfl hl.1 rfl (Nat.le_of_ble_eq_true rfl) dX10_add_119 (fun o w' H locs hp hB => ?_)
                obtain ⟨rfl, hw9⟩ := hp
                replace hB : Bd κ A s (lA κ q79 ((r (2 * y.toNatClampNeg)) * 5) (ac (r (2 * y.toNatClampNeg)) ((z).toNatClampNeg) ((u).toNatClampNeg) ((v).toInt64) F80) :: gO q78 (r (2 * y.toNatClampNeg)) (r (2 * y.toNatClampNeg + 1)) q79 :: mw κ a r f (va_up (va_up q 3 t73) 1 (((va_up q 3 t73) 1) + 1)) (tb a) w) H locs := by exact Bd_eq (congrArg (List.cons _) (congrArg (List.cons _) (mwQ1x rfl _))) (by rw [hw9] at hB; exact hB)
                refine W.eq (g2 := F0 m 122 ls [.int (-9)]) rfl ?_
                replace hB : Bd κ A s (lA κ q79 ((r (2 * y.toNatClampNeg)) * 5) (ac (r (2 * y.toNatClampNeg)) ((z).toNatClampNeg) ((u).toNatClampNeg) ((v).toInt64) F80) :: mw κ a r f (va_up (va_up q 3 t73) 1 (((va_up q 3 t73) 1) + 1)) (tb a) w) H locs := Bd_del 1 hB
                replace hB : Bd κ A s (mw κ a r f (va_up (va_up q 3 t73) 1 (((va_up q 3 t73) 1) + 1)) (tb a) w) H locs := Bd_del 0 hB
                rw [← hQ]
                exact end_i hX hB hA3 rfl rfl (by obtain ⟨rfl, rfl, rfl, rfl⟩ := pr4 hR; exact ⟨a, rfl, rfl, hm, rfl, rfl⟩) (Nat.le_of_ble_eq_true rfl) (Nat.le_of_ble_eq_true rfl) dX10_add_122
              · replace hR := ifn (by decide) hR
                refine W.eq (g2 := F0 m 105 ls [.int 1]) rfl ?_
                refine lv_if_eq (tgt := 118) hx hb dX10_add_105 (by decide) (fun c104 => False.elim (by revert c104; decide)) (fun _ => ?_)
                refine lv_aload_n hx hb dX10_add_108 rfl (lv_at hl 1 rfl) ?_
                refine lv_iload_n hx hb dX10_add_109 rfl (lv_at hl 2 rfl) ?_
                refine lv_aload hx hb dX10_add_110 (lv_at hl 0 rfl) ?_
                obtain ⟨x105, rn107, fn108, qn109, hd110⟩ := ex4 (D_X10_changed r f (va_up q 3 t73) y (r (2 * y.toNatClampNeg)) (r (2 * y.toNatClampNeg + 1)) (ac (r (2 * y.toNatClampNeg)) ((z).toNatClampNeg) ((u).toNatClampNeg) ((v).toInt64) F80))
                replace hR := bnd4_use hd110 hR
                refine call_V (n := 2) (k0 := 2) (As := [.int y, .ref q78]) (rest := []) hX hB (k_X10_changed κ l w a r f (va_up q 3 t73) y q78 q79 (r (2 * y.toNatClampNeg)) (r (2 * y.toNatClampNeg + 1)) (ac (r (2 * y.toNatClampNeg)) ((z).toNatClampNeg) ((u).toNatClampNeg) ((v).toInt64) F80) hm ⟨by omega, by omega, by omega, by omega⟩ (by assumption) (by assumption) (by omega) (hf102 rfl) x105 rn107 fn108 qn109 hd110) ⟨rfl, yk_X10_changed⟩ wm_6_55 wm_6_57 wp_35 wm_1_6 wm_6_58 ⟨Nat.le_of_ble_eq_true rfl, Nat.le_of_ble_eq_true rfl⟩ ⟨Nat.le_of_ble_eq_true rfl, Nat.le_of_ble_eq_true rfl⟩ (mw0x (a := a) (r := r) (f := f) (q := (va_up q 3 t73)) (T := tb a) (w := w) rfl) rfl rfl rfl hl.1 rfl (Nat.le_of_ble_eq_true rfl) dX10_add_112 (fun o w' H locs hp hB => ?_)
                obtain ⟨an106, rfl, hf111, hf112, hf113, hw9⟩ := hp
                replace hB : Bd κ A s (mw κ an106 rn107 fn108 qn109 (tb an106) w) H locs := by rw [hw9] at hB; exact hB
                refine W.eq (g2 := F0 m 115 ls [.int x105]) rfl ?_
                refine lv_goto (tgt := 122) hx hb dX10_add_115 (by decide) ?_
                rw [← hQ]
                exact end_i hX hB hA3 rfl rfl (by obtain ⟨rfl, rfl, rfl, rfl⟩ := pr4 hR; exact ⟨an106, rfl, (hf111.trans rfl), hf112, (hf113.trans rfl), rfl⟩) (Nat.le_of_ble_eq_true rfl) (Nat.le_of_ble_eq_true rfl) dX10_add_122
          · replace hR := ifn c71 hR
            refine lv_iconst (v := 1) hx hb dX10_add_47 (by decide) ?_
            refine lv_goto (tgt := 52) hx hb dX10_add_48 (by decide) ?_
            obtain ⟨x114, t115, hd116⟩ := ex2 (D_X10_isThrown_ (q 0) (q 1) (q 2) (q 3) 0 1)
            replace hR := bnd2_use hd116 hR
            refine call_V (n := 2) (k0 := 0) (As := [.int 0, .int 1]) (rest := []) hX hB (k_X10_isThrown_ κ l (mw κ a r f q (tb a) w) 0 (a 0) (a 1) (q 0) (q 1) (q 2) (q 3) 0 1 (mw0x (a := a) (r := r) (f := f) (q := q) (T := tb a) (w := w) rfl) x114 t115 hd116) ⟨rfl, yk_X10_isThrown_⟩ wm_5_192 wm_5_194 wp_27 wm_1_6 wm_5_195 ⟨Nat.le_of_ble_eq_true rfl, Nat.le_of_ble_eq_true rfl⟩ ⟨Nat.le_of_ble_eq_true rfl, Nat.le_of_ble_eq_true rfl⟩ (mw0x (a := a) (r := r) (f := f) (q := q) (T := tb a) (w := w) rfl) rfl rfl rfl hl.1 rfl (Nat.le_of_ble_eq_true rfl) dX10_add_52 (fun o w' H locs hp hB => ?_)
            obtain ⟨rfl, hf117, hw9⟩ := hp
            replace hB : Bd κ A s (mw κ a r f (va_up q 3 t115) (tb a) w) H locs := by exact Bd_eq (mwQ3x rfl _) (by rw [hw9] at hB; exact hB)
            obtain rfl : x114 = 1 := hf117.trans (by decide)
            refine W.eq (g2 := F0 m 55 ls [.int 1]) rfl ?_
            refine lv_if_eq (tgt := 60) hx hb dX10_add_55 (by decide) (fun c118 => False.elim (by revert c118; decide)) (fun _ => ?_)
            refine lv_iconst (v := 0) hx hb dX10_add_58 (by decide) ?_
            rw [← hQ]
            exact end_i hX hB hA3 rfl rfl (by obtain ⟨rfl, rfl, rfl, rfl⟩ := pr4 hR; exact ⟨a, rfl, rfl, hm, rfl, rfl⟩) (Nat.le_of_ble_eq_true rfl) (Nat.le_of_ble_eq_true rfl) dX10_add_59
noncomputable def D_X10_widen (r : Nat → Nat) (f : Nat → Nat → Int64) (q : Nat → Int32) (y : Int32) (c0 : Int32) : Int32 × (Nat → Nat) × (Nat → Nat → Int64) × (Nat → Int32) := bnd1 (D_X10_isTable y) (fun (z1 : Int32) => (if z1 = 0 then bnd2 (D_X10_isThrown__ (q 0) (q 1) (q 2) (q 3) 1) (fun (x6 : Int32) (t7 : Int32) => (0, r, f, va_up q 3 t7)) else bnd2 (D_X10_isThrown__ (q 0) (q 1) (q 2) (q 3) 0) (fun (x12 : Int32) (t13 : Int32) => (if c0 = 0 then (if ((r (2 * y.toNatClampNeg)) + 1) ≤ 4 then bnd1 (D_X10_shaped (r (2 * y.toNatClampNeg)) (r (2 * y.toNatClampNeg + 1)) (f y.toNatClampNeg) ((r (2 * y.toNatClampNeg)) + 1) (r (2 * y.toNatClampNeg + 1)) 9 9) (fun (F24 : Nat → Int64) => (nI ((r (2 * y.toNatClampNeg)) + 1), va_up (va_up r (2 * y.toNatClampNeg) ((r (2 * y.toNatClampNeg)) + 1)) (2 * y.toNatClampNeg + 1) (r (2 * y.toNatClampNeg + 1)), va_up f y.toNatClampNeg F24, va_up (va_up q 3 t13) 0 (((va_up q 3 t13) 0) + 1))) else (-9, r, f, va_up (va_up q 3 t13) 1 (((va_up q 3 t13) 1) + 1))) else (if ((r (2 * y.toNatClampNeg + 1)) + 1) ≤ 4 then bnd1 (D_X10_shaped (r (2 * y.toNatClampNeg)) (r (2 * y.toNatClampNeg + 1)) (f y.toNatClampNeg) (r (2 * y.toNatClampNeg)) ((r (2 * y.toNatClampNeg + 1)) + 1) 9 9) (fun (F35 : Nat → Int64) => (nI ((r (2 * y.toNatClampNeg + 1)) + 1), va_up (va_up r (2 * y.toNatClampNeg) (r (2 * y.toNatClampNeg))) (2 * y.toNatClampNeg + 1) ((r (2 * y.toNatClampNeg + 1)) + 1), va_up f y.toNatClampNeg F35, va_up (va_up q 3 t13) 0 (((va_up q 3 t13) 0) + 1))) else (-9, r, f, va_up (va_up q 3 t13) 1 (((va_up q 3 t13) 1) + 1)))))))
theorem D_X10_widen_s {r : Nat → Nat} {f : Nat → Nat → Int64} {q : Nat → Int32} {y : Int32} {c0 : Int32} : D_X10_widen r f q y c0 = bnd1 (D_X10_isTable y) (fun (z1 : Int32) => (if z1 = 0 then bnd2 (D_X10_isThrown__ (q 0) (q 1) (q 2) (q 3) 1) (fun (x6 : Int32) (t7 : Int32) => (0, r, f, va_up q 3 t7)) else bnd2 (D_X10_isThrown__ (q 0) (q 1) (q 2) (q 3) 0) (fun (x12 : Int32) (t13 : Int32) => (if c0 = 0 then (if ((r (2 * y.toNatClampNeg)) + 1) ≤ 4 then bnd1 (D_X10_shaped (r (2 * y.toNatClampNeg)) (r (2 * y.toNatClampNeg + 1)) (f y.toNatClampNeg) ((r (2 * y.toNatClampNeg)) + 1) (r (2 * y.toNatClampNeg + 1)) 9 9) (fun (F24 : Nat → Int64) => (nI ((r (2 * y.toNatClampNeg)) + 1), va_up (va_up r (2 * y.toNatClampNeg) ((r (2 * y.toNatClampNeg)) + 1)) (2 * y.toNatClampNeg + 1) (r (2 * y.toNatClampNeg + 1)), va_up f y.toNatClampNeg F24, va_up (va_up q 3 t13) 0 (((va_up q 3 t13) 0) + 1))) else (-9, r, f, va_up (va_up q 3 t13) 1 (((va_up q 3 t13) 1) + 1))) else (if ((r (2 * y.toNatClampNeg + 1)) + 1) ≤ 4 then bnd1 (D_X10_shaped (r (2 * y.toNatClampNeg)) (r (2 * y.toNatClampNeg + 1)) (f y.toNatClampNeg) (r (2 * y.toNatClampNeg)) ((r (2 * y.toNatClampNeg + 1)) + 1) 9 9) (fun (F35 : Nat → Int64) => (nI ((r (2 * y.toNatClampNeg + 1)) + 1), va_up (va_up r (2 * y.toNatClampNeg) (r (2 * y.toNatClampNeg))) (2 * y.toNatClampNeg + 1) ((r (2 * y.toNatClampNeg + 1)) + 1), va_up f y.toNatClampNeg F35, va_up (va_up q 3 t13) 0 (((va_up q 3 t13) 0) + 1))) else (-9, r, f, va_up (va_up q 3 t13) 1 (((va_up q 3 t13) 1) + 1))))))) := rfl
set_option maxHeartbeats 4000000 in
set_option maxRecDepth 100000 in
theorem k_X10_widen (κ : Kt) (l : Launch) (w : va_W) (a r : Nat → Nat) (f : Nat → Nat → Int64) (q : Nat → Int32) (y : Int32) (c0 : Int32) (hm : mok r f) (o_x : Int32) (o_r' : Nat → Nat) (o_f' : Nat → Nat → Int64) (o_q' : Nat → Int32) (hR : D_X10_widen r f q y c0 = (o_x, o_r', o_f', o_q')) : CM κ l yX10_widen cX10_widen 5 (some .int) 3 71 2 23 [.ref (a 0), .int y, .int c0] (mw κ a r f q (tb a) w) (fun o w' => ∃ (a' : Nat → Nat), o = some (.int o_x) ∧ (a' 0 = a 0) ∧ (mok o_r' o_f') ∧ (o_q' 2 = q 2) ∧ w' = mw κ a' o_r' o_f' o_q' (tb a') w) := by
  refine CM_begin (plainFor_of_name pn_RX10) (Nat.le_of_ble_eq_true rfl) ?_
  intro p e s m args below meth c A Q hX hnm hA3 hQ hB ls hl
  have hx := hX.1.1
  have hb := hX.1.2.1
  have hl : lv_has ls 5 [(0, .ref (a 0)), (1, .int y), (2, .int c0)] := hl
  replace hR := (D_X10_widen_s).symm.trans hR
  refine lv_aload_n hx hb dX10_widen_0 rfl (lv_at hl 0 rfl) ?_
  refine lv_iload_n hx hb dX10_widen_1 rfl (lv_at hl 1 rfl) ?_
  obtain ⟨z1, hd2⟩ := ex1 (D_X10_isTable y)
  replace hR := bnd1_use hd2 hR
  refine call_S (n := 1) (As := [.int y]) (rest := [.ref (a 0)]) hX hB (k_X10_isTable κ l (mw κ a r f q (tb a) w) y z1 hd2) yk_X10_isTable wm_5_186 wm_5_187 wm_1_6 wm_5_188 ⟨Nat.le_of_ble_eq_true rfl, Nat.le_of_ble_eq_true rfl⟩ ⟨Nat.le_of_ble_eq_true rfl, Nat.le_of_ble_eq_true rfl⟩ rfl hl.1 rfl (Nat.le_of_ble_eq_true rfl) dX10_widen_2 (fun o w' H locs hp hB => ?_)
  obtain ⟨rfl, hf3, hw9⟩ := hp
  replace hB : Bd κ A s (mw κ a r f q (tb a) w) H locs := by rw [hw9] at hB; exact hB
  rcases hf3 with rfl | ⟨rfl, hz4a, hz4b⟩
  · replace hR := ifp rfl hR
    refine W.eq (g2 := F0 m 5 ls [.int 0, .ref (a 0)]) rfl ?_
    refine lv_if_ne (tgt := 12) hx hb dX10_widen_5 (by decide) (fun c5 => False.elim (by revert c5; decide)) (fun _ => ?_)
    refine lv_iconst (v := 1) hx hb dX10_widen_8 (by decide) ?_
    refine lv_goto (tgt := 13) hx hb dX10_widen_9 (by decide) ?_
    obtain ⟨x6, t7, hd8⟩ := ex2 (D_X10_isThrown__ (q 0) (q 1) (q 2) (q 3) 1)
    replace hR := bnd2_use hd8 hR
    refine call_V (n := 1) (k0 := 0) (As := [.int 1]) (rest := []) hX hB (k_X10_isThrown__ κ l (mw κ a r f q (tb a) w) 0 (a 0) (a 1) (q 0) (q 1) (q 2) (q 3) 1 (mw0x (a := a) (r := r) (f := f) (q := q) (T := tb a) (w := w) rfl) x6 t7 hd8) ⟨rfl, yk_X10_isThrown__⟩ wm_6_15 wm_6_17 wp_33 wm_1_6 wm_6_18 ⟨Nat.le_of_ble_eq_true rfl, Nat.le_of_ble_eq_true rfl⟩ ⟨Nat.le_of_ble_eq_true rfl, Nat.le_of_ble_eq_true rfl⟩ (mw0x (a := a) (r := r) (f := f) (q := q) (T := tb a) (w := w) rfl) rfl rfl rfl hl.1 rfl (Nat.le_of_ble_eq_true rfl) dX10_widen_13 (fun o w' H locs hp hB => ?_)
    obtain ⟨rfl, hf9, hw9⟩ := hp
    replace hB : Bd κ A s (mw κ a r f (va_up q 3 t7) (tb a) w) H locs := by exact Bd_eq (mwQ3x rfl _) (by rw [hw9] at hB; exact hB)
    obtain rfl : x6 = 1 := hf9.trans (by decide)
    refine W.eq (g2 := F0 m 16 ls [.int 1]) rfl ?_
    refine lv_if_eq (tgt := 21) hx hb dX10_widen_16 (by decide) (fun c10 => False.elim (by revert c10; decide)) (fun _ => ?_)
    refine lv_iconst (v := 0) hx hb dX10_widen_19 (by decide) ?_
    rw [← hQ]
    exact end_i hX hB hA3 rfl rfl (by obtain ⟨rfl, rfl, rfl, rfl⟩ := pr4 hR; exact ⟨a, rfl, rfl, hm, rfl, rfl⟩) (Nat.le_of_ble_eq_true rfl) (Nat.le_of_ble_eq_true rfl) dX10_widen_20
  · replace hR := ifn (by decide) hR
    refine W.eq (g2 := F0 m 5 ls [.int 1, .ref (a 0)]) rfl ?_
    refine lv_if_ne (tgt := 12) hx hb dX10_widen_5 (by decide) (fun _ => ?_) (fun c11 => False.elim (by revert c11; decide))
    refine lv_iconst (v := 0) hx hb dX10_widen_12 (by decide) ?_
    obtain ⟨x12, t13, hd14⟩ := ex2 (D_X10_isThrown__ (q 0) (q 1) (q 2) (q 3) 0)
    replace hR := bnd2_use hd14 hR
    refine call_V (n := 1) (k0 := 0) (As := [.int 0]) (rest := []) hX hB (k_X10_isThrown__ κ l (mw κ a r f q (tb a) w) 0 (a 0) (a 1) (q 0) (q 1) (q 2) (q 3) 0 (mw0x (a := a) (r := r) (f := f) (q := q) (T := tb a) (w := w) rfl) x12 t13 hd14) ⟨rfl, yk_X10_isThrown__⟩ wm_6_15 wm_6_17 wp_33 wm_1_6 wm_6_18 ⟨Nat.le_of_ble_eq_true rfl, Nat.le_of_ble_eq_true rfl⟩ ⟨Nat.le_of_ble_eq_true rfl, Nat.le_of_ble_eq_true rfl⟩ (mw0x (a := a) (r := r) (f := f) (q := q) (T := tb a) (w := w) rfl) rfl rfl rfl hl.1 rfl (Nat.le_of_ble_eq_true rfl) dX10_widen_13 (fun o w' H locs hp hB => ?_)
    obtain ⟨rfl, hf15, hw9⟩ := hp
    replace hB : Bd κ A s (mw κ a r f (va_up q 3 t13) (tb a) w) H locs := by exact Bd_eq (mwQ3x rfl _) (by rw [hw9] at hB; exact hB)
    obtain rfl : x12 = 0 := hf15.trans (by decide)
    refine W.eq (g2 := F0 m 16 ls [.int 0]) rfl ?_
    refine lv_if_eq (tgt := 21) hx hb dX10_widen_16 (by decide) (fun _ => ?_) (fun c16 => False.elim (by revert c16; decide))
    refine lv_aload_n hx hb dX10_widen_21 rfl (lv_at hl 0 rfl) ?_
    refine gf (k0 := 0) hX hB (mw0x (a := a) (r := r) (f := f) (q := (va_up q 3 t13)) (T := tb a) (w := w) rfl) rfl in10 0 (by decide) wm_5_162 rfl rfl dX10_widen_22 ?_
    refine lv_iload_n hx hb dX10_widen_25 rfl (lv_at hl 1 rfl) ?_
    refine aaldM (k0 := 1) hX hB (mw1 (a := a) (r := r) (f := f) (q := (va_up q 3 t13)) (T := tb a) (w := w)) (vp_in_mk (by assumption) (by assumption)) rfl dX10_widen_26 ?_
    have hb17 := mok_r hm y.toNatClampNeg (by omega)
    refine lv_astore_n (lv' := [(3, .ref (a (2 + 2 * y.toNatClampNeg))), (0, .ref (a 0)), (1, .int y), (2, .int c0)]) hx hb dX10_widen_27 rfl hl (by decide) rfl (fun ls hl => ?_)
    refine lv_iload_n hx hb dX10_widen_28 rfl (lv_at hl 3 rfl) ?_
    refine lv_if_eq (tgt := 39) hx hb dX10_widen_29 (by decide) (fun c18 => ?_) (fun c18 => ?_)
    · replace hR := ifp c18 hR
      refine lv_aload_n hx hb dX10_widen_39 rfl (lv_at hl 0 rfl) ?_
      refine gf (k0 := 2 + 2 * y.toNatClampNeg) hX hB (mwG (i := y.toNatClampNeg) (a := a) (r := r) (f := f) (q := (va_up q 3 t13)) (T := tb a) (w := w) (by omega)) rfl in7 0 (by decide) wm_5_148 rfl rfl dX10_widen_40 ?_
      refine lv_iconst (v := 1) hx hb dX10_widen_43 (by decide) ?_
      refine lv_iadd hx hb dX10_widen_44 ?_
      refine eqi (y := nI ((r (2 * y.toNatClampNeg)) + 1)) (nI_add (r (2 * y.toNatClampNeg)) 1) ?_
      refine lv_istore (lv' := [(4, .int (nI ((r (2 * y.toNatClampNeg)) + 1))), (3, .ref (a (2 + 2 * y.toNatClampNeg))), (0, .ref (a 0)), (1, .int y), (2, .int c0)]) hx hb dX10_widen_45 hl (by decide) rfl (fun ls hl => ?_)
      refine lv_iload hx hb dX10_widen_47 (lv_at hl 0 rfl) ?_
      refine lv_iconst (v := 4) hx hb dX10_widen_49 (by decide) ?_
      refine lv_icmp_le (tgt := 58) hx hb dX10_widen_50 (by decide) (fun c19 => ?_) (fun c19 => ?_)
      · replace c19 : nI ((r (2 * y.toNatClampNeg)) + 1) ≤ nI 4 := c19
        rw [nleP (by omega) (by omega)] at c19
        replace hR := ifp c19 hR
        refine lv_aload_n hx hb dX10_widen_58 rfl (lv_at hl 2 rfl) ?_
        refine gf (k0 := 0) hX hB (mw0x (a := a) (r := r) (f := f) (q := (va_up q 3 t13)) (T := tb a) (w := w) rfl) rfl in10 0 (by decide) wm_5_162 rfl rfl dX10_widen_59 ?_
        refine lv_iload_n hx hb dX10_widen_62 rfl (lv_at hl 3 rfl) ?_
        refine lv_aload_n hx hb dX10_widen_63 rfl (lv_at hl 1 rfl) ?_
        refine lv_iload_n hx hb dX10_widen_64 rfl (lv_at hl 4 rfl) ?_
        refine lv_if_eq (tgt := 75) hx hb dX10_widen_65 (by decide) (fun _ => ?_) (fun c20 => False.elim (c20 c18))
        refine lv_iload hx hb dX10_widen_75 (lv_at hl 0 rfl) ?_
        refine lv_iload_n hx hb dX10_widen_77 rfl (lv_at hl 4 rfl) ?_
        refine lv_if_eq (tgt := 86) hx hb dX10_widen_78 (by decide) (fun _ => ?_) (fun c21 => False.elim (c21 c18))
        refine lv_aload_n hx hb dX10_widen_86 rfl (lv_at hl 1 rfl) ?_
        refine gf (k0 := 2 + 2 * y.toNatClampNeg) hX hB (mwG (i := y.toNatClampNeg) (a := a) (r := r) (f := f) (q := (va_up q 3 t13)) (T := tb a) (w := w) (by omega)) rfl in7 1 (by decide) wm_5_152 rfl rfl dX10_widen_87 ?_
        refine lv_bipush (v := 9) hx hb dX10_widen_90 (by decide) ?_
        refine lv_bipush (v := 9) hx hb dX10_widen_92 (by decide) ?_
        obtain ⟨F24, hd25⟩ := ex1 (D_X10_shaped (r (2 * y.toNatClampNeg)) (r (2 * y.toNatClampNeg + 1)) (f y.toNatClampNeg) ((r (2 * y.toNatClampNeg)) + 1) (r (2 * y.toNatClampNeg + 1)) 9 9)
        replace hR := bnd1_use hd25 hR
        refine call_S (n := 5) (As := [.ref (a (2 + 2 * y.toNatClampNeg)), .int (nI ((r (2 * y.toNatClampNeg)) + 1)), .int (nI (r (2 * y.toNatClampNeg + 1))), .int 9, .int 9]) (rest := [.int y, .ref (a 1)]) hX hB (k_X10_shaped κ l (mw κ a r f (va_up q 3 t13) (tb a) w) (2 + 2 * y.toNatClampNeg) (3 + 2 * y.toNatClampNeg) (a (2 + 2 * y.toNatClampNeg)) (a (3 + 2 * y.toNatClampNeg)) (r (2 * y.toNatClampNeg)) (r (2 * y.toNatClampNeg + 1)) (f y.toNatClampNeg) (nI ((r (2 * y.toNatClampNeg)) + 1)) ((r (2 * y.toNatClampNeg)) + 1) (nI (r (2 * y.toNatClampNeg + 1))) (r (2 * y.toNatClampNeg + 1)) 9 9 (mwG (i := y.toNatClampNeg) (a := a) (r := r) (f := f) (q := (va_up q 3 t13)) (T := tb a) (w := w) (by omega)) (mwA (i := y.toNatClampNeg) (a := a) (r := r) (f := f) (q := (va_up q 3 t13)) (T := tb a) (w := w) (by omega)) (mok_shp (i := y.toNatClampNeg) hm (by omega)) rfl rfl (by omega) ((hm _ (by omega)).2) F24 hd25) yk_X10_shaped wm_6_97 wm_6_98 wm_1_6 wm_6_99 ⟨Nat.le_of_ble_eq_true rfl, Nat.le_of_ble_eq_true rfl⟩ ⟨Nat.le_of_ble_eq_true rfl, Nat.le_of_ble_eq_true rfl⟩ rfl hl.1 rfl (Nat.le_of_ble_eq_true rfl) dX10_widen_94 (fun o w' H locs hp hB => ?_)
        obtain ⟨q22, q23, rfl, hf26, hw9⟩ := hp
        replace hB : Bd κ A s (lA κ q23 (((r (2 * y.toNatClampNeg)) + 1) * 5) F24 :: gO q22 ((r (2 * y.toNatClampNeg)) + 1) (r (2 * y.toNatClampNeg + 1)) q23 :: mw κ a r f (va_up q 3 t13) (tb a) w) H locs := by rw [hw9] at hB; exact hB
        refine W.eq (g2 := F0 m 97 ls [.ref q22, .int y, .ref (a 1)]) rfl ?_
        refine astM (f := tb a) (k0 := 3) (k1 := 1) hX hB (mw1 (a := a) (r := r) (f := f) (q := (va_up q 3 t13)) (T := tb a) (w := w)) rfl (vp_in_mk (by assumption) (by assumption)) (w1 := lA κ q23 (((r (2 * y.toNatClampNeg)) + 1) * 5) F24 :: gO q22 ((r (2 * y.toNatClampNeg)) + 1) (r (2 * y.toNatClampNeg + 1)) q23 :: mw κ a r f (va_up q 3 t13) (va_up (tb a) y.toNatClampNeg (some q22)) w) (congrArg (List.cons _) (congrArg (List.cons _) (mwST _))) dX10_widen_97 (fun H locs hB => ?_)
        obtain ⟨a27, ha28, hg29, hB⟩ := Bd_repl2 (t := y.toNatClampNeg) (by omega) hB
        have hba27 := mok_r hm y.toNatClampNeg (by omega)
        refine lv_aload_n hx hb dX10_widen_98 rfl (lv_at hl 2 rfl) ?_
        refine lv_iload hx hb dX10_widen_99 (lv_at hl 0 rfl) ?_
        refine call_V (n := 1) (k0 := 0) (As := [.int (nI ((r (2 * y.toNatClampNeg)) + 1))]) (rest := []) hX hB (k_X10_told κ l (mw κ a27 (va_up (va_up r (2 * y.toNatClampNeg) ((r (2 * y.toNatClampNeg)) + 1)) (2 * y.toNatClampNeg + 1) (r (2 * y.toNatClampNeg + 1))) (va_up f y.toNatClampNeg F24) (va_up q 3 t13) (tb a27) w) 0 (a 0) (a27 1) ((va_up q 3 t13) 0) ((va_up q 3 t13) 1) ((va_up q 3 t13) 2) ((va_up q 3 t13) 3) (nI ((r (2 * y.toNatClampNeg)) + 1)) (mw0x (a := a27) (r := (va_up (va_up r (2 * y.toNatClampNeg) ((r (2 * y.toNatClampNeg)) + 1)) (2 * y.toNatClampNeg + 1) (r (2 * y.toNatClampNeg + 1)))) (f := (va_up f y.toNatClampNeg F24)) (q := (va_up q 3 t13)) (T := tb a27) (w := w) (ha28.trans rfl))) ⟨rfl, yk_X10_told⟩ wm_5_208 wm_5_210 wp_30 wm_1_6 wm_5_211 ⟨Nat.le_of_ble_eq_true rfl, Nat.le_of_ble_eq_true rfl⟩ ⟨Nat.le_of_ble_eq_true rfl, Nat.le_of_ble_eq_true rfl⟩ (mw0x (a := a27) (r := (va_up (va_up r (2 * y.toNatClampNeg) ((r (2 * y.toNatClampNeg)) + 1)) (2 * y.toNatClampNeg + 1) (r (2 * y.toNatClampNeg + 1)))) (f := (va_up f y.toNatClampNeg F24)) (q := (va_up q 3 t13)) (T := tb a27) (w := w) (ha28.trans rfl)) rfl rfl rfl hl.1 rfl (Nat.le_of_ble_eq_true rfl) dX10_widen_101 (fun o w' H locs hp hB => ?_)
        obtain ⟨rfl, hw9⟩ := hp
        replace hB : Bd κ A s (mw κ a27 (va_up (va_up r (2 * y.toNatClampNeg) ((r (2 * y.toNatClampNeg)) + 1)) (2 * y.toNatClampNeg + 1) (r (2 * y.toNatClampNeg + 1))) (va_up f y.toNatClampNeg F24) (va_up (va_up q 3 t13) 0 (((va_up q 3 t13) 0) + 1)) (tb a27) w) H locs := by exact Bd_eq (mwQ0x (ha28.trans rfl) _) (by rw [hw9] at hB; exact hB)
        refine W.eq (g2 := F0 m 104 ls [.int (nI ((r (2 * y.toNatClampNeg)) + 1))]) rfl ?_
        rw [← hQ]
        exact end_i hX hB hA3 rfl rfl (by obtain ⟨rfl, rfl, rfl, rfl⟩ := pr4 hR; exact ⟨a27, rfl, (ha28.trans rfl), (mok_repl (t := y.toNatClampNeg) (R := ((r (2 * y.toNatClampNeg)) + 1)) (C := (r (2 * y.toNatClampNeg + 1))) (F := F24) hm ⟨by omega, by omega, by omega, by omega⟩ hf26), rfl, rfl⟩) (Nat.le_of_ble_eq_true rfl) (Nat.le_of_ble_eq_true rfl) dX10_widen_104
      · replace c19 : ¬ nI ((r (2 * y.toNatClampNeg)) + 1) ≤ nI 4 := c19
        rw [nleP (by omega) (by omega)] at c19
        replace hR := ifn c19 hR
        refine lv_aload_n hx hb dX10_widen_53 rfl (lv_at hl 2 rfl) ?_
        refine call_V (n := 0) (k0 := 0) (As := []) (rest := []) hX hB (k_X10_no κ l (mw κ a r f (va_up q 3 t13) (tb a) w) 0 (a 0) (a 1) ((va_up q 3 t13) 0) ((va_up q 3 t13) 1) ((va_up q 3 t13) 2) ((va_up q 3 t13) 3) (mw0x (a := a) (r := r) (f := f) (q := (va_up q 3 t13)) (T := tb a) (w := w) rfl)) ⟨rfl, yk_X10_no⟩ wm_6_89 wm_6_91 wp_36 wm_1_6 wm_6_92 ⟨Nat.le_of_ble_eq_true rfl, Nat.le_of_ble_eq_true rfl⟩ ⟨Nat.le_of_ble_eq_true rfl, Nat.le_of_ble_eq_true rfl⟩ (mw0x (a := a) (r := r) (f := f) (q := (va_up q 3 t13)) (T := tb a) (w := w) rfl) rfl rfl rfl hl.1 rfl (Nat.le_of_ble_eq_true rfl) dX10_widen_54 (fun o w' H locs hp hB => ?_)
        obtain ⟨rfl, hw9⟩ := hp
        replace hB : Bd κ A s (mw κ a r f (va_up (va_up q 3 t13) 1 (((va_up q 3 t13) 1) + 1)) (tb a) w) H locs := by exact Bd_eq (mwQ1x rfl _) (by rw [hw9] at hB; exact hB)
        refine W.eq (g2 := F0 m 57 ls [.int (-9)]) rfl ?_
        rw [← hQ]
        exact end_i hX hB hA3 rfl rfl (by obtain ⟨rfl, rfl, rfl, rfl⟩ := pr4 hR; exact ⟨a, rfl, rfl, hm, rfl, rfl⟩) (Nat.le_of_ble_eq_true rfl) (Nat.le_of_ble_eq_true rfl) dX10_widen_57
    · replace hR := ifn c18 hR
      refine lv_aload_n hx hb dX10_widen_32 rfl (lv_at hl 0 rfl) ?_
      refine gf (k0 := 2 + 2 * y.toNatClampNeg) hX hB (mwG (i := y.toNatClampNeg) (a := a) (r := r) (f := f) (q := (va_up q 3 t13)) (T := tb a) (w := w) (by omega)) rfl in7 1 (by decide) wm_5_152 rfl rfl dX10_widen_33 ?_
      refine lv_goto (tgt := 43) hx hb dX10_widen_36 (by decide) ?_
      refine lv_iconst (v := 1) hx hb dX10_widen_43 (by decide) ?_
      refine lv_iadd hx hb dX10_widen_44 ?_
      refine eqi (y := nI ((r (2 * y.toNatClampNeg + 1)) + 1)) (nI_add (r (2 * y.toNatClampNeg + 1)) 1) ?_
      refine lv_istore (lv' := [(4, .int (nI ((r (2 * y.toNatClampNeg + 1)) + 1))), (3, .ref (a (2 + 2 * y.toNatClampNeg))), (0, .ref (a 0)), (1, .int y), (2, .int c0)]) hx hb dX10_widen_45 hl (by decide) rfl (fun ls hl => ?_)
      refine lv_iload hx hb dX10_widen_47 (lv_at hl 0 rfl) ?_
      refine lv_iconst (v := 4) hx hb dX10_widen_49 (by decide) ?_
      refine lv_icmp_le (tgt := 58) hx hb dX10_widen_50 (by decide) (fun c30 => ?_) (fun c30 => ?_)
      · replace c30 : nI ((r (2 * y.toNatClampNeg + 1)) + 1) ≤ nI 4 := c30
        rw [nleP (by omega) (by omega)] at c30
        replace hR := ifp c30 hR
        refine lv_aload_n hx hb dX10_widen_58 rfl (lv_at hl 2 rfl) ?_
        refine gf (k0 := 0) hX hB (mw0x (a := a) (r := r) (f := f) (q := (va_up q 3 t13)) (T := tb a) (w := w) rfl) rfl in10 0 (by decide) wm_5_162 rfl rfl dX10_widen_59 ?_
        refine lv_iload_n hx hb dX10_widen_62 rfl (lv_at hl 3 rfl) ?_
        refine lv_aload_n hx hb dX10_widen_63 rfl (lv_at hl 1 rfl) ?_
        refine lv_iload_n hx hb dX10_widen_64 rfl (lv_at hl 4 rfl) ?_
        refine lv_if_eq (tgt := 75) hx hb dX10_widen_65 (by decide) (fun c31 => False.elim (c18 c31)) (fun _ => ?_)
        refine lv_aload_n hx hb dX10_widen_68 rfl (lv_at hl 1 rfl) ?_
        refine gf (k0 := 2 + 2 * y.toNatClampNeg) hX hB (mwG (i := y.toNatClampNeg) (a := a) (r := r) (f := f) (q := (va_up q 3 t13)) (T := tb a) (w := w) (by omega)) rfl in7 0 (by decide) wm_5_148 rfl rfl dX10_widen_69 ?_
        refine lv_goto (tgt := 77) hx hb dX10_widen_72 (by decide) ?_
        refine lv_iload_n hx hb dX10_widen_77 rfl (lv_at hl 4 rfl) ?_
        refine lv_if_eq (tgt := 86) hx hb dX10_widen_78 (by decide) (fun c32 => False.elim (c18 c32)) (fun _ => ?_)
        refine lv_iload hx hb dX10_widen_81 (lv_at hl 0 rfl) ?_
        refine lv_goto (tgt := 90) hx hb dX10_widen_83 (by decide) ?_
        refine lv_bipush (v := 9) hx hb dX10_widen_90 (by decide) ?_
        refine lv_bipush (v := 9) hx hb dX10_widen_92 (by decide) ?_
        obtain ⟨F35, hd36⟩ := ex1 (D_X10_shaped (r (2 * y.toNatClampNeg)) (r (2 * y.toNatClampNeg + 1)) (f y.toNatClampNeg) (r (2 * y.toNatClampNeg)) ((r (2 * y.toNatClampNeg + 1)) + 1) 9 9)
        replace hR := bnd1_use hd36 hR
        refine call_S (n := 5) (As := [.ref (a (2 + 2 * y.toNatClampNeg)), .int (nI (r (2 * y.toNatClampNeg))), .int (nI ((r (2 * y.toNatClampNeg + 1)) + 1)), .int 9, .int 9]) (rest := [.int y, .ref (a 1)]) hX hB (k_X10_shaped κ l (mw κ a r f (va_up q 3 t13) (tb a) w) (2 + 2 * y.toNatClampNeg) (3 + 2 * y.toNatClampNeg) (a (2 + 2 * y.toNatClampNeg)) (a (3 + 2 * y.toNatClampNeg)) (r (2 * y.toNatClampNeg)) (r (2 * y.toNatClampNeg + 1)) (f y.toNatClampNeg) (nI (r (2 * y.toNatClampNeg))) (r (2 * y.toNatClampNeg)) (nI ((r (2 * y.toNatClampNeg + 1)) + 1)) ((r (2 * y.toNatClampNeg + 1)) + 1) 9 9 (mwG (i := y.toNatClampNeg) (a := a) (r := r) (f := f) (q := (va_up q 3 t13)) (T := tb a) (w := w) (by omega)) (mwA (i := y.toNatClampNeg) (a := a) (r := r) (f := f) (q := (va_up q 3 t13)) (T := tb a) (w := w) (by omega)) (mok_shp (i := y.toNatClampNeg) hm (by omega)) rfl rfl (by omega) ((hm _ (by omega)).2) F35 hd36) yk_X10_shaped wm_6_97 wm_6_98 wm_1_6 wm_6_99 ⟨Nat.le_of_ble_eq_true rfl, Nat.le_of_ble_eq_true rfl⟩ ⟨Nat.le_of_ble_eq_true rfl, Nat.le_of_ble_eq_true rfl⟩ rfl hl.1 rfl (Nat.le_of_ble_eq_true rfl) dX10_widen_94 (fun o w' H locs hp hB => ?_)
        obtain ⟨q33, q34, rfl, hf37, hw9⟩ := hp
        replace hB : Bd κ A s (lA κ q34 ((r (2 * y.toNatClampNeg)) * 5) F35 :: gO q33 (r (2 * y.toNatClampNeg)) ((r (2 * y.toNatClampNeg + 1)) + 1) q34 :: mw κ a r f (va_up q 3 t13) (tb a) w) H locs := by rw [hw9] at hB; exact hB
        refine W.eq (g2 := F0 m 97 ls [.ref q33, .int y, .ref (a 1)]) rfl ?_
        refine astM (f := tb a) (k0 := 3) (k1 := 1) hX hB (mw1 (a := a) (r := r) (f := f) (q := (va_up q 3 t13)) (T := tb a) (w := w)) rfl (vp_in_mk (by assumption) (by assumption)) (w1 := lA κ q34 ((r (2 * y.toNatClampNeg)) * 5) F35 :: gO q33 (r (2 * y.toNatClampNeg)) ((r (2 * y.toNatClampNeg + 1)) + 1) q34 :: mw κ a r f (va_up q 3 t13) (va_up (tb a) y.toNatClampNeg (some q33)) w) (congrArg (List.cons _) (congrArg (List.cons _) (mwST _))) dX10_widen_97 (fun H locs hB => ?_)
        obtain ⟨a38, ha39, hg40, hB⟩ := Bd_repl2 (t := y.toNatClampNeg) (by omega) hB
        have hba38 := mok_r hm y.toNatClampNeg (by omega)
        refine lv_aload_n hx hb dX10_widen_98 rfl (lv_at hl 2 rfl) ?_
        refine lv_iload hx hb dX10_widen_99 (lv_at hl 0 rfl) ?_
        refine call_V (n := 1) (k0 := 0) (As := [.int (nI ((r (2 * y.toNatClampNeg + 1)) + 1))]) (rest := []) hX hB (k_X10_told κ l (mw κ a38 (va_up (va_up r (2 * y.toNatClampNeg) (r (2 * y.toNatClampNeg))) (2 * y.toNatClampNeg + 1) ((r (2 * y.toNatClampNeg + 1)) + 1)) (va_up f y.toNatClampNeg F35) (va_up q 3 t13) (tb a38) w) 0 (a 0) (a38 1) ((va_up q 3 t13) 0) ((va_up q 3 t13) 1) ((va_up q 3 t13) 2) ((va_up q 3 t13) 3) (nI ((r (2 * y.toNatClampNeg + 1)) + 1)) (mw0x (a := a38) (r := (va_up (va_up r (2 * y.toNatClampNeg) (r (2 * y.toNatClampNeg))) (2 * y.toNatClampNeg + 1) ((r (2 * y.toNatClampNeg + 1)) + 1))) (f := (va_up f y.toNatClampNeg F35)) (q := (va_up q 3 t13)) (T := tb a38) (w := w) (ha39.trans rfl))) ⟨rfl, yk_X10_told⟩ wm_5_208 wm_5_210 wp_30 wm_1_6 wm_5_211 ⟨Nat.le_of_ble_eq_true rfl, Nat.le_of_ble_eq_true rfl⟩ ⟨Nat.le_of_ble_eq_true rfl, Nat.le_of_ble_eq_true rfl⟩ (mw0x (a := a38) (r := (va_up (va_up r (2 * y.toNatClampNeg) (r (2 * y.toNatClampNeg))) (2 * y.toNatClampNeg + 1) ((r (2 * y.toNatClampNeg + 1)) + 1))) (f := (va_up f y.toNatClampNeg F35)) (q := (va_up q 3 t13)) (T := tb a38) (w := w) (ha39.trans rfl)) rfl rfl rfl hl.1 rfl (Nat.le_of_ble_eq_true rfl) dX10_widen_101 (fun o w' H locs hp hB => ?_)
        obtain ⟨rfl, hw9⟩ := hp
        replace hB : Bd κ A s (mw κ a38 (va_up (va_up r (2 * y.toNatClampNeg) (r (2 * y.toNatClampNeg))) (2 * y.toNatClampNeg + 1) ((r (2 * y.toNatClampNeg + 1)) + 1)) (va_up f y.toNatClampNeg F35) (va_up (va_up q 3 t13) 0 (((va_up q 3 t13) 0) + 1)) (tb a38) w) H locs := by exact Bd_eq (mwQ0x (ha39.trans rfl) _) (by rw [hw9] at hB; exact hB)
        refine W.eq (g2 := F0 m 104 ls [.int (nI ((r (2 * y.toNatClampNeg + 1)) + 1))]) rfl ?_
        rw [← hQ]
        exact end_i hX hB hA3 rfl rfl (by obtain ⟨rfl, rfl, rfl, rfl⟩ := pr4 hR; exact ⟨a38, rfl, (ha39.trans rfl), (mok_repl (t := y.toNatClampNeg) (R := (r (2 * y.toNatClampNeg))) (C := ((r (2 * y.toNatClampNeg + 1)) + 1)) (F := F35) hm ⟨by omega, by omega, by omega, by omega⟩ hf37), rfl, rfl⟩) (Nat.le_of_ble_eq_true rfl) (Nat.le_of_ble_eq_true rfl) dX10_widen_104
      · replace c30 : ¬ nI ((r (2 * y.toNatClampNeg + 1)) + 1) ≤ nI 4 := c30
        rw [nleP (by omega) (by omega)] at c30
        replace hR := ifn c30 hR
        refine lv_aload_n hx hb dX10_widen_53 rfl (lv_at hl 2 rfl) ?_
        refine call_V (n := 0) (k0 := 0) (As := []) (rest := []) hX hB (k_X10_no κ l (mw κ a r f (va_up q 3 t13) (tb a) w) 0 (a 0) (a 1) ((va_up q 3 t13) 0) ((va_up q 3 t13) 1) ((va_up q 3 t13) 2) ((va_up q 3 t13) 3) (mw0x (a := a) (r := r) (f := f) (q := (va_up q 3 t13)) (T := tb a) (w := w) rfl)) ⟨rfl, yk_X10_no⟩ wm_6_89 wm_6_91 wp_36 wm_1_6 wm_6_92 ⟨Nat.le_of_ble_eq_true rfl, Nat.le_of_ble_eq_true rfl⟩ ⟨Nat.le_of_ble_eq_true rfl, Nat.le_of_ble_eq_true rfl⟩ (mw0x (a := a) (r := r) (f := f) (q := (va_up q 3 t13)) (T := tb a) (w := w) rfl) rfl rfl rfl hl.1 rfl (Nat.le_of_ble_eq_true rfl) dX10_widen_54 (fun o w' H locs hp hB => ?_)
        obtain ⟨rfl, hw9⟩ := hp
        replace hB : Bd κ A s (mw κ a r f (va_up (va_up q 3 t13) 1 (((va_up q 3 t13) 1) + 1)) (tb a) w) H locs := by exact Bd_eq (mwQ1x rfl _) (by rw [hw9] at hB; exact hB)
        refine W.eq (g2 := F0 m 57 ls [.int (-9)]) rfl ?_
        rw [← hQ]
        exact end_i hX hB hA3 rfl rfl (by obtain ⟨rfl, rfl, rfl, rfl⟩ := pr4 hR; exact ⟨a, rfl, rfl, hm, rfl, rfl⟩) (Nat.le_of_ble_eq_true rfl) (Nat.le_of_ble_eq_true rfl) dX10_widen_57
noncomputable def D_X10_drop (r : Nat → Nat) (f : Nat → Nat → Int64) (q : Nat → Int32) (y : Int32) (c0 : Int32) (z : Int32) : Int32 × (Nat → Nat) × (Nat → Nat → Int64) × (Nat → Int32) := bnd1 (D_X10_isLine r f q y c0 z) (fun (x1 : Int32) => (if x1 = 0 then bnd2 (D_X10_isThrown__ (q 0) (q 1) (q 2) (q 3) 1) (fun (x6 : Int32) (t7 : Int32) => (0, r, f, va_up q 3 t7)) else bnd2 (D_X10_isThrown__ (q 0) (q 1) (q 2) (q 3) 0) (fun (x12 : Int32) (t13 : Int32) => (if c0 = 0 then (if ((r (2 * y.toNatClampNeg)) - 1) = 0 then (-9, r, f, va_up (va_up q 3 t13) 1 (((va_up q 3 t13) 1) + 1)) else bnd1 (D_X10_shaped (r (2 * y.toNatClampNeg)) (r (2 * y.toNatClampNeg + 1)) (f y.toNatClampNeg) ((r (2 * y.toNatClampNeg)) - 1) (r (2 * y.toNatClampNeg + 1)) z 9) (fun (F26 : Nat → Int64) => (nI ((r (2 * y.toNatClampNeg)) - 1), va_up (va_up r (2 * y.toNatClampNeg) ((r (2 * y.toNatClampNeg)) - 1)) (2 * y.toNatClampNeg + 1) (r (2 * y.toNatClampNeg + 1)), va_up f y.toNatClampNeg F26, va_up (va_up q 3 t13) 0 (((va_up q 3 t13) 0) + 1)))) else (if ((r (2 * y.toNatClampNeg + 1)) - 1) = 0 then (-9, r, f, va_up (va_up q 3 t13) 1 (((va_up q 3 t13) 1) + 1)) else bnd1 (D_X10_shaped (r (2 * y.toNatClampNeg)) (r (2 * y.toNatClampNeg + 1)) (f y.toNatClampNeg) (r (2 * y.toNatClampNeg)) ((r (2 * y.toNatClampNeg + 1)) - 1) 9 z) (fun (F39 : Nat → Int64) => (nI ((r (2 * y.toNatClampNeg + 1)) - 1), va_up (va_up r (2 * y.toNatClampNeg) (r (2 * y.toNatClampNeg))) (2 * y.toNatClampNeg + 1) ((r (2 * y.toNatClampNeg + 1)) - 1), va_up f y.toNatClampNeg F39, va_up (va_up q 3 t13) 0 (((va_up q 3 t13) 0) + 1))))))))
theorem D_X10_drop_s {r : Nat → Nat} {f : Nat → Nat → Int64} {q : Nat → Int32} {y : Int32} {c0 : Int32} {z : Int32} : D_X10_drop r f q y c0 z = bnd1 (D_X10_isLine r f q y c0 z) (fun (x1 : Int32) => (if x1 = 0 then bnd2 (D_X10_isThrown__ (q 0) (q 1) (q 2) (q 3) 1) (fun (x6 : Int32) (t7 : Int32) => (0, r, f, va_up q 3 t7)) else bnd2 (D_X10_isThrown__ (q 0) (q 1) (q 2) (q 3) 0) (fun (x12 : Int32) (t13 : Int32) => (if c0 = 0 then (if ((r (2 * y.toNatClampNeg)) - 1) = 0 then (-9, r, f, va_up (va_up q 3 t13) 1 (((va_up q 3 t13) 1) + 1)) else bnd1 (D_X10_shaped (r (2 * y.toNatClampNeg)) (r (2 * y.toNatClampNeg + 1)) (f y.toNatClampNeg) ((r (2 * y.toNatClampNeg)) - 1) (r (2 * y.toNatClampNeg + 1)) z 9) (fun (F26 : Nat → Int64) => (nI ((r (2 * y.toNatClampNeg)) - 1), va_up (va_up r (2 * y.toNatClampNeg) ((r (2 * y.toNatClampNeg)) - 1)) (2 * y.toNatClampNeg + 1) (r (2 * y.toNatClampNeg + 1)), va_up f y.toNatClampNeg F26, va_up (va_up q 3 t13) 0 (((va_up q 3 t13) 0) + 1)))) else (if ((r (2 * y.toNatClampNeg + 1)) - 1) = 0 then (-9, r, f, va_up (va_up q 3 t13) 1 (((va_up q 3 t13) 1) + 1)) else bnd1 (D_X10_shaped (r (2 * y.toNatClampNeg)) (r (2 * y.toNatClampNeg + 1)) (f y.toNatClampNeg) (r (2 * y.toNatClampNeg)) ((r (2 * y.toNatClampNeg + 1)) - 1) 9 z) (fun (F39 : Nat → Int64) => (nI ((r (2 * y.toNatClampNeg + 1)) - 1), va_up (va_up r (2 * y.toNatClampNeg) (r (2 * y.toNatClampNeg))) (2 * y.toNatClampNeg + 1) ((r (2 * y.toNatClampNeg + 1)) - 1), va_up f y.toNatClampNeg F39, va_up (va_up q 3 t13) 0 (((va_up q 3 t13) 0) + 1)))))))) := rfl
set_option maxHeartbeats 4000000 in
set_option maxRecDepth 100000 in
theorem k_X10_drop (κ : Kt) (l : Launch) (w : va_W) (a r : Nat → Nat) (f : Nat → Nat → Int64) (q : Nat → Int32) (y : Int32) (c0 : Int32) (z : Int32) (hm : mok r f) (o_x : Int32) (o_r' : Nat → Nat) (o_f' : Nat → Nat → Int64) (o_q' : Nat → Int32) (hR : D_X10_drop r f q y c0 z = (o_x, o_r', o_f', o_q')) : CM κ l yX10_drop cX10_drop 6 (some .int) 3 71 2 23 [.ref (a 0), .int y, .int c0, .int z] (mw κ a r f q (tb a) w) (fun o w' => ∃ (a' : Nat → Nat), o = some (.int o_x) ∧ (a' 0 = a 0) ∧ (mok o_r' o_f') ∧ (o_q' 2 = q 2) ∧ w' = mw κ a' o_r' o_f' o_q' (tb a') w) := by
  refine CM_begin (plainFor_of_name pn_RX10) (Nat.le_of_ble_eq_true rfl) ?_
  intro p e s m args below meth c A Q hX hnm hA3 hQ hB ls hl
  have hx := hX.1.1
  have hb := hX.1.2.1
  have hl : lv_has ls 6 [(0, .ref (a 0)), (1, .int y), (2, .int c0), (3, .int z)] := hl
  replace hR := (D_X10_drop_s).symm.trans hR
  refine lv_aload_n hx hb dX10_drop_0 rfl (lv_at hl 0 rfl) ?_
  refine lv_aload_n hx hb dX10_drop_1 rfl (lv_at hl 0 rfl) ?_
  refine lv_iload_n hx hb dX10_drop_2 rfl (lv_at hl 1 rfl) ?_
  refine lv_iload_n hx hb dX10_drop_3 rfl (lv_at hl 2 rfl) ?_
  refine lv_iload_n hx hb dX10_drop_4 rfl (lv_at hl 3 rfl) ?_
  obtain ⟨x1, hd2⟩ := ex1 (D_X10_isLine r f q y c0 z)
  replace hR := bnd1_use hd2 hR
  refine call_V (n := 3) (k0 := 0) (As := [.int y, .int c0, .int z]) (rest := [.ref (a 0)]) hX hB (k_X10_isLine κ l w a r f q y c0 z hm x1 hd2) ⟨rfl, yk_X10_isLine⟩ wm_6_42 wm_6_44 wp_34 wm_1_6 wm_6_45 ⟨Nat.le_of_ble_eq_true rfl, Nat.le_of_ble_eq_true rfl⟩ ⟨Nat.le_of_ble_eq_true rfl, Nat.le_of_ble_eq_true rfl⟩ (mw0x (a := a) (r := r) (f := f) (q := q) (T := tb a) (w := w) rfl) rfl rfl rfl hl.1 rfl (Nat.le_of_ble_eq_true rfl) dX10_drop_5 (fun o w' H locs hp hB => ?_)
  obtain ⟨rfl, hf3, hw9⟩ := hp
  replace hB : Bd κ A s (mw κ a r f q (tb a) w) H locs := by rw [hw9] at hB; exact hB
  rcases hf3 with rfl | ⟨rfl, hz4a, hz4b, hz4c, hz4d, hz4e⟩
  · replace hR := ifp rfl hR
    refine W.eq (g2 := F0 m 8 ls [.int 0, .ref (a 0)]) rfl ?_
    refine lv_if_ne (tgt := 15) hx hb dX10_drop_8 (by decide) (fun c5 => False.elim (by revert c5; decide)) (fun _ => ?_)
    refine lv_iconst (v := 1) hx hb dX10_drop_11 (by decide) ?_
    refine lv_goto (tgt := 16) hx hb dX10_drop_12 (by decide) ?_
    obtain ⟨x6, t7, hd8⟩ := ex2 (D_X10_isThrown__ (q 0) (q 1) (q 2) (q 3) 1)
    replace hR := bnd2_use hd8 hR
    refine call_V (n := 1) (k0 := 0) (As := [.int 1]) (rest := []) hX hB (k_X10_isThrown__ κ l (mw κ a r f q (tb a) w) 0 (a 0) (a 1) (q 0) (q 1) (q 2) (q 3) 1 (mw0x (a := a) (r := r) (f := f) (q := q) (T := tb a) (w := w) rfl) x6 t7 hd8) ⟨rfl, yk_X10_isThrown__⟩ wm_6_15 wm_6_17 wp_33 wm_1_6 wm_6_18 ⟨Nat.le_of_ble_eq_true rfl, Nat.le_of_ble_eq_true rfl⟩ ⟨Nat.le_of_ble_eq_true rfl, Nat.le_of_ble_eq_true rfl⟩ (mw0x (a := a) (r := r) (f := f) (q := q) (T := tb a) (w := w) rfl) rfl rfl rfl hl.1 rfl (Nat.le_of_ble_eq_true rfl) dX10_drop_16 (fun o w' H locs hp hB => ?_)
    obtain ⟨rfl, hf9, hw9⟩ := hp
    replace hB : Bd κ A s (mw κ a r f (va_up q 3 t7) (tb a) w) H locs := by exact Bd_eq (mwQ3x rfl _) (by rw [hw9] at hB; exact hB)
    obtain rfl : x6 = 1 := hf9.trans (by decide)
    refine W.eq (g2 := F0 m 19 ls [.int 1]) rfl ?_
    refine lv_if_eq (tgt := 24) hx hb dX10_drop_19 (by decide) (fun c10 => False.elim (by revert c10; decide)) (fun _ => ?_)
    refine lv_iconst (v := 0) hx hb dX10_drop_22 (by decide) ?_
    rw [← hQ]
    exact end_i hX hB hA3 rfl rfl (by obtain ⟨rfl, rfl, rfl, rfl⟩ := pr4 hR; exact ⟨a, rfl, rfl, hm, rfl, rfl⟩) (Nat.le_of_ble_eq_true rfl) (Nat.le_of_ble_eq_true rfl) dX10_drop_23
  · replace hR := ifn (by decide) hR
    refine W.eq (g2 := F0 m 8 ls [.int 1, .ref (a 0)]) rfl ?_
    refine lv_if_ne (tgt := 15) hx hb dX10_drop_8 (by decide) (fun _ => ?_) (fun c11 => False.elim (by revert c11; decide))
    refine lv_iconst (v := 0) hx hb dX10_drop_15 (by decide) ?_
    obtain ⟨x12, t13, hd14⟩ := ex2 (D_X10_isThrown__ (q 0) (q 1) (q 2) (q 3) 0)
    replace hR := bnd2_use hd14 hR
    refine call_V (n := 1) (k0 := 0) (As := [.int 0]) (rest := []) hX hB (k_X10_isThrown__ κ l (mw κ a r f q (tb a) w) 0 (a 0) (a 1) (q 0) (q 1) (q 2) (q 3) 0 (mw0x (a := a) (r := r) (f := f) (q := q) (T := tb a) (w := w) rfl) x12 t13 hd14) ⟨rfl, yk_X10_isThrown__⟩ wm_6_15 wm_6_17 wp_33 wm_1_6 wm_6_18 ⟨Nat.le_of_ble_eq_true rfl, Nat.le_of_ble_eq_true rfl⟩ ⟨Nat.le_of_ble_eq_true rfl, Nat.le_of_ble_eq_true rfl⟩ (mw0x (a := a) (r := r) (f := f) (q := q) (T := tb a) (w := w) rfl) rfl rfl rfl hl.1 rfl (Nat.le_of_ble_eq_true rfl) dX10_drop_16 (fun o w' H locs hp hB => ?_)
    obtain ⟨rfl, hf15, hw9⟩ := hp
    replace hB : Bd κ A s (mw κ a r f (va_up q 3 t13) (tb a) w) H locs := by exact Bd_eq (mwQ3x rfl _) (by rw [hw9] at hB; exact hB)
    obtain rfl : x12 = 0 := hf15.trans (by decide)
    refine W.eq (g2 := F0 m 19 ls [.int 0]) rfl ?_
    refine lv_if_eq (tgt := 24) hx hb dX10_drop_19 (by decide) (fun _ => ?_) (fun c16 => False.elim (by revert c16; decide))
    refine lv_aload_n hx hb dX10_drop_24 rfl (lv_at hl 0 rfl) ?_
    refine gf (k0 := 0) hX hB (mw0x (a := a) (r := r) (f := f) (q := (va_up q 3 t13)) (T := tb a) (w := w) rfl) rfl in10 0 (by decide) wm_5_162 rfl rfl dX10_drop_25 ?_
    refine lv_iload_n hx hb dX10_drop_28 rfl (lv_at hl 1 rfl) ?_
    refine aaldM (k0 := 1) hX hB (mw1 (a := a) (r := r) (f := f) (q := (va_up q 3 t13)) (T := tb a) (w := w)) (vp_in_mk (by assumption) (by assumption)) rfl dX10_drop_29 ?_
    have hb17 := mok_r hm y.toNatClampNeg (by omega)
    refine lv_astore (lv' := [(4, .ref (a (2 + 2 * y.toNatClampNeg))), (0, .ref (a 0)), (1, .int y), (2, .int c0), (3, .int z)]) hx hb dX10_drop_30 hl (by decide) rfl (fun ls hl => ?_)
    refine lv_iload_n hx hb dX10_drop_32 rfl (lv_at hl 3 rfl) ?_
    refine lv_if_eq (tgt := 44) hx hb dX10_drop_33 (by decide) (fun c18 => ?_) (fun c18 => ?_)
    · replace hR := ifp c18 hR
      have hz4l := hz4d c18
      refine lv_aload hx hb dX10_drop_44 (lv_at hl 0 rfl) ?_
      refine gf (k0 := 2 + 2 * y.toNatClampNeg) hX hB (mwG (i := y.toNatClampNeg) (a := a) (r := r) (f := f) (q := (va_up q 3 t13)) (T := tb a) (w := w) (by omega)) rfl in7 0 (by decide) wm_5_148 rfl rfl dX10_drop_46 ?_
      refine lv_iconst (v := 1) hx hb dX10_drop_49 (by decide) ?_
      refine lv_isub hx hb dX10_drop_50 ?_
      refine eqi (y := nI ((r (2 * y.toNatClampNeg)) - 1)) (nI_sub (a := r (2 * y.toNatClampNeg)) (b := 1) (by omega)) ?_
      refine lv_istore (lv' := [(5, .int (nI ((r (2 * y.toNatClampNeg)) - 1))), (4, .ref (a (2 + 2 * y.toNatClampNeg))), (0, .ref (a 0)), (1, .int y), (2, .int c0), (3, .int z)]) hx hb dX10_drop_51 hl (by decide) rfl (fun ls hl => ?_)
      refine lv_iload hx hb dX10_drop_53 (lv_at hl 0 rfl) ?_
      refine lv_if_ne (tgt := 63) hx hb dX10_drop_55 (by decide) (fun c19 => ?_) (fun c19 => ?_)
      · replace c19 : ¬ nI ((r (2 * y.toNatClampNeg)) - 1) = nI 0 := c19
        rw [neqP (by omega) (by omega)] at c19
        replace hR := ifn c19 hR
        refine lv_aload_n hx hb dX10_drop_63 rfl (lv_at hl 2 rfl) ?_
        refine gf (k0 := 0) hX hB (mw0x (a := a) (r := r) (f := f) (q := (va_up q 3 t13)) (T := tb a) (w := w) rfl) rfl in10 0 (by decide) wm_5_162 rfl rfl dX10_drop_64 ?_
        refine lv_iload_n hx hb dX10_drop_67 rfl (lv_at hl 3 rfl) ?_
        refine lv_aload hx hb dX10_drop_68 (lv_at hl 1 rfl) ?_
        refine lv_iload_n hx hb dX10_drop_70 rfl (lv_at hl 4 rfl) ?_
        refine lv_if_eq (tgt := 82) hx hb dX10_drop_71 (by decide) (fun _ => ?_) (fun c20 => False.elim (c20 c18))
        refine lv_iload hx hb dX10_drop_82 (lv_at hl 0 rfl) ?_
        refine lv_iload_n hx hb dX10_drop_84 rfl (lv_at hl 4 rfl) ?_
        refine lv_if_eq (tgt := 93) hx hb dX10_drop_85 (by decide) (fun _ => ?_) (fun c21 => False.elim (c21 c18))
        refine lv_aload hx hb dX10_drop_93 (lv_at hl 1 rfl) ?_
        refine gf (k0 := 2 + 2 * y.toNatClampNeg) hX hB (mwG (i := y.toNatClampNeg) (a := a) (r := r) (f := f) (q := (va_up q 3 t13)) (T := tb a) (w := w) (by omega)) rfl in7 1 (by decide) wm_5_152 rfl rfl dX10_drop_95 ?_
        refine lv_iload_n hx hb dX10_drop_98 rfl (lv_at hl 4 rfl) ?_
        refine lv_if_eq (tgt := 107) hx hb dX10_drop_99 (by decide) (fun _ => ?_) (fun c22 => False.elim (c22 c18))
        refine lv_iload_n hx hb dX10_drop_107 rfl (lv_at hl 5 rfl) ?_
        refine lv_iload_n hx hb dX10_drop_108 rfl (lv_at hl 4 rfl) ?_
        refine lv_if_eq (tgt := 116) hx hb dX10_drop_109 (by decide) (fun _ => ?_) (fun c23 => False.elim (c23 c18))
        refine lv_bipush (v := 9) hx hb dX10_drop_116 (by decide) ?_
        obtain ⟨F26, hd27⟩ := ex1 (D_X10_shaped (r (2 * y.toNatClampNeg)) (r (2 * y.toNatClampNeg + 1)) (f y.toNatClampNeg) ((r (2 * y.toNatClampNeg)) - 1) (r (2 * y.toNatClampNeg + 1)) z 9)
        replace hR := bnd1_use hd27 hR
        refine call_S (n := 5) (As := [.ref (a (2 + 2 * y.toNatClampNeg)), .int (nI ((r (2 * y.toNatClampNeg)) - 1)), .int (nI (r (2 * y.toNatClampNeg + 1))), .int z, .int 9]) (rest := [.int y, .ref (a 1)]) hX hB (k_X10_shaped κ l (mw κ a r f (va_up q 3 t13) (tb a) w) (2 + 2 * y.toNatClampNeg) (3 + 2 * y.toNatClampNeg) (a (2 + 2 * y.toNatClampNeg)) (a (3 + 2 * y.toNatClampNeg)) (r (2 * y.toNatClampNeg)) (r (2 * y.toNatClampNeg + 1)) (f y.toNatClampNeg) (nI ((r (2 * y.toNatClampNeg)) - 1)) ((r (2 * y.toNatClampNeg)) - 1) (nI (r (2 * y.toNatClampNeg + 1))) (r (2 * y.toNatClampNeg + 1)) z 9 (mwG (i := y.toNatClampNeg) (a := a) (r := r) (f := f) (q := (va_up q 3 t13)) (T := tb a) (w := w) (by omega)) (mwA (i := y.toNatClampNeg) (a := a) (r := r) (f := f) (q := (va_up q 3 t13)) (T := tb a) (w := w) (by omega)) (mok_shp (i := y.toNatClampNeg) hm (by omega)) rfl rfl (by omega) ((hm _ (by omega)).2) F26 hd27) yk_X10_shaped wm_6_97 wm_6_98 wm_1_6 wm_6_99 ⟨Nat.le_of_ble_eq_true rfl, Nat.le_of_ble_eq_true rfl⟩ ⟨Nat.le_of_ble_eq_true rfl, Nat.le_of_ble_eq_true rfl⟩ rfl hl.1 rfl (Nat.le_of_ble_eq_true rfl) dX10_drop_118 (fun o w' H locs hp hB => ?_)
        obtain ⟨q24, q25, rfl, hf28, hw9⟩ := hp
        replace hB : Bd κ A s (lA κ q25 (((r (2 * y.toNatClampNeg)) - 1) * 5) F26 :: gO q24 ((r (2 * y.toNatClampNeg)) - 1) (r (2 * y.toNatClampNeg + 1)) q25 :: mw κ a r f (va_up q 3 t13) (tb a) w) H locs := by rw [hw9] at hB; exact hB
        refine W.eq (g2 := F0 m 121 ls [.ref q24, .int y, .ref (a 1)]) rfl ?_
        refine astM (f := tb a) (k0 := 3) (k1 := 1) hX hB (mw1 (a := a) (r := r) (f := f) (q := (va_up q 3 t13)) (T := tb a) (w := w)) rfl (vp_in_mk (by assumption) (by assumption)) (w1 := lA κ q25 (((r (2 * y.toNatClampNeg)) - 1) * 5) F26 :: gO q24 ((r (2 * y.toNatClampNeg)) - 1) (r (2 * y.toNatClampNeg + 1)) q25 :: mw κ a r f (va_up q 3 t13) (va_up (tb a) y.toNatClampNeg (some q24)) w) (congrArg (List.cons _) (congrArg (List.cons _) (mwST _))) dX10_drop_121 (fun H locs hB => ?_)
        obtain ⟨a29, ha30, hg31, hB⟩ := Bd_repl2 (t := y.toNatClampNeg) (by omega) hB
        have hba29 := mok_r hm y.toNatClampNeg (by omega)
        refine lv_aload_n hx hb dX10_drop_122 rfl (lv_at hl 2 rfl) ?_
        refine lv_iload hx hb dX10_drop_123 (lv_at hl 0 rfl) ?_
        refine call_V (n := 1) (k0 := 0) (As := [.int (nI ((r (2 * y.toNatClampNeg)) - 1))]) (rest := []) hX hB (k_X10_told κ l (mw κ a29 (va_up (va_up r (2 * y.toNatClampNeg) ((r (2 * y.toNatClampNeg)) - 1)) (2 * y.toNatClampNeg + 1) (r (2 * y.toNatClampNeg + 1))) (va_up f y.toNatClampNeg F26) (va_up q 3 t13) (tb a29) w) 0 (a 0) (a29 1) ((va_up q 3 t13) 0) ((va_up q 3 t13) 1) ((va_up q 3 t13) 2) ((va_up q 3 t13) 3) (nI ((r (2 * y.toNatClampNeg)) - 1)) (mw0x (a := a29) (r := (va_up (va_up r (2 * y.toNatClampNeg) ((r (2 * y.toNatClampNeg)) - 1)) (2 * y.toNatClampNeg + 1) (r (2 * y.toNatClampNeg + 1)))) (f := (va_up f y.toNatClampNeg F26)) (q := (va_up q 3 t13)) (T := tb a29) (w := w) (ha30.trans rfl))) ⟨rfl, yk_X10_told⟩ wm_5_208 wm_5_210 wp_30 wm_1_6 wm_5_211 ⟨Nat.le_of_ble_eq_true rfl, Nat.le_of_ble_eq_true rfl⟩ ⟨Nat.le_of_ble_eq_true rfl, Nat.le_of_ble_eq_true rfl⟩ (mw0x (a := a29) (r := (va_up (va_up r (2 * y.toNatClampNeg) ((r (2 * y.toNatClampNeg)) - 1)) (2 * y.toNatClampNeg + 1) (r (2 * y.toNatClampNeg + 1)))) (f := (va_up f y.toNatClampNeg F26)) (q := (va_up q 3 t13)) (T := tb a29) (w := w) (ha30.trans rfl)) rfl rfl rfl hl.1 rfl (Nat.le_of_ble_eq_true rfl) dX10_drop_125 (fun o w' H locs hp hB => ?_)
        obtain ⟨rfl, hw9⟩ := hp
        replace hB : Bd κ A s (mw κ a29 (va_up (va_up r (2 * y.toNatClampNeg) ((r (2 * y.toNatClampNeg)) - 1)) (2 * y.toNatClampNeg + 1) (r (2 * y.toNatClampNeg + 1))) (va_up f y.toNatClampNeg F26) (va_up (va_up q 3 t13) 0 (((va_up q 3 t13) 0) + 1)) (tb a29) w) H locs := by exact Bd_eq (mwQ0x (ha30.trans rfl) _) (by rw [hw9] at hB; exact hB)
        refine W.eq (g2 := F0 m 128 ls [.int (nI ((r (2 * y.toNatClampNeg)) - 1))]) rfl ?_
        rw [← hQ]
        exact end_i hX hB hA3 rfl rfl (by obtain ⟨rfl, rfl, rfl, rfl⟩ := pr4 hR; exact ⟨a29, rfl, (ha30.trans rfl), (mok_repl (t := y.toNatClampNeg) (R := ((r (2 * y.toNatClampNeg)) - 1)) (C := (r (2 * y.toNatClampNeg + 1))) (F := F26) hm ⟨by omega, by omega, by omega, by omega⟩ hf28), rfl, rfl⟩) (Nat.le_of_ble_eq_true rfl) (Nat.le_of_ble_eq_true rfl) dX10_drop_128
      · replace c19 : nI ((r (2 * y.toNatClampNeg)) - 1) = nI 0 := c19
        rw [neqP (by omega) (by omega)] at c19
        replace hR := ifp c19 hR
        refine lv_aload_n hx hb dX10_drop_58 rfl (lv_at hl 2 rfl) ?_
        refine call_V (n := 0) (k0 := 0) (As := []) (rest := []) hX hB (k_X10_no κ l (mw κ a r f (va_up q 3 t13) (tb a) w) 0 (a 0) (a 1) ((va_up q 3 t13) 0) ((va_up q 3 t13) 1) ((va_up q 3 t13) 2) ((va_up q 3 t13) 3) (mw0x (a := a) (r := r) (f := f) (q := (va_up q 3 t13)) (T := tb a) (w := w) rfl)) ⟨rfl, yk_X10_no⟩ wm_6_89 wm_6_91 wp_36 wm_1_6 wm_6_92 ⟨Nat.le_of_ble_eq_true rfl, Nat.le_of_ble_eq_true rfl⟩ ⟨Nat.le_of_ble_eq_true rfl, Nat.le_of_ble_eq_true rfl⟩ (mw0x (a := a) (r := r) (f := f) (q := (va_up q 3 t13)) (T := tb a) (w := w) rfl) rfl rfl rfl hl.1 rfl (Nat.le_of_ble_eq_true rfl) dX10_drop_59 (fun o w' H locs hp hB => ?_)
        obtain ⟨rfl, hw9⟩ := hp
        replace hB : Bd κ A s (mw κ a r f (va_up (va_up q 3 t13) 1 (((va_up q 3 t13) 1) + 1)) (tb a) w) H locs := by exact Bd_eq (mwQ1x rfl _) (by rw [hw9] at hB; exact hB)
        refine W.eq (g2 := F0 m 62 ls [.int (-9)]) rfl ?_
        rw [← hQ]
        exact end_i hX hB hA3 rfl rfl (by obtain ⟨rfl, rfl, rfl, rfl⟩ := pr4 hR; exact ⟨a, rfl, rfl, hm, rfl, rfl⟩) (Nat.le_of_ble_eq_true rfl) (Nat.le_of_ble_eq_true rfl) dX10_drop_62
    · replace hR := ifn c18 hR
      have hz4l := hz4e c18
      refine lv_aload hx hb dX10_drop_36 (lv_at hl 0 rfl) ?_
      refine gf (k0 := 2 + 2 * y.toNatClampNeg) hX hB (mwG (i := y.toNatClampNeg) (a := a) (r := r) (f := f) (q := (va_up q 3 t13)) (T := tb a) (w := w) (by omega)) rfl in7 1 (by decide) wm_5_152 rfl rfl dX10_drop_38 ?_
      refine lv_goto (tgt := 49) hx hb dX10_drop_41 (by decide) ?_
      refine lv_iconst (v := 1) hx hb dX10_drop_49 (by decide) ?_
      refine lv_isub hx hb dX10_drop_50 ?_
      refine eqi (y := nI ((r (2 * y.toNatClampNeg + 1)) - 1)) (nI_sub (a := r (2 * y.toNatClampNeg + 1)) (b := 1) (by omega)) ?_
      refine lv_istore (lv' := [(5, .int (nI ((r (2 * y.toNatClampNeg + 1)) - 1))), (4, .ref (a (2 + 2 * y.toNatClampNeg))), (0, .ref (a 0)), (1, .int y), (2, .int c0), (3, .int z)]) hx hb dX10_drop_51 hl (by decide) rfl (fun ls hl => ?_)
      refine lv_iload hx hb dX10_drop_53 (lv_at hl 0 rfl) ?_
      refine lv_if_ne (tgt := 63) hx hb dX10_drop_55 (by decide) (fun c32 => ?_) (fun c32 => ?_)
      · replace c32 : ¬ nI ((r (2 * y.toNatClampNeg + 1)) - 1) = nI 0 := c32
        rw [neqP (by omega) (by omega)] at c32
        replace hR := ifn c32 hR
        refine lv_aload_n hx hb dX10_drop_63 rfl (lv_at hl 2 rfl) ?_
        refine gf (k0 := 0) hX hB (mw0x (a := a) (r := r) (f := f) (q := (va_up q 3 t13)) (T := tb a) (w := w) rfl) rfl in10 0 (by decide) wm_5_162 rfl rfl dX10_drop_64 ?_
        refine lv_iload_n hx hb dX10_drop_67 rfl (lv_at hl 3 rfl) ?_
        refine lv_aload hx hb dX10_drop_68 (lv_at hl 1 rfl) ?_
        refine lv_iload_n hx hb dX10_drop_70 rfl (lv_at hl 4 rfl) ?_
        refine lv_if_eq (tgt := 82) hx hb dX10_drop_71 (by decide) (fun c33 => False.elim (c18 c33)) (fun _ => ?_)
        refine lv_aload hx hb dX10_drop_74 (lv_at hl 1 rfl) ?_
        refine gf (k0 := 2 + 2 * y.toNatClampNeg) hX hB (mwG (i := y.toNatClampNeg) (a := a) (r := r) (f := f) (q := (va_up q 3 t13)) (T := tb a) (w := w) (by omega)) rfl in7 0 (by decide) wm_5_148 rfl rfl dX10_drop_76 ?_
        refine lv_goto (tgt := 84) hx hb dX10_drop_79 (by decide) ?_
        refine lv_iload_n hx hb dX10_drop_84 rfl (lv_at hl 4 rfl) ?_
        refine lv_if_eq (tgt := 93) hx hb dX10_drop_85 (by decide) (fun c34 => False.elim (c18 c34)) (fun _ => ?_)
        refine lv_iload hx hb dX10_drop_88 (lv_at hl 0 rfl) ?_
        refine lv_goto (tgt := 98) hx hb dX10_drop_90 (by decide) ?_
        refine lv_iload_n hx hb dX10_drop_98 rfl (lv_at hl 4 rfl) ?_
        refine lv_if_eq (tgt := 107) hx hb dX10_drop_99 (by decide) (fun c35 => False.elim (c18 c35)) (fun _ => ?_)
        refine lv_bipush (v := 9) hx hb dX10_drop_102 (by decide) ?_
        refine lv_goto (tgt := 108) hx hb dX10_drop_104 (by decide) ?_
        refine lv_iload_n hx hb dX10_drop_108 rfl (lv_at hl 4 rfl) ?_
        refine lv_if_eq (tgt := 116) hx hb dX10_drop_109 (by decide) (fun c36 => False.elim (c18 c36)) (fun _ => ?_)
        refine lv_iload_n hx hb dX10_drop_112 rfl (lv_at hl 5 rfl) ?_
        refine lv_goto (tgt := 118) hx hb dX10_drop_113 (by decide) ?_
        obtain ⟨F39, hd40⟩ := ex1 (D_X10_shaped (r (2 * y.toNatClampNeg)) (r (2 * y.toNatClampNeg + 1)) (f y.toNatClampNeg) (r (2 * y.toNatClampNeg)) ((r (2 * y.toNatClampNeg + 1)) - 1) 9 z)
        replace hR := bnd1_use hd40 hR
        refine call_S (n := 5) (As := [.ref (a (2 + 2 * y.toNatClampNeg)), .int (nI (r (2 * y.toNatClampNeg))), .int (nI ((r (2 * y.toNatClampNeg + 1)) - 1)), .int 9, .int z]) (rest := [.int y, .ref (a 1)]) hX hB (k_X10_shaped κ l (mw κ a r f (va_up q 3 t13) (tb a) w) (2 + 2 * y.toNatClampNeg) (3 + 2 * y.toNatClampNeg) (a (2 + 2 * y.toNatClampNeg)) (a (3 + 2 * y.toNatClampNeg)) (r (2 * y.toNatClampNeg)) (r (2 * y.toNatClampNeg + 1)) (f y.toNatClampNeg) (nI (r (2 * y.toNatClampNeg))) (r (2 * y.toNatClampNeg)) (nI ((r (2 * y.toNatClampNeg + 1)) - 1)) ((r (2 * y.toNatClampNeg + 1)) - 1) 9 z (mwG (i := y.toNatClampNeg) (a := a) (r := r) (f := f) (q := (va_up q 3 t13)) (T := tb a) (w := w) (by omega)) (mwA (i := y.toNatClampNeg) (a := a) (r := r) (f := f) (q := (va_up q 3 t13)) (T := tb a) (w := w) (by omega)) (mok_shp (i := y.toNatClampNeg) hm (by omega)) rfl rfl (by omega) ((hm _ (by omega)).2) F39 hd40) yk_X10_shaped wm_6_97 wm_6_98 wm_1_6 wm_6_99 ⟨Nat.le_of_ble_eq_true rfl, Nat.le_of_ble_eq_true rfl⟩ ⟨Nat.le_of_ble_eq_true rfl, Nat.le_of_ble_eq_true rfl⟩ rfl hl.1 rfl (Nat.le_of_ble_eq_true rfl) dX10_drop_118 (fun o w' H locs hp hB => ?_)
        obtain ⟨q37, q38, rfl, hf41, hw9⟩ := hp
        replace hB : Bd κ A s (lA κ q38 ((r (2 * y.toNatClampNeg)) * 5) F39 :: gO q37 (r (2 * y.toNatClampNeg)) ((r (2 * y.toNatClampNeg + 1)) - 1) q38 :: mw κ a r f (va_up q 3 t13) (tb a) w) H locs := by rw [hw9] at hB; exact hB
        refine W.eq (g2 := F0 m 121 ls [.ref q37, .int y, .ref (a 1)]) rfl ?_
        refine astM (f := tb a) (k0 := 3) (k1 := 1) hX hB (mw1 (a := a) (r := r) (f := f) (q := (va_up q 3 t13)) (T := tb a) (w := w)) rfl (vp_in_mk (by assumption) (by assumption)) (w1 := lA κ q38 ((r (2 * y.toNatClampNeg)) * 5) F39 :: gO q37 (r (2 * y.toNatClampNeg)) ((r (2 * y.toNatClampNeg + 1)) - 1) q38 :: mw κ a r f (va_up q 3 t13) (va_up (tb a) y.toNatClampNeg (some q37)) w) (congrArg (List.cons _) (congrArg (List.cons _) (mwST _))) dX10_drop_121 (fun H locs hB => ?_)
        obtain ⟨a42, ha43, hg44, hB⟩ := Bd_repl2 (t := y.toNatClampNeg) (by omega) hB
        have hba42 := mok_r hm y.toNatClampNeg (by omega)
        refine lv_aload_n hx hb dX10_drop_122 rfl (lv_at hl 2 rfl) ?_
        refine lv_iload hx hb dX10_drop_123 (lv_at hl 0 rfl) ?_
        refine call_V (n := 1) (k0 := 0) (As := [.int (nI ((r (2 * y.toNatClampNeg + 1)) - 1))]) (rest := []) hX hB (k_X10_told κ l (mw κ a42 (va_up (va_up r (2 * y.toNatClampNeg) (r (2 * y.toNatClampNeg))) (2 * y.toNatClampNeg + 1) ((r (2 * y.toNatClampNeg + 1)) - 1)) (va_up f y.toNatClampNeg F39) (va_up q 3 t13) (tb a42) w) 0 (a 0) (a42 1) ((va_up q 3 t13) 0) ((va_up q 3 t13) 1) ((va_up q 3 t13) 2) ((va_up q 3 t13) 3) (nI ((r (2 * y.toNatClampNeg + 1)) - 1)) (mw0x (a := a42) (r := (va_up (va_up r (2 * y.toNatClampNeg) (r (2 * y.toNatClampNeg))) (2 * y.toNatClampNeg + 1) ((r (2 * y.toNatClampNeg + 1)) - 1))) (f := (va_up f y.toNatClampNeg F39)) (q := (va_up q 3 t13)) (T := tb a42) (w := w) (ha43.trans rfl))) ⟨rfl, yk_X10_told⟩ wm_5_208 wm_5_210 wp_30 wm_1_6 wm_5_211 ⟨Nat.le_of_ble_eq_true rfl, Nat.le_of_ble_eq_true rfl⟩ ⟨Nat.le_of_ble_eq_true rfl, Nat.le_of_ble_eq_true rfl⟩ (mw0x (a := a42) (r := (va_up (va_up r (2 * y.toNatClampNeg) (r (2 * y.toNatClampNeg))) (2 * y.toNatClampNeg + 1) ((r (2 * y.toNatClampNeg + 1)) - 1))) (f := (va_up f y.toNatClampNeg F39)) (q := (va_up q 3 t13)) (T := tb a42) (w := w) (ha43.trans rfl)) rfl rfl rfl hl.1 rfl (Nat.le_of_ble_eq_true rfl) dX10_drop_125 (fun o w' H locs hp hB => ?_)
        obtain ⟨rfl, hw9⟩ := hp
        replace hB : Bd κ A s (mw κ a42 (va_up (va_up r (2 * y.toNatClampNeg) (r (2 * y.toNatClampNeg))) (2 * y.toNatClampNeg + 1) ((r (2 * y.toNatClampNeg + 1)) - 1)) (va_up f y.toNatClampNeg F39) (va_up (va_up q 3 t13) 0 (((va_up q 3 t13) 0) + 1)) (tb a42) w) H locs := by exact Bd_eq (mwQ0x (ha43.trans rfl) _) (by rw [hw9] at hB; exact hB)
        refine W.eq (g2 := F0 m 128 ls [.int (nI ((r (2 * y.toNatClampNeg + 1)) - 1))]) rfl ?_
        rw [← hQ]
        exact end_i hX hB hA3 rfl rfl (by obtain ⟨rfl, rfl, rfl, rfl⟩ := pr4 hR; exact ⟨a42, rfl, (ha43.trans rfl), (mok_repl (t := y.toNatClampNeg) (R := (r (2 * y.toNatClampNeg))) (C := ((r (2 * y.toNatClampNeg + 1)) - 1)) (F := F39) hm ⟨by omega, by omega, by omega, by omega⟩ hf41), rfl, rfl⟩) (Nat.le_of_ble_eq_true rfl) (Nat.le_of_ble_eq_true rfl) dX10_drop_128
      · replace c32 : nI ((r (2 * y.toNatClampNeg + 1)) - 1) = nI 0 := c32
        rw [neqP (by omega) (by omega)] at c32
        replace hR := ifp c32 hR
        refine lv_aload_n hx hb dX10_drop_58 rfl (lv_at hl 2 rfl) ?_
        refine call_V (n := 0) (k0 := 0) (As := []) (rest := []) hX hB (k_X10_no κ l (mw κ a r f (va_up q 3 t13) (tb a) w) 0 (a 0) (a 1) ((va_up q 3 t13) 0) ((va_up q 3 t13) 1) ((va_up q 3 t13) 2) ((va_up q 3 t13) 3) (mw0x (a := a) (r := r) (f := f) (q := (va_up q 3 t13)) (T := tb a) (w := w) rfl)) ⟨rfl, yk_X10_no⟩ wm_6_89 wm_6_91 wp_36 wm_1_6 wm_6_92 ⟨Nat.le_of_ble_eq_true rfl, Nat.le_of_ble_eq_true rfl⟩ ⟨Nat.le_of_ble_eq_true rfl, Nat.le_of_ble_eq_true rfl⟩ (mw0x (a := a) (r := r) (f := f) (q := (va_up q 3 t13)) (T := tb a) (w := w) rfl) rfl rfl rfl hl.1 rfl (Nat.le_of_ble_eq_true rfl) dX10_drop_59 (fun o w' H locs hp hB => ?_)
        obtain ⟨rfl, hw9⟩ := hp
        replace hB : Bd κ A s (mw κ a r f (va_up (va_up q 3 t13) 1 (((va_up q 3 t13) 1) + 1)) (tb a) w) H locs := by exact Bd_eq (mwQ1x rfl _) (by rw [hw9] at hB; exact hB)
        refine W.eq (g2 := F0 m 62 ls [.int (-9)]) rfl ?_
        rw [← hQ]
        exact end_i hX hB hA3 rfl rfl (by obtain ⟨rfl, rfl, rfl, rfl⟩ := pr4 hR; exact ⟨a, rfl, rfl, hm, rfl, rfl⟩) (Nat.le_of_ble_eq_true rfl) (Nat.le_of_ble_eq_true rfl) dX10_drop_62
end
section
-- 45.rmb
theorem sow_x {x : Int64} (h : 0 ≤ x.toInt ∧ x.toInt < 65536) : 0 ≤ (x * 25173 + 13849 - (x * 25173 + 13849) / 65536 * 65536).toInt ∧ (x * 25173 + 13849 - (x * 25173 + 13849) / 65536 * 65536).toInt < 65536 := by
  have e : (x * 25173 + 13849).toInt = x.toInt * 25173 + 13849 := by
    rw [Int64.toInt_add, Int64.toInt_mul, show (25173 : Int64).toInt = 25173 from rfl, show (13849 : Int64).toInt = 13849 from rfl]
    rw [Int.bmod_eq_of_le (n := x.toInt * 25173) (by omega) (by omega)]
    exact Int.bmod_eq_of_le (by omega) (by omega)
  rw [rem_int (by decide), e, show (65536 : Int64).toInt = 65536 from rfl]
  have h1 := Int.tmod_nonneg 65536 (a := x.toInt * 25173 + 13849) (by omega)
  have h2 := Int.tmod_lt_of_pos (x.toInt * 25173 + 13849) (b := 65536) (by decide)
  exact ⟨h1, h2⟩
theorem sow_d {w : Int32} (h0 : ¬ w < 0) (h1 : w ≤ 20) : (2 * w + 1).toInt64.toInt = 2 * w.toInt + 1 ∧ 0 ≤ w.toInt ∧ w.toInt ≤ 20 := by
  rw [i32_lt] at h0
  rw [i32_le] at h1
  rw [show (0 : Int32).toInt = 0 from rfl] at h0
  rw [show (20 : Int32).toInt = 20 from rfl] at h1
  refine ⟨?_, by omega, h1⟩
  rw [Int32.toInt_toInt64, Int32.toInt_add, Int32.toInt_mul, show (2 : Int32).toInt = 2 from rfl, show (1 : Int32).toInt = 1 from rfl]
  rw [Int.bmod_eq_of_le (n := 2 * w.toInt) (by omega) (by omega)]
  exact Int.bmod_eq_of_le (by omega) (by omega)
theorem sow_nz {w : Int32} (h0 : ¬ w < 0) (h1 : w ≤ 20) : ¬ (2 * w + 1).toInt64 = 0 := by
  intro e
  have h := sow_d h0 h1
  rw [e, show (0 : Int64).toInt = 0 from rfl] at h
  omega
theorem sow_sm {a : Int64} {w : Int32} (h0 : ¬ w < 0) (h1 : w ≤ 20) (ha : 0 ≤ a.toInt) : sm (a - a / (2 * w + 1).toInt64 * (2 * w + 1).toInt64 - w.toInt64) := by
  have h := sow_d h0 h1
  have hr := rem_int (x := a) (sow_nz h0 h1)
  have h2 := Int.tmod_nonneg (2 * w + 1).toInt64.toInt (a := a.toInt) ha
  have h3 := Int.tmod_lt_of_pos a.toInt (b := (2 * w + 1).toInt64.toInt) (by omega)
  have hw : w.toInt64.toInt = w.toInt := Int32.toInt_toInt64 w
  have e : (a - a / (2 * w + 1).toInt64 * (2 * w + 1).toInt64 - w.toInt64).toInt = a.toInt.tmod (2 * w + 1).toInt64.toInt - w.toInt := by
    rw [Int64.toInt_sub, hr, hw]
    exact Int.bmod_eq_of_le (by omega) (by omega)
  constructor
  · rw [Int64.le_iff_toInt_le, e]
    show (-20 : Int) ≤ _
    omega
  · rw [Int64.le_iff_toInt_le, e]
    show _ ≤ (20 : Int)
    omega
theorem div64 {x : Int64} (h : 0 ≤ x.toInt) : 0 ≤ (x / 64).toInt := by
  have h1 := Int64.toInt_lt x
  rw [Int64.toInt_div, show (64 : Int64).toInt = 64 from rfl]
  have h2 := Int.tdiv_nonneg h (by decide : (0 : Int) ≤ 64)
  have h3 := Int.tdiv_le_self (b := 64) h
  rw [Int.bmod_eq_of_le (by omega) (by omega)]
  exact h2
theorem seed_x {v : Int32} (h0 : ¬ v < 0) (h1 : ¬ 65535 < v) : 0 ≤ v.toInt64.toInt ∧ v.toInt64.toInt < 65536 := by
  rw [i32_lt] at h0 h1
  rw [show (0 : Int32).toInt = 0 from rfl] at h0
  rw [show (65535 : Int32).toInt = 65535 from rfl] at h1
  rw [Int32.toInt_toInt64]
  omega
theorem shr0 {z : Int32} {R : Nat} (hR : R < 6) (h1 : ¬ z < 1) (h : z >>> ((nI R) &&& 31) = 0) : ∃ x, 0 < x ∧ x < 2 ^ R ∧ z = nI x := by
  have hn : ¬ z < 0 := fun e => h1 (Int32.lt_trans e (by decide))
  obtain ⟨j, hj, rfl⟩ := nI_of hn
  have h1 : ¬ nI j < nI 1 := h1
  rw [nI_ltI hj (by omega)] at h1
  refine ⟨j, by omega, ?_, rfl⟩
  have hb : ((nI R) &&& 31 : Int32).toBitVec = BitVec.ofNat 32 R := (by decide +kernel : ∀ R, R < 6 → ((nI R) &&& 31 : Int32).toBitVec = BitVec.ofNat 32 R) R hR
  have hs : (BitVec.ofNat 32 R).smod 32 = BitVec.ofNat 32 R := (by decide +kernel : ∀ R, R < 6 → (BitVec.ofNat 32 R).smod 32 = BitVec.ofNat 32 R) R hR
  have e := congrArg (fun z => z.toBitVec.toInt) h
  simp only [Int32.toBitVec_shiftRight, hb, hs, BitVec.toInt_sshiftRight'] at e
  have e1 : (nI j).toBitVec.toInt = (j : Int) := nI_toInt hj
  have e2 : (BitVec.ofNat 32 R).toNat = R := by
    rw [BitVec.toNat_ofNat]
    exact Nat.mod_eq_of_lt (by omega)
  rw [e1, e2] at e
  have e3 : ((j >>> R : Nat) : Int) = 0 := e
  have e4 : j >>> R = 0 := by omega
  rw [Nat.shiftRight_eq_div_pow] at e4
  exact (Nat.div_eq_zero_iff_lt (Nat.two_pow_pos R)).mp e4
theorem mn_six {R C x y : Nat} (hR : R ≤ 4) (hC : C ≤ 5) (h1 : 0 < x) (h2 : x < 2 ^ R) (h3 : 0 < y) (h4 : y < 2 ^ C) {u v : Int32} (e1 : u = bcE (nI x)) (e2 : v = bcE (nI y)) (h : u = v) : 0 < x ∧ x < 2 ^ R ∧ 0 < y ∧ y < 2 ^ C ∧ pc5 x = pc5 x ∧ pc5 y = pc5 x := by
  refine ⟨h1, h2, h3, h4, rfl, ?_⟩
  have a1 := p32 (by omega) h2
  have a2 := p32 hC h4
  exact (dv_pc e1 rfl e2 h.symm a1 a2).symm
theorem how_no {z : Int32} (h0 : ¬ z < 0) (h2 : z ≤ 2) (a : ¬ z = 2) (b : ¬ z = 0) (c : ¬ z = 1) : False := by
  obtain ⟨j, hj, rfl⟩ := nI_of h0
  have h2 : nI j ≤ nI 2 := h2
  have a : ¬ nI j = nI 2 := a
  have b : ¬ nI j = nI 0 := b
  have c : ¬ nI j = nI 1 := c
  rw [nI_leI hj (by omega)] at h2
  rw [nI_eq hj (by omega)] at a b c
  omega

noncomputable def D_X10_sow_74 (r : Nat → Nat) (y : Int32) (v : Int32) (lb61 : Nat → Int64 → (Nat → Nat → Int64) → Int32 × (Nat → Nat) × (Nat → Nat → Int64) × (Nat → Int32)) (y7_61 : Nat) (nn : Nat) : Nat → Int64 → (Nat → Nat → Int64) → Int32 × (Nat → Nat) × (Nat → Nat → Int64) × (Nat → Int32) := @Nat.rec (fun _ => Nat → Int64 → (Nat → Nat → Int64) → Int32 × (Nat → Nat) × (Nat → Nat → Int64) × (Nat → Int32)) (fun _ _ _ => default) (fun _ lb74 (y8_74 : Nat) (y5_74 : Int64) (F_74 : Nat → Nat → Int64) => (if (r (2 * y.toNatClampNeg + 1)) ≤ y8_74 then (lb61 (y7_61 + 1) y5_74 F_74) else (lb74 (y8_74 + 1) (((y5_74 * 25173) + 13849) - ((y5_74 * 25173) + 13849) / 65536 * 65536) (va_up F_74 y.toNatClampNeg (vp_updL (F_74 y.toNatClampNeg) (y7_61 * 5 + y8_74) ((((((y5_74 * 25173) + 13849) - ((y5_74 * 25173) + 13849) / 65536 * 65536) / 64) - ((((y5_74 * 25173) + 13849) - ((y5_74 * 25173) + 13849) / 65536 * 65536) / 64) / ((((2 * v) + 1)).toInt64) * ((((2 * v) + 1)).toInt64)) - ((v).toInt64))))))) nn
theorem D_X10_sow_74_s {r : Nat → Nat} {y : Int32} {v : Int32} {lb61 : Nat → Int64 → (Nat → Nat → Int64) → Int32 × (Nat → Nat) × (Nat → Nat → Int64) × (Nat → Int32)} {y7_61 : Nat} {nn : Nat} {y8_74 : Nat} {y5_74 : Int64} {F_74 : Nat → Nat → Int64} : D_X10_sow_74 r y v lb61 y7_61 (nn + 1) y8_74 y5_74 F_74 = (if (r (2 * y.toNatClampNeg + 1)) ≤ y8_74 then (lb61 (y7_61 + 1) y5_74 F_74) else ((D_X10_sow_74 r y v lb61 y7_61 nn) (y8_74 + 1) (((y5_74 * 25173) + 13849) - ((y5_74 * 25173) + 13849) / 65536 * 65536) (va_up F_74 y.toNatClampNeg (vp_updL (F_74 y.toNatClampNeg) (y7_61 * 5 + y8_74) ((((((y5_74 * 25173) + 13849) - ((y5_74 * 25173) + 13849) / 65536 * 65536) / 64) - ((((y5_74 * 25173) + 13849) - ((y5_74 * 25173) + 13849) / 65536 * 65536) / 64) / ((((2 * v) + 1)).toInt64) * ((((2 * v) + 1)).toInt64)) - ((v).toInt64)))))) := rfl
noncomputable def D_X10_sow_61 (r : Nat → Nat) (q : Nat → Int32) (y : Int32) (v : Int32) (t56 : Int32) (nn : Nat) : Nat → Int64 → (Nat → Nat → Int64) → Int32 × (Nat → Nat) × (Nat → Nat → Int64) × (Nat → Int32) := @Nat.rec (fun _ => Nat → Int64 → (Nat → Nat → Int64) → Int32 × (Nat → Nat) × (Nat → Nat → Int64) × (Nat → Int32)) (fun _ _ _ => default) (fun _ lb61 (y7_61 : Nat) (y5_61 : Int64) (F_61 : Nat → Nat → Int64) => (if (r (2 * y.toNatClampNeg)) ≤ y7_61 then bnd1 (D_X7_others (r (2 * y.toNatClampNeg)) (r (2 * y.toNatClampNeg + 1)) (F_61 y.toNatClampNeg)) (fun (x74 : Int32) => ((nI ((r (2 * y.toNatClampNeg)) * (r (2 * y.toNatClampNeg + 1)))) - x74, r, F_61, va_up (va_up q 3 t56) 0 (((va_up q 3 t56) 0) + 1))) else (D_X10_sow_74 r y v lb61 y7_61 ((r (2 * y.toNatClampNeg + 1)) + 1 - 0 + 1) 0 y5_61 F_61))) nn
theorem D_X10_sow_61_s {r : Nat → Nat} {q : Nat → Int32} {y : Int32} {v : Int32} {t56 : Int32} {nn : Nat} {y7_61 : Nat} {y5_61 : Int64} {F_61 : Nat → Nat → Int64} : D_X10_sow_61 r q y v t56 (nn + 1) y7_61 y5_61 F_61 = (if (r (2 * y.toNatClampNeg)) ≤ y7_61 then bnd1 (D_X7_others (r (2 * y.toNatClampNeg)) (r (2 * y.toNatClampNeg + 1)) (F_61 y.toNatClampNeg)) (fun (x74 : Int32) => ((nI ((r (2 * y.toNatClampNeg)) * (r (2 * y.toNatClampNeg + 1)))) - x74, r, F_61, va_up (va_up q 3 t56) 0 (((va_up q 3 t56) 0) + 1))) else (D_X10_sow_74 r y v (D_X10_sow_61 r q y v t56 nn) y7_61 ((r (2 * y.toNatClampNeg + 1)) + 1 - 0 + 1) 0 y5_61 F_61)) := rfl
noncomputable def D_X10_sow (r : Nat → Nat) (f : Nat → Nat → Int64) (q : Nat → Int32) (y : Int32) (z : Int32) (v : Int32) : Int32 × (Nat → Nat) × (Nat → Nat → Int64) × (Nat → Int32) := bnd1 (D_X10_isTable y) (fun (z1 : Int32) => (if z1 = 0 then (if z < 0 then bnd2 (D_X10_isThrown_ (q 0) (q 1) (q 2) (q 3) 1 1) (fun (x7 : Int32) (t8 : Int32) => (0, r, f, va_up q 3 t8)) else (if 65535 < z then bnd2 (D_X10_isThrown_ (q 0) (q 1) (q 2) (q 3) 1 1) (fun (x13 : Int32) (t14 : Int32) => (0, r, f, va_up q 3 t14)) else (if v < 0 then bnd2 (D_X10_isThrown_ (q 0) (q 1) (q 2) (q 3) 1 1) (fun (x19 : Int32) (t20 : Int32) => (0, r, f, va_up q 3 t20)) else (if v ≤ 20 then bnd2 (D_X10_isThrown_ (q 0) (q 1) (q 2) (q 3) 1 0) (fun (x25 : Int32) (t26 : Int32) => (0, r, f, va_up q 3 t26)) else bnd2 (D_X10_isThrown_ (q 0) (q 1) (q 2) (q 3) 1 1) (fun (x30 : Int32) (t31 : Int32) => (0, r, f, va_up q 3 t31)))))) else (if z < 0 then bnd2 (D_X10_isThrown_ (q 0) (q 1) (q 2) (q 3) 0 1) (fun (x37 : Int32) (t38 : Int32) => (0, r, f, va_up q 3 t38)) else (if 65535 < z then bnd2 (D_X10_isThrown_ (q 0) (q 1) (q 2) (q 3) 0 1) (fun (x43 : Int32) (t44 : Int32) => (0, r, f, va_up q 3 t44)) else (if v < 0 then bnd2 (D_X10_isThrown_ (q 0) (q 1) (q 2) (q 3) 0 1) (fun (x49 : Int32) (t50 : Int32) => (0, r, f, va_up q 3 t50)) else (if v ≤ 20 then bnd2 (D_X10_isThrown_ (q 0) (q 1) (q 2) (q 3) 0 0) (fun (x55 : Int32) (t56 : Int32) => (D_X10_sow_61 r q y v t56 ((r (2 * y.toNatClampNeg)) + 1 - 0 + 1) 0 ((z).toInt64) f)) else bnd2 (D_X10_isThrown_ (q 0) (q 1) (q 2) (q 3) 0 1) (fun (x79 : Int32) (t80 : Int32) => (0, r, f, va_up q 3 t80))))))))
theorem D_X10_sow_s {r : Nat → Nat} {f : Nat → Nat → Int64} {q : Nat → Int32} {y : Int32} {z : Int32} {v : Int32} : D_X10_sow r f q y z v = bnd1 (D_X10_isTable y) (fun (z1 : Int32) => (if z1 = 0 then (if z < 0 then bnd2 (D_X10_isThrown_ (q 0) (q 1) (q 2) (q 3) 1 1) (fun (x7 : Int32) (t8 : Int32) => (0, r, f, va_up q 3 t8)) else (if 65535 < z then bnd2 (D_X10_isThrown_ (q 0) (q 1) (q 2) (q 3) 1 1) (fun (x13 : Int32) (t14 : Int32) => (0, r, f, va_up q 3 t14)) else (if v < 0 then bnd2 (D_X10_isThrown_ (q 0) (q 1) (q 2) (q 3) 1 1) (fun (x19 : Int32) (t20 : Int32) => (0, r, f, va_up q 3 t20)) else (if v ≤ 20 then bnd2 (D_X10_isThrown_ (q 0) (q 1) (q 2) (q 3) 1 0) (fun (x25 : Int32) (t26 : Int32) => (0, r, f, va_up q 3 t26)) else bnd2 (D_X10_isThrown_ (q 0) (q 1) (q 2) (q 3) 1 1) (fun (x30 : Int32) (t31 : Int32) => (0, r, f, va_up q 3 t31)))))) else (if z < 0 then bnd2 (D_X10_isThrown_ (q 0) (q 1) (q 2) (q 3) 0 1) (fun (x37 : Int32) (t38 : Int32) => (0, r, f, va_up q 3 t38)) else (if 65535 < z then bnd2 (D_X10_isThrown_ (q 0) (q 1) (q 2) (q 3) 0 1) (fun (x43 : Int32) (t44 : Int32) => (0, r, f, va_up q 3 t44)) else (if v < 0 then bnd2 (D_X10_isThrown_ (q 0) (q 1) (q 2) (q 3) 0 1) (fun (x49 : Int32) (t50 : Int32) => (0, r, f, va_up q 3 t50)) else (if v ≤ 20 then bnd2 (D_X10_isThrown_ (q 0) (q 1) (q 2) (q 3) 0 0) (fun (x55 : Int32) (t56 : Int32) => (D_X10_sow_61 r q y v t56 ((r (2 * y.toNatClampNeg)) + 1 - 0 + 1) 0 ((z).toInt64) f)) else bnd2 (D_X10_isThrown_ (q 0) (q 1) (q 2) (q 3) 0 1) (fun (x79 : Int32) (t80 : Int32) => (0, r, f, va_up q 3 t80)))))))) := rfl
set_option maxHeartbeats 4000000 in
set_option maxRecDepth 100000 in
theorem k_X10_sow (κ : Kt) (l : Launch) (w : va_W) (a r : Nat → Nat) (f : Nat → Nat → Int64) (q : Nat → Int32) (y : Int32) (z : Int32) (v : Int32) (hm : mok r f) (o_x : Int32) (o_r' : Nat → Nat) (o_f' : Nat → Nat → Int64) (o_q' : Nat → Int32) (hR : D_X10_sow r f q y z v = (o_x, o_r', o_f', o_q')) : CM κ l yX10_sow cX10_sow 9 (some .int) 2 45 0 0 [.ref (a 0), .int y, .int z, .int v] (mw κ a r f q (tb a) w) (fun o w' => ∃ (a' : Nat → Nat), o = some (.int o_x) ∧ (a' 0 = a 0) ∧ (mok o_r' o_f') ∧ (o_q' 2 = q 2) ∧ w' = mw κ a' o_r' o_f' o_q' (tb a') w) := by
  refine CM_begin (plainFor_of_name pn_RX10) (Nat.le_of_ble_eq_true rfl) ?_
  intro p e s m args below meth c A Q hX hnm hA3 hQ hB ls hl
  have hx := hX.1.1
  have hb := hX.1.2.1
  have hl : lv_has ls 9 [(0, .ref (a 0)), (1, .int y), (2, .int z), (3, .int v)] := hl
  replace hR := (D_X10_sow_s).symm.trans hR
  refine lv_aload_n hx hb dX10_sow_0 rfl (lv_at hl 0 rfl) ?_
  refine lv_iload_n hx hb dX10_sow_1 rfl (lv_at hl 1 rfl) ?_
  obtain ⟨z1, hd2⟩ := ex1 (D_X10_isTable y)
  replace hR := bnd1_use hd2 hR
  refine call_S (n := 1) (As := [.int y]) (rest := [.ref (a 0)]) hX hB (k_X10_isTable κ l (mw κ a r f q (tb a) w) y z1 hd2) yk_X10_isTable wm_5_186 wm_5_187 wm_1_6 wm_5_188 ⟨Nat.le_of_ble_eq_true rfl, Nat.le_of_ble_eq_true rfl⟩ ⟨Nat.le_of_ble_eq_true rfl, Nat.le_of_ble_eq_true rfl⟩ rfl hl.1 rfl (Nat.le_of_ble_eq_true rfl) dX10_sow_2 (fun o w' H locs hp hB => ?_)
  obtain ⟨rfl, hf3, hw9⟩ := hp
  replace hB : Bd κ A s (mw κ a r f q (tb a) w) H locs := by rw [hw9] at hB; exact hB
  rcases hf3 with rfl | ⟨rfl, hz4a, hz4b⟩
  · replace hR := ifp rfl hR
    refine W.eq (g2 := F0 m 5 ls [.int 0, .ref (a 0)]) rfl ?_
    refine lv_if_ne (tgt := 12) hx hb dX10_sow_5 (by decide) (fun c5 => False.elim (by revert c5; decide)) (fun _ => ?_)
    refine lv_iconst (v := 1) hx hb dX10_sow_8 (by decide) ?_
    refine lv_goto (tgt := 13) hx hb dX10_sow_9 (by decide) ?_
    refine lv_iload_n hx hb dX10_sow_13 rfl (lv_at hl 2 rfl) ?_
    refine lv_if_lt (tgt := 33) hx hb dX10_sow_14 (by decide) (fun c6 => ?_) (fun c6 => ?_)
    · replace hR := ifp c6 hR
      refine lv_iconst (v := 1) hx hb dX10_sow_33 (by decide) ?_
      refine lv_goto (tgt := 38) hx hb dX10_sow_34 (by decide) ?_
      obtain ⟨x7, t8, hd9⟩ := ex2 (D_X10_isThrown_ (q 0) (q 1) (q 2) (q 3) 1 1)
      replace hR := bnd2_use hd9 hR
      refine call_V (n := 2) (k0 := 0) (As := [.int 1, .int 1]) (rest := []) hX hB (k_X10_isThrown_ κ l (mw κ a r f q (tb a) w) 0 (a 0) (a 1) (q 0) (q 1) (q 2) (q 3) 1 1 (mw0x (a := a) (r := r) (f := f) (q := q) (T := tb a) (w := w) rfl) x7 t8 hd9) ⟨rfl, yk_X10_isThrown_⟩ wm_5_192 wm_5_194 wp_27 wm_1_6 wm_5_195 ⟨Nat.le_of_ble_eq_true rfl, Nat.le_of_ble_eq_true rfl⟩ ⟨Nat.le_of_ble_eq_true rfl, Nat.le_of_ble_eq_true rfl⟩ (mw0x (a := a) (r := r) (f := f) (q := q) (T := tb a) (w := w) rfl) rfl rfl rfl hl.1 rfl (Nat.le_of_ble_eq_true rfl) dX10_sow_38 (fun o w' H locs hp hB => ?_)
      obtain ⟨rfl, hf10, hw9⟩ := hp
      replace hB : Bd κ A s (mw κ a r f (va_up q 3 t8) (tb a) w) H locs := by exact Bd_eq (mwQ3x rfl _) (by rw [hw9] at hB; exact hB)
      obtain rfl : x7 = 1 := hf10.trans (by decide)
      refine W.eq (g2 := F0 m 41 ls [.int 1]) rfl ?_
      refine lv_if_eq (tgt := 46) hx hb dX10_sow_41 (by decide) (fun c11 => False.elim (by revert c11; decide)) (fun _ => ?_)
      refine lv_iconst (v := 0) hx hb dX10_sow_44 (by decide) ?_
      rw [← hQ]
      exact end_i hX hB hA3 rfl rfl (by obtain ⟨rfl, rfl, rfl, rfl⟩ := pr4 hR; exact ⟨a, rfl, rfl, hm, rfl, rfl⟩) (Nat.le_of_ble_eq_true rfl) (Nat.le_of_ble_eq_true rfl) dX10_sow_45
    · replace hR := ifn c6 hR
      refine lv_iload_n hx hb dX10_sow_17 rfl (lv_at hl 2 rfl) ?_
      refine lv_ldc (own := RX10) (v := 65535) hx hb hX.1.2.2.2.1 (hX.1.2.2.2.2 _ wm_6_6) dX10_sow_18 ?_
      refine lv_icmp_gt (tgt := 33) hx hb dX10_sow_20 (by decide) (fun c12 => ?_) (fun c12 => ?_)
      · replace hR := ifp c12 hR
        refine lv_iconst (v := 1) hx hb dX10_sow_33 (by decide) ?_
        refine lv_goto (tgt := 38) hx hb dX10_sow_34 (by decide) ?_
        obtain ⟨x13, t14, hd15⟩ := ex2 (D_X10_isThrown_ (q 0) (q 1) (q 2) (q 3) 1 1)
        replace hR := bnd2_use hd15 hR
        refine call_V (n := 2) (k0 := 0) (As := [.int 1, .int 1]) (rest := []) hX hB (k_X10_isThrown_ κ l (mw κ a r f q (tb a) w) 0 (a 0) (a 1) (q 0) (q 1) (q 2) (q 3) 1 1 (mw0x (a := a) (r := r) (f := f) (q := q) (T := tb a) (w := w) rfl) x13 t14 hd15) ⟨rfl, yk_X10_isThrown_⟩ wm_5_192 wm_5_194 wp_27 wm_1_6 wm_5_195 ⟨Nat.le_of_ble_eq_true rfl, Nat.le_of_ble_eq_true rfl⟩ ⟨Nat.le_of_ble_eq_true rfl, Nat.le_of_ble_eq_true rfl⟩ (mw0x (a := a) (r := r) (f := f) (q := q) (T := tb a) (w := w) rfl) rfl rfl rfl hl.1 rfl (Nat.le_of_ble_eq_true rfl) dX10_sow_38 (fun o w' H locs hp hB => ?_)
        obtain ⟨rfl, hf16, hw9⟩ := hp
        replace hB : Bd κ A s (mw κ a r f (va_up q 3 t14) (tb a) w) H locs := by exact Bd_eq (mwQ3x rfl _) (by rw [hw9] at hB; exact hB)
        obtain rfl : x13 = 1 := hf16.trans (by decide)
        refine W.eq (g2 := F0 m 41 ls [.int 1]) rfl ?_
        refine lv_if_eq (tgt := 46) hx hb dX10_sow_41 (by decide) (fun c17 => False.elim (by revert c17; decide)) (fun _ => ?_)
        refine lv_iconst (v := 0) hx hb dX10_sow_44 (by decide) ?_
        rw [← hQ]
        exact end_i hX hB hA3 rfl rfl (by obtain ⟨rfl, rfl, rfl, rfl⟩ := pr4 hR; exact ⟨a, rfl, rfl, hm, rfl, rfl⟩) (Nat.le_of_ble_eq_true rfl) (Nat.le_of_ble_eq_true rfl) dX10_sow_45
      · replace hR := ifn c12 hR
        refine lv_iload_n hx hb dX10_sow_23 rfl (lv_at hl 3 rfl) ?_
        refine lv_if_lt (tgt := 33) hx hb dX10_sow_24 (by decide) (fun c18 => ?_) (fun c18 => ?_)
        · replace hR := ifp c18 hR
          refine lv_iconst (v := 1) hx hb dX10_sow_33 (by decide) ?_
          refine lv_goto (tgt := 38) hx hb dX10_sow_34 (by decide) ?_
          obtain ⟨x19, t20, hd21⟩ := ex2 (D_X10_isThrown_ (q 0) (q 1) (q 2) (q 3) 1 1)
          replace hR := bnd2_use hd21 hR
          refine call_V (n := 2) (k0 := 0) (As := [.int 1, .int 1]) (rest := []) hX hB (k_X10_isThrown_ κ l (mw κ a r f q (tb a) w) 0 (a 0) (a 1) (q 0) (q 1) (q 2) (q 3) 1 1 (mw0x (a := a) (r := r) (f := f) (q := q) (T := tb a) (w := w) rfl) x19 t20 hd21) ⟨rfl, yk_X10_isThrown_⟩ wm_5_192 wm_5_194 wp_27 wm_1_6 wm_5_195 ⟨Nat.le_of_ble_eq_true rfl, Nat.le_of_ble_eq_true rfl⟩ ⟨Nat.le_of_ble_eq_true rfl, Nat.le_of_ble_eq_true rfl⟩ (mw0x (a := a) (r := r) (f := f) (q := q) (T := tb a) (w := w) rfl) rfl rfl rfl hl.1 rfl (Nat.le_of_ble_eq_true rfl) dX10_sow_38 (fun o w' H locs hp hB => ?_)
          obtain ⟨rfl, hf22, hw9⟩ := hp
          replace hB : Bd κ A s (mw κ a r f (va_up q 3 t20) (tb a) w) H locs := by exact Bd_eq (mwQ3x rfl _) (by rw [hw9] at hB; exact hB)
          obtain rfl : x19 = 1 := hf22.trans (by decide)
          refine W.eq (g2 := F0 m 41 ls [.int 1]) rfl ?_
          refine lv_if_eq (tgt := 46) hx hb dX10_sow_41 (by decide) (fun c23 => False.elim (by revert c23; decide)) (fun _ => ?_)
          refine lv_iconst (v := 0) hx hb dX10_sow_44 (by decide) ?_
          rw [← hQ]
          exact end_i hX hB hA3 rfl rfl (by obtain ⟨rfl, rfl, rfl, rfl⟩ := pr4 hR; exact ⟨a, rfl, rfl, hm, rfl, rfl⟩) (Nat.le_of_ble_eq_true rfl) (Nat.le_of_ble_eq_true rfl) dX10_sow_45
        · replace hR := ifn c18 hR
          refine lv_iload_n hx hb dX10_sow_27 rfl (lv_at hl 3 rfl) ?_
          refine lv_bipush (v := 20) hx hb dX10_sow_28 (by decide) ?_
          refine lv_icmp_le (tgt := 37) hx hb dX10_sow_30 (by decide) (fun c24 => ?_) (fun c24 => ?_)
          · replace hR := ifp c24 hR
            refine lv_iconst (v := 0) hx hb dX10_sow_37 (by decide) ?_
            obtain ⟨x25, t26, hd27⟩ := ex2 (D_X10_isThrown_ (q 0) (q 1) (q 2) (q 3) 1 0)
            replace hR := bnd2_use hd27 hR
            refine call_V (n := 2) (k0 := 0) (As := [.int 1, .int 0]) (rest := []) hX hB (k_X10_isThrown_ κ l (mw κ a r f q (tb a) w) 0 (a 0) (a 1) (q 0) (q 1) (q 2) (q 3) 1 0 (mw0x (a := a) (r := r) (f := f) (q := q) (T := tb a) (w := w) rfl) x25 t26 hd27) ⟨rfl, yk_X10_isThrown_⟩ wm_5_192 wm_5_194 wp_27 wm_1_6 wm_5_195 ⟨Nat.le_of_ble_eq_true rfl, Nat.le_of_ble_eq_true rfl⟩ ⟨Nat.le_of_ble_eq_true rfl, Nat.le_of_ble_eq_true rfl⟩ (mw0x (a := a) (r := r) (f := f) (q := q) (T := tb a) (w := w) rfl) rfl rfl rfl hl.1 rfl (Nat.le_of_ble_eq_true rfl) dX10_sow_38 (fun o w' H locs hp hB => ?_)
            obtain ⟨rfl, hf28, hw9⟩ := hp
            replace hB : Bd κ A s (mw κ a r f (va_up q 3 t26) (tb a) w) H locs := by exact Bd_eq (mwQ3x rfl _) (by rw [hw9] at hB; exact hB)
            obtain rfl : x25 = 1 := hf28.trans (by decide)
            refine W.eq (g2 := F0 m 41 ls [.int 1]) rfl ?_
            refine lv_if_eq (tgt := 46) hx hb dX10_sow_41 (by decide) (fun c29 => False.elim (by revert c29; decide)) (fun _ => ?_)
            refine lv_iconst (v := 0) hx hb dX10_sow_44 (by decide) ?_
            rw [← hQ]
            exact end_i hX hB hA3 rfl rfl (by obtain ⟨rfl, rfl, rfl, rfl⟩ := pr4 hR; exact ⟨a, rfl, rfl, hm, rfl, rfl⟩) (Nat.le_of_ble_eq_true rfl) (Nat.le_of_ble_eq_true rfl) dX10_sow_45
          · replace hR := ifn c24 hR
            refine lv_iconst (v := 1) hx hb dX10_sow_33 (by decide) ?_
            refine lv_goto (tgt := 38) hx hb dX10_sow_34 (by decide) ?_
            obtain ⟨x30, t31, hd32⟩ := ex2 (D_X10_isThrown_ (q 0) (q 1) (q 2) (q 3) 1 1)
            replace hR := bnd2_use hd32 hR
            refine call_V (n := 2) (k0 := 0) (As := [.int 1, .int 1]) (rest := []) hX hB (k_X10_isThrown_ κ l (mw κ a r f q (tb a) w) 0 (a 0) (a 1) (q 0) (q 1) (q 2) (q 3) 1 1 (mw0x (a := a) (r := r) (f := f) (q := q) (T := tb a) (w := w) rfl) x30 t31 hd32) ⟨rfl, yk_X10_isThrown_⟩ wm_5_192 wm_5_194 wp_27 wm_1_6 wm_5_195 ⟨Nat.le_of_ble_eq_true rfl, Nat.le_of_ble_eq_true rfl⟩ ⟨Nat.le_of_ble_eq_true rfl, Nat.le_of_ble_eq_true rfl⟩ (mw0x (a := a) (r := r) (f := f) (q := q) (T := tb a) (w := w) rfl) rfl rfl rfl hl.1 rfl (Nat.le_of_ble_eq_true rfl) dX10_sow_38 (fun o w' H locs hp hB => ?_)
            obtain ⟨rfl, hf33, hw9⟩ := hp
            replace hB : Bd κ A s (mw κ a r f (va_up q 3 t31) (tb a) w) H locs := by exact Bd_eq (mwQ3x rfl _) (by rw [hw9] at hB; exact hB)
            obtain rfl : x30 = 1 := hf33.trans (by decide)
            refine W.eq (g2 := F0 m 41 ls [.int 1]) rfl ?_
            refine lv_if_eq (tgt := 46) hx hb dX10_sow_41 (by decide) (fun c34 => False.elim (by revert c34; decide)) (fun _ => ?_)
            refine lv_iconst (v := 0) hx hb dX10_sow_44 (by decide) ?_
            rw [← hQ]
            exact end_i hX hB hA3 rfl rfl (by obtain ⟨rfl, rfl, rfl, rfl⟩ := pr4 hR; exact ⟨a, rfl, rfl, hm, rfl, rfl⟩) (Nat.le_of_ble_eq_true rfl) (Nat.le_of_ble_eq_true rfl) dX10_sow_45
  · replace hR := ifn (by decide) hR
    refine W.eq (g2 := F0 m 5 ls [.int 1, .ref (a 0)]) rfl ?_
    refine lv_if_ne (tgt := 12) hx hb dX10_sow_5 (by decide) (fun _ => ?_) (fun c35 => False.elim (by revert c35; decide))
    refine lv_iconst (v := 0) hx hb dX10_sow_12 (by decide) ?_
    refine lv_iload_n hx hb dX10_sow_13 rfl (lv_at hl 2 rfl) ?_
    refine lv_if_lt (tgt := 33) hx hb dX10_sow_14 (by decide) (fun c36 => ?_) (fun c36 => ?_)
    · replace hR := ifp c36 hR
      refine lv_iconst (v := 1) hx hb dX10_sow_33 (by decide) ?_
      refine lv_goto (tgt := 38) hx hb dX10_sow_34 (by decide) ?_
      obtain ⟨x37, t38, hd39⟩ := ex2 (D_X10_isThrown_ (q 0) (q 1) (q 2) (q 3) 0 1)
      replace hR := bnd2_use hd39 hR
      refine call_V (n := 2) (k0 := 0) (As := [.int 0, .int 1]) (rest := []) hX hB (k_X10_isThrown_ κ l (mw κ a r f q (tb a) w) 0 (a 0) (a 1) (q 0) (q 1) (q 2) (q 3) 0 1 (mw0x (a := a) (r := r) (f := f) (q := q) (T := tb a) (w := w) rfl) x37 t38 hd39) ⟨rfl, yk_X10_isThrown_⟩ wm_5_192 wm_5_194 wp_27 wm_1_6 wm_5_195 ⟨Nat.le_of_ble_eq_true rfl, Nat.le_of_ble_eq_true rfl⟩ ⟨Nat.le_of_ble_eq_true rfl, Nat.le_of_ble_eq_true rfl⟩ (mw0x (a := a) (r := r) (f := f) (q := q) (T := tb a) (w := w) rfl) rfl rfl rfl hl.1 rfl (Nat.le_of_ble_eq_true rfl) dX10_sow_38 (fun o w' H locs hp hB => ?_)
      obtain ⟨rfl, hf40, hw9⟩ := hp
      replace hB : Bd κ A s (mw κ a r f (va_up q 3 t38) (tb a) w) H locs := by exact Bd_eq (mwQ3x rfl _) (by rw [hw9] at hB; exact hB)
      obtain rfl : x37 = 1 := hf40.trans (by decide)
      refine W.eq (g2 := F0 m 41 ls [.int 1]) rfl ?_
      refine lv_if_eq (tgt := 46) hx hb dX10_sow_41 (by decide) (fun c41 => False.elim (by revert c41; decide)) (fun _ => ?_)
      refine lv_iconst (v := 0) hx hb dX10_sow_44 (by decide) ?_
      rw [← hQ]
      exact end_i hX hB hA3 rfl rfl (by obtain ⟨rfl, rfl, rfl, rfl⟩ := pr4 hR; exact ⟨a, rfl, rfl, hm, rfl, rfl⟩) (Nat.le_of_ble_eq_true rfl) (Nat.le_of_ble_eq_true rfl) dX10_sow_45
    · replace hR := ifn c36 hR
      refine lv_iload_n hx hb dX10_sow_17 rfl (lv_at hl 2 rfl) ?_
      refine lv_ldc (own := RX10) (v := 65535) hx hb hX.1.2.2.2.1 (hX.1.2.2.2.2 _ wm_6_6) dX10_sow_18 ?_
      refine lv_icmp_gt (tgt := 33) hx hb dX10_sow_20 (by decide) (fun c42 => ?_) (fun c42 => ?_)
      · replace hR := ifp c42 hR
        refine lv_iconst (v := 1) hx hb dX10_sow_33 (by decide) ?_
        refine lv_goto (tgt := 38) hx hb dX10_sow_34 (by decide) ?_
        obtain ⟨x43, t44, hd45⟩ := ex2 (D_X10_isThrown_ (q 0) (q 1) (q 2) (q 3) 0 1)
        replace hR := bnd2_use hd45 hR
        refine call_V (n := 2) (k0 := 0) (As := [.int 0, .int 1]) (rest := []) hX hB (k_X10_isThrown_ κ l (mw κ a r f q (tb a) w) 0 (a 0) (a 1) (q 0) (q 1) (q 2) (q 3) 0 1 (mw0x (a := a) (r := r) (f := f) (q := q) (T := tb a) (w := w) rfl) x43 t44 hd45) ⟨rfl, yk_X10_isThrown_⟩ wm_5_192 wm_5_194 wp_27 wm_1_6 wm_5_195 ⟨Nat.le_of_ble_eq_true rfl, Nat.le_of_ble_eq_true rfl⟩ ⟨Nat.le_of_ble_eq_true rfl, Nat.le_of_ble_eq_true rfl⟩ (mw0x (a := a) (r := r) (f := f) (q := q) (T := tb a) (w := w) rfl) rfl rfl rfl hl.1 rfl (Nat.le_of_ble_eq_true rfl) dX10_sow_38 (fun o w' H locs hp hB => ?_)
        obtain ⟨rfl, hf46, hw9⟩ := hp
        replace hB : Bd κ A s (mw κ a r f (va_up q 3 t44) (tb a) w) H locs := by exact Bd_eq (mwQ3x rfl _) (by rw [hw9] at hB; exact hB)
        obtain rfl : x43 = 1 := hf46.trans (by decide)
        refine W.eq (g2 := F0 m 41 ls [.int 1]) rfl ?_
        refine lv_if_eq (tgt := 46) hx hb dX10_sow_41 (by decide) (fun c47 => False.elim (by revert c47; decide)) (fun _ => ?_)
        refine lv_iconst (v := 0) hx hb dX10_sow_44 (by decide) ?_
        rw [← hQ]
        exact end_i hX hB hA3 rfl rfl (by obtain ⟨rfl, rfl, rfl, rfl⟩ := pr4 hR; exact ⟨a, rfl, rfl, hm, rfl, rfl⟩) (Nat.le_of_ble_eq_true rfl) (Nat.le_of_ble_eq_true rfl) dX10_sow_45
      · replace hR := ifn c42 hR
        refine lv_iload_n hx hb dX10_sow_23 rfl (lv_at hl 3 rfl) ?_
        refine lv_if_lt (tgt := 33) hx hb dX10_sow_24 (by decide) (fun c48 => ?_) (fun c48 => ?_)
        · replace hR := ifp c48 hR
          refine lv_iconst (v := 1) hx hb dX10_sow_33 (by decide) ?_
          refine lv_goto (tgt := 38) hx hb dX10_sow_34 (by decide) ?_
          obtain ⟨x49, t50, hd51⟩ := ex2 (D_X10_isThrown_ (q 0) (q 1) (q 2) (q 3) 0 1)
          replace hR := bnd2_use hd51 hR
          refine call_V (n := 2) (k0 := 0) (As := [.int 0, .int 1]) (rest := []) hX hB (k_X10_isThrown_ κ l (mw κ a r f q (tb a) w) 0 (a 0) (a 1) (q 0) (q 1) (q 2) (q 3) 0 1 (mw0x (a := a) (r := r) (f := f) (q := q) (T := tb a) (w := w) rfl) x49 t50 hd51) ⟨rfl, yk_X10_isThrown_⟩ wm_5_192 wm_5_194 wp_27 wm_1_6 wm_5_195 ⟨Nat.le_of_ble_eq_true rfl, Nat.le_of_ble_eq_true rfl⟩ ⟨Nat.le_of_ble_eq_true rfl, Nat.le_of_ble_eq_true rfl⟩ (mw0x (a := a) (r := r) (f := f) (q := q) (T := tb a) (w := w) rfl) rfl rfl rfl hl.1 rfl (Nat.le_of_ble_eq_true rfl) dX10_sow_38 (fun o w' H locs hp hB => ?_)
          obtain ⟨rfl, hf52, hw9⟩ := hp
          replace hB : Bd κ A s (mw κ a r f (va_up q 3 t50) (tb a) w) H locs := by exact Bd_eq (mwQ3x rfl _) (by rw [hw9] at hB; exact hB)
          obtain rfl : x49 = 1 := hf52.trans (by decide)
          refine W.eq (g2 := F0 m 41 ls [.int 1]) rfl ?_
          refine lv_if_eq (tgt := 46) hx hb dX10_sow_41 (by decide) (fun c53 => False.elim (by revert c53; decide)) (fun _ => ?_)
          refine lv_iconst (v := 0) hx hb dX10_sow_44 (by decide) ?_
          rw [← hQ]
          exact end_i hX hB hA3 rfl rfl (by obtain ⟨rfl, rfl, rfl, rfl⟩ := pr4 hR; exact ⟨a, rfl, rfl, hm, rfl, rfl⟩) (Nat.le_of_ble_eq_true rfl) (Nat.le_of_ble_eq_true rfl) dX10_sow_45
        · replace hR := ifn c48 hR
          refine lv_iload_n hx hb dX10_sow_27 rfl (lv_at hl 3 rfl) ?_
          refine lv_bipush (v := 20) hx hb dX10_sow_28 (by decide) ?_
          refine lv_icmp_le (tgt := 37) hx hb dX10_sow_30 (by decide) (fun c54 => ?_) (fun c54 => ?_)
          · replace hR := ifp c54 hR
            refine lv_iconst (v := 0) hx hb dX10_sow_37 (by decide) ?_
            obtain ⟨x55, t56, hd57⟩ := ex2 (D_X10_isThrown_ (q 0) (q 1) (q 2) (q 3) 0 0)
            replace hR := bnd2_use hd57 hR
            refine call_V (n := 2) (k0 := 0) (As := [.int 0, .int 0]) (rest := []) hX hB (k_X10_isThrown_ κ l (mw κ a r f q (tb a) w) 0 (a 0) (a 1) (q 0) (q 1) (q 2) (q 3) 0 0 (mw0x (a := a) (r := r) (f := f) (q := q) (T := tb a) (w := w) rfl) x55 t56 hd57) ⟨rfl, yk_X10_isThrown_⟩ wm_5_192 wm_5_194 wp_27 wm_1_6 wm_5_195 ⟨Nat.le_of_ble_eq_true rfl, Nat.le_of_ble_eq_true rfl⟩ ⟨Nat.le_of_ble_eq_true rfl, Nat.le_of_ble_eq_true rfl⟩ (mw0x (a := a) (r := r) (f := f) (q := q) (T := tb a) (w := w) rfl) rfl rfl rfl hl.1 rfl (Nat.le_of_ble_eq_true rfl) dX10_sow_38 (fun o w' H locs hp hB => ?_)
            obtain ⟨rfl, hf58, hw9⟩ := hp
            replace hB : Bd κ A s (mw κ a r f (va_up q 3 t56) (tb a) w) H locs := by exact Bd_eq (mwQ3x rfl _) (by rw [hw9] at hB; exact hB)
            obtain rfl : x55 = 0 := hf58.trans (by decide)
            refine W.eq (g2 := F0 m 41 ls [.int 0]) rfl ?_
            refine lv_if_eq (tgt := 46) hx hb dX10_sow_41 (by decide) (fun _ => ?_) (fun c59 => False.elim (by revert c59; decide))
            refine lv_aload_n hx hb dX10_sow_46 rfl (lv_at hl 0 rfl) ?_
            refine gf (k0 := 0) hX hB (mw0x (a := a) (r := r) (f := f) (q := (va_up q 3 t56)) (T := tb a) (w := w) rfl) rfl in10 0 (by decide) wm_5_162 rfl rfl dX10_sow_47 ?_
            refine lv_iload_n hx hb dX10_sow_50 rfl (lv_at hl 1 rfl) ?_
            refine aaldM (k0 := 1) hX hB (mw1 (a := a) (r := r) (f := f) (q := (va_up q 3 t56)) (T := tb a) (w := w)) (vp_in_mk (by assumption) (by assumption)) rfl dX10_sow_51 ?_
            have hb60 := mok_r hm y.toNatClampNeg (by omega)
            refine lv_astore (lv' := [(4, .ref (a (2 + 2 * y.toNatClampNeg))), (0, .ref (a 0)), (1, .int y), (2, .int z), (3, .int v)]) hx hb dX10_sow_52 hl (by decide) rfl (fun ls hl => ?_)
            refine lv_iload_n hx hb dX10_sow_54 rfl (lv_at hl 3 rfl) ?_
            refine lv_i2l hx hb dX10_sow_55 rfl ?_
            refine lv_lstore (lv' := [(5, .long ((z).toInt64)), (4, .ref (a (2 + 2 * y.toNatClampNeg))), (0, .ref (a 0)), (1, .int y), (2, .int z), (3, .int v)]) hx hb dX10_sow_56 hl (by decide) rfl (fun ls hl => ?_)
            refine lv_iconst (v := 0) hx hb dX10_sow_58 (by decide) ?_
            refine lv_istore (lv' := [(7, .int 0), (5, .long ((z).toInt64)), (4, .ref (a (2 + 2 * y.toNatClampNeg))), (0, .ref (a 0)), (1, .int y), (2, .int z), (3, .int v)]) hx hb dX10_sow_59 hl (by decide) rfl (fun ls hl => ?_)
            have lp61 : ∀ (nn61 : Nat) (y7_61 : Nat) (y5_61 : Int64) (F_61 : Nat → Nat → Int64) (H : Heap) (locs : List Loc), (y7_61 ≤ (r (2 * y.toNatClampNeg))) → (0 ≤ (y5_61).toInt ∧ (y5_61).toInt < 65536) → (mok r F_61) → (r (2 * y.toNatClampNeg)) + 1 - y7_61 < nn61 → D_X10_sow_61 r q y v t56 nn61 y7_61 y5_61 F_61 = (o_x, o_r', o_f', o_q') → Bd κ A s (mw κ a r F_61 (va_up q 3 t56) (tb a) w) H locs → ∀ ls : Array Slot, lv_has ls 9 [(7, .int (nI y7_61)), (5, .long y5_61), (4, .ref (a (2 + 2 * y.toNatClampNeg))), (0, .ref (a 0)), (1, .int y), (2, .int z), (3, .int v)] → W p l e (Rm 2 45 0 0) s m args below meth c H locs (0) (0) Q (F0 m 61 ls []) := by
              intro nn61
              induction nn61 with
              | zero => intro y7_61 y5_61 F_61 H locs hn7_61 hx61 hk61 hμ; exact absurd hμ (Nat.not_lt_zero _)
              | succ nn61 ih61 =>
                intro y7_61 y5_61 F_61 H locs hn7_61 hx61 hk61 hμ61 hR hB ls hl
                replace hR := (D_X10_sow_61_s).symm.trans hR
                refine lv_iload hx hb dX10_sow_61 (lv_at hl 0 rfl) ?_
                refine lv_aload hx hb dX10_sow_63 (lv_at hl 2 rfl) ?_
                refine gf (k0 := 2 + 2 * y.toNatClampNeg) hX hB (mwG (i := y.toNatClampNeg) (a := a) (r := r) (f := F_61) (q := (va_up q 3 t56)) (T := tb a) (w := w) (by omega)) rfl in7 0 (by decide) wm_5_148 rfl rfl dX10_sow_65 ?_
                refine lv_icmp_ge (tgt := 137) hx hb dX10_sow_68 (by decide) (fun c73 => ?_) (fun c73 => ?_)
                · rw [nleP (a := r (2 * y.toNatClampNeg)) (b := y7_61) (by omega) (by omega)] at c73
                  replace hR := ifp c73 hR
                  refine lv_aload_n hx hb dX10_sow_137 rfl (lv_at hl 3 rfl) ?_
                  refine lv_aload hx hb dX10_sow_138 (lv_at hl 2 rfl) ?_
                  refine gf (k0 := 2 + 2 * y.toNatClampNeg) hX hB (mwG (i := y.toNatClampNeg) (a := a) (r := r) (f := F_61) (q := (va_up q 3 t56)) (T := tb a) (w := w) (by omega)) rfl in7 0 (by decide) wm_5_148 rfl rfl dX10_sow_140 ?_
                  refine lv_aload hx hb dX10_sow_143 (lv_at hl 2 rfl) ?_
                  refine gf (k0 := 2 + 2 * y.toNatClampNeg) hX hB (mwG (i := y.toNatClampNeg) (a := a) (r := r) (f := F_61) (q := (va_up q 3 t56)) (T := tb a) (w := w) (by omega)) rfl in7 1 (by decide) wm_5_152 rfl rfl dX10_sow_145 ?_
                  refine lv_imul hx hb dX10_sow_148 ?_
                  refine eqi (y := nI ((r (2 * y.toNatClampNeg)) * (r (2 * y.toNatClampNeg + 1)))) (nI_mul (r (2 * y.toNatClampNeg)) (r (2 * y.toNatClampNeg + 1))) ?_
                  refine lv_aload hx hb dX10_sow_149 (lv_at hl 2 rfl) ?_
                  obtain ⟨x74, hd75⟩ := ex1 (D_X7_others (r (2 * y.toNatClampNeg)) (r (2 * y.toNatClampNeg + 1)) (F_61 y.toNatClampNeg))
                  replace hR := bnd1_use hd75 hR
                  refine call_V (n := 0) (k0 := (2 + 2 * y.toNatClampNeg)) (As := []) (rest := [.int (nI ((r (2 * y.toNatClampNeg)) * (r (2 * y.toNatClampNeg + 1)))), .ref (a 0)]) hX hB (k_X7_others κ l (mw κ a r F_61 (va_up q 3 t56) (tb a) w) (2 + 2 * y.toNatClampNeg) (3 + 2 * y.toNatClampNeg) (a (2 + 2 * y.toNatClampNeg)) (a (3 + 2 * y.toNatClampNeg)) (r (2 * y.toNatClampNeg)) (r (2 * y.toNatClampNeg + 1)) (F_61 y.toNatClampNeg) (mwG (i := y.toNatClampNeg) (a := a) (r := r) (f := F_61) (q := (va_up q 3 t56)) (T := tb a) (w := w) (by omega)) (mwA (i := y.toNatClampNeg) (a := a) (r := r) (f := F_61) (q := (va_up q 3 t56)) (T := tb a) (w := w) (by omega)) (mok_shp (i := y.toNatClampNeg) hm (by omega)) x74 hd75) ⟨rfl, yk_X7_others⟩ wm_5_204 wm_5_205 wm_5_206 wm_1_7 wm_5_207 ⟨Nat.le_of_ble_eq_true rfl, Nat.le_of_ble_eq_true rfl⟩ ⟨Nat.le_of_ble_eq_true rfl, Nat.le_of_ble_eq_true rfl⟩ (mwG (i := y.toNatClampNeg) (a := a) (r := r) (f := F_61) (q := (va_up q 3 t56)) (T := tb a) (w := w) (by omega)) rfl rfl rfl hl.1 rfl (Nat.le_of_ble_eq_true rfl) dX10_sow_151 (fun o w' H locs hp hB => ?_)
                  obtain ⟨rfl, hw9⟩ := hp
                  replace hB : Bd κ A s (mw κ a r F_61 (va_up q 3 t56) (tb a) w) H locs := by rw [hw9] at hB; exact hB
                  refine W.eq (g2 := F0 m 154 ls [.int x74, .int (nI ((r (2 * y.toNatClampNeg)) * (r (2 * y.toNatClampNeg + 1)))), .ref (a 0)]) rfl ?_
                  refine lv_isub hx hb dX10_sow_154 ?_
                  refine call_V (n := 1) (k0 := 0) (As := [.int ((nI ((r (2 * y.toNatClampNeg)) * (r (2 * y.toNatClampNeg + 1)))) - x74)]) (rest := []) hX hB (k_X10_told κ l (mw κ a r F_61 (va_up q 3 t56) (tb a) w) 0 (a 0) (a 1) ((va_up q 3 t56) 0) ((va_up q 3 t56) 1) ((va_up q 3 t56) 2) ((va_up q 3 t56) 3) ((nI ((r (2 * y.toNatClampNeg)) * (r (2 * y.toNatClampNeg + 1)))) - x74) (mw0x (a := a) (r := r) (f := F_61) (q := (va_up q 3 t56)) (T := tb a) (w := w) rfl)) ⟨rfl, yk_X10_told⟩ wm_5_208 wm_5_210 wp_30 wm_1_6 wm_5_211 ⟨Nat.le_of_ble_eq_true rfl, Nat.le_of_ble_eq_true rfl⟩ ⟨Nat.le_of_ble_eq_true rfl, Nat.le_of_ble_eq_true rfl⟩ (mw0x (a := a) (r := r) (f := F_61) (q := (va_up q 3 t56)) (T := tb a) (w := w) rfl) rfl rfl rfl hl.1 rfl (Nat.le_of_ble_eq_true rfl) dX10_sow_155 (fun o w' H locs hp hB => ?_)
                  obtain ⟨rfl, hw9⟩ := hp
                  replace hB : Bd κ A s (mw κ a r F_61 (va_up (va_up q 3 t56) 0 (((va_up q 3 t56) 0) + 1)) (tb a) w) H locs := by exact Bd_eq (mwQ0x rfl _) (by rw [hw9] at hB; exact hB)
                  refine W.eq (g2 := F0 m 158 ls [.int ((nI ((r (2 * y.toNatClampNeg)) * (r (2 * y.toNatClampNeg + 1)))) - x74)]) rfl ?_
                  rw [← hQ]
                  exact end_i hX hB hA3 rfl rfl (by obtain ⟨rfl, rfl, rfl, rfl⟩ := pr4 hR; exact ⟨a, rfl, rfl, hk61, rfl, rfl⟩) (Nat.le_of_ble_eq_true rfl) (Nat.le_of_ble_eq_true rfl) dX10_sow_158
                · rw [nleP (a := r (2 * y.toNatClampNeg)) (b := y7_61) (by omega) (by omega)] at c73
                  replace hR := ifn c73 hR
                  refine lv_iconst (v := 0) hx hb dX10_sow_71 (by decide) ?_
                  refine lv_istore (lv' := [(8, .int 0), (7, .int (nI y7_61)), (5, .long y5_61), (4, .ref (a (2 + 2 * y.toNatClampNeg))), (0, .ref (a 0)), (1, .int y), (2, .int z), (3, .int v)]) hx hb dX10_sow_72 hl (by decide) rfl (fun ls hl => ?_)
                  have lp74 : ∀ (nn74 : Nat) (y8_74 : Nat) (y5_74 : Int64) (F_74 : Nat → Nat → Int64) (H : Heap) (locs : List Loc), (y8_74 ≤ (r (2 * y.toNatClampNeg + 1))) → (0 ≤ (y5_74).toInt ∧ (y5_74).toInt < 65536) → (mok r F_74) → (r (2 * y.toNatClampNeg + 1)) + 1 - y8_74 < nn74 → D_X10_sow_74 r y v (D_X10_sow_61 r q y v t56 nn61) y7_61 nn74 y8_74 y5_74 F_74 = (o_x, o_r', o_f', o_q') → Bd κ A s (mw κ a r F_74 (va_up q 3 t56) (tb a) w) H locs → ∀ ls : Array Slot, lv_has ls 9 [(8, .int (nI y8_74)), (7, .int (nI y7_61)), (5, .long y5_74), (4, .ref (a (2 + 2 * y.toNatClampNeg))), (0, .ref (a 0)), (1, .int y), (2, .int z), (3, .int v)] → W p l e (Rm 2 45 0 0) s m args below meth c H locs (0) (0) Q (F0 m 74 ls []) := by
                    intro nn74
                    induction nn74 with
                    | zero => intro y8_74 y5_74 F_74 H locs hn8_74 hx74 hk74 hμ; exact absurd hμ (Nat.not_lt_zero _)
                    | succ nn74 ih74 =>
                      intro y8_74 y5_74 F_74 H locs hn8_74 hx74 hk74 hμ74 hR hB ls hl
                      replace hR := (D_X10_sow_74_s).symm.trans hR
                      refine lv_iload hx hb dX10_sow_74 (lv_at hl 0 rfl) ?_
                      refine lv_aload hx hb dX10_sow_76 (lv_at hl 3 rfl) ?_
                      refine gf (k0 := 2 + 2 * y.toNatClampNeg) hX hB (mwG (i := y.toNatClampNeg) (a := a) (r := r) (f := F_74) (q := (va_up q 3 t56)) (T := tb a) (w := w) (by omega)) rfl in7 1 (by decide) wm_5_152 rfl rfl dX10_sow_78 ?_
                      refine lv_icmp_ge (tgt := 131) hx hb dX10_sow_81 (by decide) (fun c78 => ?_) (fun c78 => ?_)
                      · rw [nleP (a := r (2 * y.toNatClampNeg + 1)) (b := y8_74) (by omega) (by omega)] at c78
                        replace hR := ifp c78 hR
                        refine lv_iinc (v := nI (y7_61 + 1)) (lv' := [(7, .int (nI (y7_61 + 1))), (8, .int (nI y8_74)), (5, .long y5_74), (4, .ref (a (2 + 2 * y.toNatClampNeg))), (0, .ref (a 0)), (1, .int y), (2, .int z), (3, .int v)]) hx hb dX10_sow_131 hl (k := 1) rfl (nI_add y7_61 1) (by decide) rfl (fun ls hl => ?_)
                        refine lv_goto (tgt := 61) hx hb dX10_sow_134 (by decide) ?_
                        exact ih61 (y7_61 + 1) y5_74 F_74 _ _ (by omega) hx74 hk74 (by omega) hR hB _ (lv_sub hl [0, 2, 3, 4, 5, 6, 7] rfl)
                      · rw [nleP (a := r (2 * y.toNatClampNeg + 1)) (b := y8_74) (by omega) (by omega)] at c78
                        replace hR := ifn c78 hR
                        refine lv_lload hx hb dX10_sow_84 (lv_at hl 2 rfl) ?_
                        refine lv_ldc2 (own := RX10) (v := 25173) hx hb hX.1.2.2.2.1 (hX.1.2.2.2.2 _ wm_6_7) dX10_sow_86 ?_
                        refine lv_lmul hx hb dX10_sow_89 ?_
                        refine lv_ldc2 (own := RX10) (v := 13849) hx hb hX.1.2.2.2.1 (hX.1.2.2.2.2 _ wm_6_8) dX10_sow_90 ?_
                        refine lv_ladd hx hb dX10_sow_93 ?_
                        refine lv_ldc2 (own := RX10) (v := 65536) hx hb hX.1.2.2.2.1 (hX.1.2.2.2.2 _ wm_6_9) dX10_sow_94 ?_
                        refine lv_lrem hx hb dX10_sow_97 (by decide) ?_
                        refine lv_lstore (lv' := [(5, .long (((y5_74 * 25173) + 13849) - ((y5_74 * 25173) + 13849) / 65536 * 65536)), (8, .int (nI y8_74)), (7, .int (nI y7_61)), (4, .ref (a (2 + 2 * y.toNatClampNeg))), (0, .ref (a 0)), (1, .int y), (2, .int z), (3, .int v)]) hx hb dX10_sow_98 hl (by decide) rfl (fun ls hl => ?_)
                        refine lv_aload hx hb dX10_sow_100 (lv_at hl 3 rfl) ?_
                        refine lv_iload hx hb dX10_sow_102 (lv_at hl 2 rfl) ?_
                        refine lv_iload hx hb dX10_sow_104 (lv_at hl 1 rfl) ?_
                        refine lv_lload hx hb dX10_sow_106 (lv_at hl 0 rfl) ?_
                        refine lv_ldc2 (own := RX10) (v := 64) hx hb hX.1.2.2.2.1 (hX.1.2.2.2.2 _ wm_6_10) dX10_sow_108 ?_
                        refine lv_ldiv hx hb dX10_sow_111 (by decide) ?_
                        refine lv_iconst (v := 2) hx hb dX10_sow_112 (by decide) ?_
                        refine lv_iload_n hx hb dX10_sow_113 rfl (lv_at hl 7 rfl) ?_
                        refine lv_imul hx hb dX10_sow_114 ?_
                        refine lv_iconst (v := 1) hx hb dX10_sow_115 (by decide) ?_
                        refine lv_iadd hx hb dX10_sow_116 ?_
                        refine lv_i2l hx hb dX10_sow_117 rfl ?_
                        refine lv_lrem hx hb dX10_sow_118 (sow_nz (by assumption) (by assumption)) ?_
                        refine lv_iload_n hx hb dX10_sow_119 rfl (lv_at hl 7 rfl) ?_
                        refine lv_i2l hx hb dX10_sow_120 rfl ?_
                        refine lv_lsub hx hb dX10_sow_121 ?_
                        refine call_V (n := 3) (k0 := (2 + 2 * y.toNatClampNeg)) (As := [.int (nI y7_61), .int (nI y8_74), .long ((((((y5_74 * 25173) + 13849) - ((y5_74 * 25173) + 13849) / 65536 * 65536) / 64) - ((((y5_74 * 25173) + 13849) - ((y5_74 * 25173) + 13849) / 65536 * 65536) / 64) / ((((2 * v) + 1)).toInt64) * ((((2 * v) + 1)).toInt64)) - ((v).toInt64))]) (rest := []) hX hB (k_X7_put κ l (mw κ a r F_74 (va_up q 3 t56) (tb a) w) (2 + 2 * y.toNatClampNeg) (3 + 2 * y.toNatClampNeg) (a (2 + 2 * y.toNatClampNeg)) (a (3 + 2 * y.toNatClampNeg)) (r (2 * y.toNatClampNeg)) (r (2 * y.toNatClampNeg + 1)) (F_74 y.toNatClampNeg) (nI y7_61) y7_61 (nI y8_74) y8_74 ((((((y5_74 * 25173) + 13849) - ((y5_74 * 25173) + 13849) / 65536 * 65536) / 64) - ((((y5_74 * 25173) + 13849) - ((y5_74 * 25173) + 13849) / 65536 * 65536) / 64) / ((((2 * v) + 1)).toInt64) * ((((2 * v) + 1)).toInt64)) - ((v).toInt64)) (mwG (i := y.toNatClampNeg) (a := a) (r := r) (f := F_74) (q := (va_up q 3 t56)) (T := tb a) (w := w) (by omega)) (mwA (i := y.toNatClampNeg) (a := a) (r := r) (f := F_74) (q := (va_up q 3 t56)) (T := tb a) (w := w) (by omega)) (mok_shp (i := y.toNatClampNeg) hm (by omega)) rfl rfl (by omega)) ⟨rfl, yk_X7_put⟩ wm_6_1 wm_5_222 wm_5_223 wm_1_7 wm_5_224 ⟨Nat.le_of_ble_eq_true rfl, Nat.le_of_ble_eq_true rfl⟩ ⟨Nat.le_of_ble_eq_true rfl, Nat.le_of_ble_eq_true rfl⟩ (mwG (i := y.toNatClampNeg) (a := a) (r := r) (f := F_74) (q := (va_up q 3 t56)) (T := tb a) (w := w) (by omega)) rfl rfl rfl hl.1 rfl (Nat.le_of_ble_eq_true rfl) dX10_sow_122 (fun o w' H locs hp hB => ?_)
                        obtain ⟨rfl, hw9⟩ := hp
                        replace hB : Bd κ A s (mw κ a r (va_up F_74 y.toNatClampNeg (vp_updL (F_74 y.toNatClampNeg) (y7_61 * 5 + y8_74) ((((((y5_74 * 25173) + 13849) - ((y5_74 * 25173) + 13849) / 65536 * 65536) / 64) - ((((y5_74 * 25173) + 13849) - ((y5_74 * 25173) + 13849) / 65536 * 65536) / 64) / ((((2 * v) + 1)).toInt64) * ((((2 * v) + 1)).toInt64)) - ((v).toInt64)))) (va_up q 3 t56) (tb a) w) H locs := by exact Bd_eq (mwUL (i := y.toNatClampNeg) (by omega) _) (by rw [hw9] at hB; exact hB)
                        refine W.eq (g2 := F0 m 125 ls []) rfl ?_
                        refine lv_iinc (v := nI (y8_74 + 1)) (lv' := [(8, .int (nI (y8_74 + 1))), (5, .long (((y5_74 * 25173) + 13849) - ((y5_74 * 25173) + 13849) / 65536 * 65536)), (7, .int (nI y7_61)), (4, .ref (a (2 + 2 * y.toNatClampNeg))), (0, .ref (a 0)), (1, .int y), (2, .int z), (3, .int v)]) hx hb dX10_sow_125 hl (k := 1) rfl (nI_add y8_74 1) (by decide) rfl (fun ls hl => ?_)
                        refine lv_goto (tgt := 74) hx hb dX10_sow_128 (by decide) ?_
                        exact ih74 (y8_74 + 1) (((y5_74 * 25173) + 13849) - ((y5_74 * 25173) + 13849) / 65536 * 65536) (va_up F_74 y.toNatClampNeg (vp_updL (F_74 y.toNatClampNeg) (y7_61 * 5 + y8_74) ((((((y5_74 * 25173) + 13849) - ((y5_74 * 25173) + 13849) / 65536 * 65536) / 64) - ((((y5_74 * 25173) + 13849) - ((y5_74 * 25173) + 13849) / 65536 * 65536) / 64) / ((((2 * v) + 1)).toInt64) * ((((2 * v) + 1)).toInt64)) - ((v).toInt64)))) _ _ (by omega) (sow_x hx74) (mok_f hk74 (sm_upd (hk74 _ (by omega)).2 (sow_sm (by assumption) (by assumption) (div64 (sow_x hx74).1)))) (by omega) hR hB _ (lv_sub hl [0, 2, 1, 3, 4, 5, 6, 7] rfl)
                  exact lp74 _ 0 y5_61 F_61 _ _ (by omega) hx61 hk61 (Nat.lt_succ_self _) hR hB _ hl
            exact lp61 _ 0 ((z).toInt64) f _ _ (by omega) (seed_x (by assumption) (by assumption)) hm (Nat.lt_succ_self _) hR hB _ hl
          · replace hR := ifn c54 hR
            refine lv_iconst (v := 1) hx hb dX10_sow_33 (by decide) ?_
            refine lv_goto (tgt := 38) hx hb dX10_sow_34 (by decide) ?_
            obtain ⟨x79, t80, hd81⟩ := ex2 (D_X10_isThrown_ (q 0) (q 1) (q 2) (q 3) 0 1)
            replace hR := bnd2_use hd81 hR
            refine call_V (n := 2) (k0 := 0) (As := [.int 0, .int 1]) (rest := []) hX hB (k_X10_isThrown_ κ l (mw κ a r f q (tb a) w) 0 (a 0) (a 1) (q 0) (q 1) (q 2) (q 3) 0 1 (mw0x (a := a) (r := r) (f := f) (q := q) (T := tb a) (w := w) rfl) x79 t80 hd81) ⟨rfl, yk_X10_isThrown_⟩ wm_5_192 wm_5_194 wp_27 wm_1_6 wm_5_195 ⟨Nat.le_of_ble_eq_true rfl, Nat.le_of_ble_eq_true rfl⟩ ⟨Nat.le_of_ble_eq_true rfl, Nat.le_of_ble_eq_true rfl⟩ (mw0x (a := a) (r := r) (f := f) (q := q) (T := tb a) (w := w) rfl) rfl rfl rfl hl.1 rfl (Nat.le_of_ble_eq_true rfl) dX10_sow_38 (fun o w' H locs hp hB => ?_)
            obtain ⟨rfl, hf82, hw9⟩ := hp
            replace hB : Bd κ A s (mw κ a r f (va_up q 3 t80) (tb a) w) H locs := by exact Bd_eq (mwQ3x rfl _) (by rw [hw9] at hB; exact hB)
            obtain rfl : x79 = 1 := hf82.trans (by decide)
            refine W.eq (g2 := F0 m 41 ls [.int 1]) rfl ?_
            refine lv_if_eq (tgt := 46) hx hb dX10_sow_41 (by decide) (fun c83 => False.elim (by revert c83; decide)) (fun _ => ?_)
            refine lv_iconst (v := 0) hx hb dX10_sow_44 (by decide) ?_
            rw [← hQ]
            exact end_i hX hB hA3 rfl rfl (by obtain ⟨rfl, rfl, rfl, rfl⟩ := pr4 hR; exact ⟨a, rfl, rfl, hm, rfl, rfl⟩) (Nat.le_of_ble_eq_true rfl) (Nat.le_of_ble_eq_true rfl) dX10_sow_45
noncomputable def D_X10_sum_93 (r : Nat → Nat) (f : Nat → Nat → Int64) (q : Nat → Int32) (y : Int32) (z : Int32) (c0 : Int32) (u : Int32) (t35 : Int32) (nn : Nat) : Nat → (Nat → Int64) → Int32 × (Nat → Nat) × (Nat → Nat → Int64) × (Nat → Int32) := @Nat.rec (fun _ => Nat → (Nat → Int64) → Int32 × (Nat → Nat) × (Nat → Nat → Int64) × (Nat → Int32)) (fun _ _ => default) (fun _ lb93 (y8_93 : Nat) (fq44_93 : Nat → Int64) => (if ((r (2 * y.toNatClampNeg)) * 5) ≤ y8_93 then bnd4 (D_X10_become r f (va_up q 3 t35) u (r (2 * y.toNatClampNeg)) (r (2 * y.toNatClampNeg + 1)) fq44_93) (fun (x71 : Int32) (rn73 : Nat → Nat) (fn74 : Nat → Nat → Int64) (qn75 : Nat → Int32) => (x71, rn73, fn74, qn75)) else (if c0 = 0 then (lb93 (y8_93 + 1) (vp_updL fq44_93 y8_93 ((fq44_93 y8_93) + ((f z.toNatClampNeg) y8_93)))) else (lb93 (y8_93 + 1) (vp_updL fq44_93 y8_93 ((fq44_93 y8_93) + (-((f z.toNatClampNeg) y8_93)))))))) nn
theorem D_X10_sum_93_s {r : Nat → Nat} {f : Nat → Nat → Int64} {q : Nat → Int32} {y : Int32} {z : Int32} {c0 : Int32} {u : Int32} {t35 : Int32} {nn : Nat} {y8_93 : Nat} {fq44_93 : Nat → Int64} : D_X10_sum_93 r f q y z c0 u t35 (nn + 1) y8_93 fq44_93 = (if ((r (2 * y.toNatClampNeg)) * 5) ≤ y8_93 then bnd4 (D_X10_become r f (va_up q 3 t35) u (r (2 * y.toNatClampNeg)) (r (2 * y.toNatClampNeg + 1)) fq44_93) (fun (x71 : Int32) (rn73 : Nat → Nat) (fn74 : Nat → Nat → Int64) (qn75 : Nat → Int32) => (x71, rn73, fn74, qn75)) else (if c0 = 0 then ((D_X10_sum_93 r f q y z c0 u t35 nn) (y8_93 + 1) (vp_updL fq44_93 y8_93 ((fq44_93 y8_93) + ((f z.toNatClampNeg) y8_93)))) else ((D_X10_sum_93 r f q y z c0 u t35 nn) (y8_93 + 1) (vp_updL fq44_93 y8_93 ((fq44_93 y8_93) + (-((f z.toNatClampNeg) y8_93))))))) := rfl
noncomputable def D_X10_sum (r : Nat → Nat) (f : Nat → Nat → Int64) (q : Nat → Int32) (y : Int32) (z : Int32) (c0 : Int32) (u : Int32) : Int32 × (Nat → Nat) × (Nat → Nat → Int64) × (Nat → Int32) := bnd1 (D_X10_isTable y) (fun (z1 : Int32) => (if z1 = 0 then bnd2 (D_X10_isThrown__ (q 0) (q 1) (q 2) (q 3) 1) (fun (x6 : Int32) (t7 : Int32) => (0, r, f, va_up q 3 t7)) else bnd1 (D_X10_isTable z) (fun (z12 : Int32) => (if z12 = 0 then bnd2 (D_X10_isThrown__ (q 0) (q 1) (q 2) (q 3) 1) (fun (x17 : Int32) (t18 : Int32) => (0, r, f, va_up q 3 t18)) else bnd1 (D_X10_isTable u) (fun (z23 : Int32) => (if z23 = 0 then bnd2 (D_X10_isThrown__ (q 0) (q 1) (q 2) (q 3) 1) (fun (x28 : Int32) (t29 : Int32) => (0, r, f, va_up q 3 t29)) else bnd2 (D_X10_isThrown__ (q 0) (q 1) (q 2) (q 3) 0) (fun (x34 : Int32) (t35 : Int32) => (if (r (2 * y.toNatClampNeg)) = (r (2 * z.toNatClampNeg)) then (if (r (2 * y.toNatClampNeg + 1)) = (r (2 * z.toNatClampNeg + 1)) then bnd1 (D_X7_copy (r (2 * y.toNatClampNeg)) (r (2 * y.toNatClampNeg + 1)) (f y.toNatClampNeg)) (fun (F45 : Nat → Int64) => (D_X10_sum_93 r f q y z c0 u t35 (((r (2 * y.toNatClampNeg)) * 5) + 1 - 0 + 1) 0 F45)) else (-9, r, f, va_up (va_up q 3 t35) 1 (((va_up q 3 t35) 1) + 1))) else (-9, r, f, va_up (va_up q 3 t35) 1 (((va_up q 3 t35) 1) + 1))))))))))
theorem D_X10_sum_s {r : Nat → Nat} {f : Nat → Nat → Int64} {q : Nat → Int32} {y : Int32} {z : Int32} {c0 : Int32} {u : Int32} : D_X10_sum r f q y z c0 u = bnd1 (D_X10_isTable y) (fun (z1 : Int32) => (if z1 = 0 then bnd2 (D_X10_isThrown__ (q 0) (q 1) (q 2) (q 3) 1) (fun (x6 : Int32) (t7 : Int32) => (0, r, f, va_up q 3 t7)) else bnd1 (D_X10_isTable z) (fun (z12 : Int32) => (if z12 = 0 then bnd2 (D_X10_isThrown__ (q 0) (q 1) (q 2) (q 3) 1) (fun (x17 : Int32) (t18 : Int32) => (0, r, f, va_up q 3 t18)) else bnd1 (D_X10_isTable u) (fun (z23 : Int32) => (if z23 = 0 then bnd2 (D_X10_isThrown__ (q 0) (q 1) (q 2) (q 3) 1) (fun (x28 : Int32) (t29 : Int32) => (0, r, f, va_up q 3 t29)) else bnd2 (D_X10_isThrown__ (q 0) (q 1) (q 2) (q 3) 0) (fun (x34 : Int32) (t35 : Int32) => (if (r (2 * y.toNatClampNeg)) = (r (2 * z.toNatClampNeg)) then (if (r (2 * y.toNatClampNeg + 1)) = (r (2 * z.toNatClampNeg + 1)) then bnd1 (D_X7_copy (r (2 * y.toNatClampNeg)) (r (2 * y.toNatClampNeg + 1)) (f y.toNatClampNeg)) (fun (F45 : Nat → Int64) => (D_X10_sum_93 r f q y z c0 u t35 (((r (2 * y.toNatClampNeg)) * 5) + 1 - 0 + 1) 0 F45)) else (-9, r, f, va_up (va_up q 3 t35) 1 (((va_up q 3 t35) 1) + 1))) else (-9, r, f, va_up (va_up q 3 t35) 1 (((va_up q 3 t35) 1) + 1)))))))))) := rfl
set_option maxHeartbeats 4000000 in
set_option maxRecDepth 100000 in
theorem k_X10_sum (κ : Kt) (l : Launch) (w : va_W) (a r : Nat → Nat) (f : Nat → Nat → Int64) (q : Nat → Int32) (y : Int32) (z : Int32) (c0 : Int32) (u : Int32) (hm : mok r f) (o_x : Int32) (o_r' : Nat → Nat) (o_f' : Nat → Nat → Int64) (o_q' : Nat → Int32) (hR : D_X10_sum r f q y z c0 u = (o_x, o_r', o_f', o_q')) : CM κ l yX10_sum cX10_sum 9 (some .int) 3 64 2 23 [.ref (a 0), .int y, .int z, .int c0, .int u] (mw κ a r f q (tb a) w) (fun o w' => ∃ (a' : Nat → Nat), o = some (.int o_x) ∧ (a' 0 = a 0) ∧ (mok o_r' o_f') ∧ (o_q' 2 = q 2) ∧ w' = mw κ a' o_r' o_f' o_q' (tb a') w) := by
  refine CM_begin (plainFor_of_name pn_RX10) (Nat.le_of_ble_eq_true rfl) ?_
  intro p e s m args below meth c A Q hX hnm hA3 hQ hB ls hl
  have hx := hX.1.1
  have hb := hX.1.2.1
  have hl : lv_has ls 9 [(0, .ref (a 0)), (1, .int y), (2, .int z), (3, .int c0), (4, .int u)] := hl
  replace hR := (D_X10_sum_s).symm.trans hR
  refine lv_aload_n hx hb dX10_sum_0 rfl (lv_at hl 0 rfl) ?_
  refine lv_iload_n hx hb dX10_sum_1 rfl (lv_at hl 1 rfl) ?_
  obtain ⟨z1, hd2⟩ := ex1 (D_X10_isTable y)
  replace hR := bnd1_use hd2 hR
  refine call_S (n := 1) (As := [.int y]) (rest := [.ref (a 0)]) hX hB (k_X10_isTable κ l (mw κ a r f q (tb a) w) y z1 hd2) yk_X10_isTable wm_5_186 wm_5_187 wm_1_6 wm_5_188 ⟨Nat.le_of_ble_eq_true rfl, Nat.le_of_ble_eq_true rfl⟩ ⟨Nat.le_of_ble_eq_true rfl, Nat.le_of_ble_eq_true rfl⟩ rfl hl.1 rfl (Nat.le_of_ble_eq_true rfl) dX10_sum_2 (fun o w' H locs hp hB => ?_)
  obtain ⟨rfl, hf3, hw9⟩ := hp
  replace hB : Bd κ A s (mw κ a r f q (tb a) w) H locs := by rw [hw9] at hB; exact hB
  rcases hf3 with rfl | ⟨rfl, hz4a, hz4b⟩
  · replace hR := ifp rfl hR
    refine W.eq (g2 := F0 m 5 ls [.int 0, .ref (a 0)]) rfl ?_
    refine lv_if_eq (tgt := 23) hx hb dX10_sum_5 (by decide) (fun _ => ?_) (fun c5 => False.elim (by revert c5; decide))
    refine lv_iconst (v := 1) hx hb dX10_sum_23 (by decide) ?_
    refine lv_goto (tgt := 28) hx hb dX10_sum_24 (by decide) ?_
    obtain ⟨x6, t7, hd8⟩ := ex2 (D_X10_isThrown__ (q 0) (q 1) (q 2) (q 3) 1)
    replace hR := bnd2_use hd8 hR
    refine call_V (n := 1) (k0 := 0) (As := [.int 1]) (rest := []) hX hB (k_X10_isThrown__ κ l (mw κ a r f q (tb a) w) 0 (a 0) (a 1) (q 0) (q 1) (q 2) (q 3) 1 (mw0x (a := a) (r := r) (f := f) (q := q) (T := tb a) (w := w) rfl) x6 t7 hd8) ⟨rfl, yk_X10_isThrown__⟩ wm_6_15 wm_6_17 wp_33 wm_1_6 wm_6_18 ⟨Nat.le_of_ble_eq_true rfl, Nat.le_of_ble_eq_true rfl⟩ ⟨Nat.le_of_ble_eq_true rfl, Nat.le_of_ble_eq_true rfl⟩ (mw0x (a := a) (r := r) (f := f) (q := q) (T := tb a) (w := w) rfl) rfl rfl rfl hl.1 rfl (Nat.le_of_ble_eq_true rfl) dX10_sum_28 (fun o w' H locs hp hB => ?_)
    obtain ⟨rfl, hf9, hw9⟩ := hp
    replace hB : Bd κ A s (mw κ a r f (va_up q 3 t7) (tb a) w) H locs := by exact Bd_eq (mwQ3x rfl _) (by rw [hw9] at hB; exact hB)
    obtain rfl : x6 = 1 := hf9.trans (by decide)
    refine W.eq (g2 := F0 m 31 ls [.int 1]) rfl ?_
    refine lv_if_eq (tgt := 36) hx hb dX10_sum_31 (by decide) (fun c10 => False.elim (by revert c10; decide)) (fun _ => ?_)
    refine lv_iconst (v := 0) hx hb dX10_sum_34 (by decide) ?_
    rw [← hQ]
    exact end_i hX hB hA3 rfl rfl (by obtain ⟨rfl, rfl, rfl, rfl⟩ := pr4 hR; exact ⟨a, rfl, rfl, hm, rfl, rfl⟩) (Nat.le_of_ble_eq_true rfl) (Nat.le_of_ble_eq_true rfl) dX10_sum_35
  · replace hR := ifn (by decide) hR
    refine W.eq (g2 := F0 m 5 ls [.int 1, .ref (a 0)]) rfl ?_
    refine lv_if_eq (tgt := 23) hx hb dX10_sum_5 (by decide) (fun c11 => False.elim (by revert c11; decide)) (fun _ => ?_)
    refine lv_iload_n hx hb dX10_sum_8 rfl (lv_at hl 2 rfl) ?_
    obtain ⟨z12, hd13⟩ := ex1 (D_X10_isTable z)
    replace hR := bnd1_use hd13 hR
    refine call_S (n := 1) (As := [.int z]) (rest := [.ref (a 0)]) hX hB (k_X10_isTable κ l (mw κ a r f q (tb a) w) z z12 hd13) yk_X10_isTable wm_5_186 wm_5_187 wm_1_6 wm_5_188 ⟨Nat.le_of_ble_eq_true rfl, Nat.le_of_ble_eq_true rfl⟩ ⟨Nat.le_of_ble_eq_true rfl, Nat.le_of_ble_eq_true rfl⟩ rfl hl.1 rfl (Nat.le_of_ble_eq_true rfl) dX10_sum_9 (fun o w' H locs hp hB => ?_)
    obtain ⟨rfl, hf14, hw9⟩ := hp
    replace hB : Bd κ A s (mw κ a r f q (tb a) w) H locs := by rw [hw9] at hB; exact hB
    rcases hf14 with rfl | ⟨rfl, hz15a, hz15b⟩
    · replace hR := ifp rfl hR
      refine W.eq (g2 := F0 m 12 ls [.int 0, .ref (a 0)]) rfl ?_
      refine lv_if_eq (tgt := 23) hx hb dX10_sum_12 (by decide) (fun _ => ?_) (fun c16 => False.elim (by revert c16; decide))
      refine lv_iconst (v := 1) hx hb dX10_sum_23 (by decide) ?_
      refine lv_goto (tgt := 28) hx hb dX10_sum_24 (by decide) ?_
      obtain ⟨x17, t18, hd19⟩ := ex2 (D_X10_isThrown__ (q 0) (q 1) (q 2) (q 3) 1)
      replace hR := bnd2_use hd19 hR
      refine call_V (n := 1) (k0 := 0) (As := [.int 1]) (rest := []) hX hB (k_X10_isThrown__ κ l (mw κ a r f q (tb a) w) 0 (a 0) (a 1) (q 0) (q 1) (q 2) (q 3) 1 (mw0x (a := a) (r := r) (f := f) (q := q) (T := tb a) (w := w) rfl) x17 t18 hd19) ⟨rfl, yk_X10_isThrown__⟩ wm_6_15 wm_6_17 wp_33 wm_1_6 wm_6_18 ⟨Nat.le_of_ble_eq_true rfl, Nat.le_of_ble_eq_true rfl⟩ ⟨Nat.le_of_ble_eq_true rfl, Nat.le_of_ble_eq_true rfl⟩ (mw0x (a := a) (r := r) (f := f) (q := q) (T := tb a) (w := w) rfl) rfl rfl rfl hl.1 rfl (Nat.le_of_ble_eq_true rfl) dX10_sum_28 (fun o w' H locs hp hB => ?_)
      obtain ⟨rfl, hf20, hw9⟩ := hp
      replace hB : Bd κ A s (mw κ a r f (va_up q 3 t18) (tb a) w) H locs := by exact Bd_eq (mwQ3x rfl _) (by rw [hw9] at hB; exact hB)
      obtain rfl : x17 = 1 := hf20.trans (by decide)
      refine W.eq (g2 := F0 m 31 ls [.int 1]) rfl ?_
      refine lv_if_eq (tgt := 36) hx hb dX10_sum_31 (by decide) (fun c21 => False.elim (by revert c21; decide)) (fun _ => ?_)
      refine lv_iconst (v := 0) hx hb dX10_sum_34 (by decide) ?_
      rw [← hQ]
      exact end_i hX hB hA3 rfl rfl (by obtain ⟨rfl, rfl, rfl, rfl⟩ := pr4 hR; exact ⟨a, rfl, rfl, hm, rfl, rfl⟩) (Nat.le_of_ble_eq_true rfl) (Nat.le_of_ble_eq_true rfl) dX10_sum_35
    · replace hR := ifn (by decide) hR
      refine W.eq (g2 := F0 m 12 ls [.int 1, .ref (a 0)]) rfl ?_
      refine lv_if_eq (tgt := 23) hx hb dX10_sum_12 (by decide) (fun c22 => False.elim (by revert c22; decide)) (fun _ => ?_)
      refine lv_iload hx hb dX10_sum_15 (lv_at hl 4 rfl) ?_
      obtain ⟨z23, hd24⟩ := ex1 (D_X10_isTable u)
      replace hR := bnd1_use hd24 hR
      refine call_S (n := 1) (As := [.int u]) (rest := [.ref (a 0)]) hX hB (k_X10_isTable κ l (mw κ a r f q (tb a) w) u z23 hd24) yk_X10_isTable wm_5_186 wm_5_187 wm_1_6 wm_5_188 ⟨Nat.le_of_ble_eq_true rfl, Nat.le_of_ble_eq_true rfl⟩ ⟨Nat.le_of_ble_eq_true rfl, Nat.le_of_ble_eq_true rfl⟩ rfl hl.1 rfl (Nat.le_of_ble_eq_true rfl) dX10_sum_17 (fun o w' H locs hp hB => ?_)
      obtain ⟨rfl, hf25, hw9⟩ := hp
      replace hB : Bd κ A s (mw κ a r f q (tb a) w) H locs := by rw [hw9] at hB; exact hB
      rcases hf25 with rfl | ⟨rfl, hz26a, hz26b⟩
      · replace hR := ifp rfl hR
        refine W.eq (g2 := F0 m 20 ls [.int 0, .ref (a 0)]) rfl ?_
        refine lv_if_ne (tgt := 27) hx hb dX10_sum_20 (by decide) (fun c27 => False.elim (by revert c27; decide)) (fun _ => ?_)
        refine lv_iconst (v := 1) hx hb dX10_sum_23 (by decide) ?_
        refine lv_goto (tgt := 28) hx hb dX10_sum_24 (by decide) ?_
        obtain ⟨x28, t29, hd30⟩ := ex2 (D_X10_isThrown__ (q 0) (q 1) (q 2) (q 3) 1)
        replace hR := bnd2_use hd30 hR
        refine call_V (n := 1) (k0 := 0) (As := [.int 1]) (rest := []) hX hB (k_X10_isThrown__ κ l (mw κ a r f q (tb a) w) 0 (a 0) (a 1) (q 0) (q 1) (q 2) (q 3) 1 (mw0x (a := a) (r := r) (f := f) (q := q) (T := tb a) (w := w) rfl) x28 t29 hd30) ⟨rfl, yk_X10_isThrown__⟩ wm_6_15 wm_6_17 wp_33 wm_1_6 wm_6_18 ⟨Nat.le_of_ble_eq_true rfl, Nat.le_of_ble_eq_true rfl⟩ ⟨Nat.le_of_ble_eq_true rfl, Nat.le_of_ble_eq_true rfl⟩ (mw0x (a := a) (r := r) (f := f) (q := q) (T := tb a) (w := w) rfl) rfl rfl rfl hl.1 rfl (Nat.le_of_ble_eq_true rfl) dX10_sum_28 (fun o w' H locs hp hB => ?_)
        obtain ⟨rfl, hf31, hw9⟩ := hp
        replace hB : Bd κ A s (mw κ a r f (va_up q 3 t29) (tb a) w) H locs := by exact Bd_eq (mwQ3x rfl _) (by rw [hw9] at hB; exact hB)
        obtain rfl : x28 = 1 := hf31.trans (by decide)
        refine W.eq (g2 := F0 m 31 ls [.int 1]) rfl ?_
        refine lv_if_eq (tgt := 36) hx hb dX10_sum_31 (by decide) (fun c32 => False.elim (by revert c32; decide)) (fun _ => ?_)
        refine lv_iconst (v := 0) hx hb dX10_sum_34 (by decide) ?_
        rw [← hQ]
        exact end_i hX hB hA3 rfl rfl (by obtain ⟨rfl, rfl, rfl, rfl⟩ := pr4 hR; exact ⟨a, rfl, rfl, hm, rfl, rfl⟩) (Nat.le_of_ble_eq_true rfl) (Nat.le_of_ble_eq_true rfl) dX10_sum_35
      · replace hR := ifn (by decide) hR
        refine W.eq (g2 := F0 m 20 ls [.int 1, .ref (a 0)]) rfl ?_
        refine lv_if_ne (tgt := 27) hx hb dX10_sum_20 (by decide) (fun _ => ?_) (fun c33 => False.elim (by revert c33; decide))
        refine lv_iconst (v := 0) hx hb dX10_sum_27 (by decide) ?_
        obtain ⟨x34, t35, hd36⟩ := ex2 (D_X10_isThrown__ (q 0) (q 1) (q 2) (q 3) 0)
        replace hR := bnd2_use hd36 hR
        refine call_V (n := 1) (k0 := 0) (As := [.int 0]) (rest := []) hX hB (k_X10_isThrown__ κ l (mw κ a r f q (tb a) w) 0 (a 0) (a 1) (q 0) (q 1) (q 2) (q 3) 0 (mw0x (a := a) (r := r) (f := f) (q := q) (T := tb a) (w := w) rfl) x34 t35 hd36) ⟨rfl, yk_X10_isThrown__⟩ wm_6_15 wm_6_17 wp_33 wm_1_6 wm_6_18 ⟨Nat.le_of_ble_eq_true rfl, Nat.le_of_ble_eq_true rfl⟩ ⟨Nat.le_of_ble_eq_true rfl, Nat.le_of_ble_eq_true rfl⟩ (mw0x (a := a) (r := r) (f := f) (q := q) (T := tb a) (w := w) rfl) rfl rfl rfl hl.1 rfl (Nat.le_of_ble_eq_true rfl) dX10_sum_28 (fun o w' H locs hp hB => ?_)
        obtain ⟨rfl, hf37, hw9⟩ := hp
        replace hB : Bd κ A s (mw κ a r f (va_up q 3 t35) (tb a) w) H locs := by exact Bd_eq (mwQ3x rfl _) (by rw [hw9] at hB; exact hB)
        obtain rfl : x34 = 0 := hf37.trans (by decide)
        refine W.eq (g2 := F0 m 31 ls [.int 0]) rfl ?_
        refine lv_if_eq (tgt := 36) hx hb dX10_sum_31 (by decide) (fun _ => ?_) (fun c38 => False.elim (by revert c38; decide))
        refine lv_aload_n hx hb dX10_sum_36 rfl (lv_at hl 0 rfl) ?_
        refine gf (k0 := 0) hX hB (mw0x (a := a) (r := r) (f := f) (q := (va_up q 3 t35)) (T := tb a) (w := w) rfl) rfl in10 0 (by decide) wm_5_162 rfl rfl dX10_sum_37 ?_
        refine lv_iload_n hx hb dX10_sum_40 rfl (lv_at hl 1 rfl) ?_
        refine aaldM (k0 := 1) hX hB (mw1 (a := a) (r := r) (f := f) (q := (va_up q 3 t35)) (T := tb a) (w := w)) (vp_in_mk (by assumption) (by assumption)) rfl dX10_sum_41 ?_
        have hb39 := mok_r hm y.toNatClampNeg (by omega)
        refine lv_astore (lv' := [(5, .ref (a (2 + 2 * y.toNatClampNeg))), (0, .ref (a 0)), (1, .int y), (2, .int z), (3, .int c0), (4, .int u)]) hx hb dX10_sum_42 hl (by decide) rfl (fun ls hl => ?_)
        refine lv_aload_n hx hb dX10_sum_44 rfl (lv_at hl 1 rfl) ?_
        refine gf (k0 := 0) hX hB (mw0x (a := a) (r := r) (f := f) (q := (va_up q 3 t35)) (T := tb a) (w := w) rfl) rfl in10 0 (by decide) wm_5_162 rfl rfl dX10_sum_45 ?_
        refine lv_iload_n hx hb dX10_sum_48 rfl (lv_at hl 3 rfl) ?_
        refine aaldM (k0 := 1) hX hB (mw1 (a := a) (r := r) (f := f) (q := (va_up q 3 t35)) (T := tb a) (w := w)) (vp_in_mk (by assumption) (by assumption)) rfl dX10_sum_49 ?_
        have hb40 := mok_r hm z.toNatClampNeg (by omega)
        refine lv_astore (lv' := [(6, .ref (a (2 + 2 * z.toNatClampNeg))), (5, .ref (a (2 + 2 * y.toNatClampNeg))), (0, .ref (a 0)), (1, .int y), (2, .int z), (3, .int c0), (4, .int u)]) hx hb dX10_sum_50 hl (by decide) rfl (fun ls hl => ?_)
        refine lv_aload hx hb dX10_sum_52 (lv_at hl 1 rfl) ?_
        refine gf (k0 := 2 + 2 * y.toNatClampNeg) hX hB (mwG (i := y.toNatClampNeg) (a := a) (r := r) (f := f) (q := (va_up q 3 t35)) (T := tb a) (w := w) (by omega)) rfl in7 0 (by decide) wm_5_148 rfl rfl dX10_sum_54 ?_
        refine lv_aload hx hb dX10_sum_57 (lv_at hl 0 rfl) ?_
        refine gf (k0 := 2 + 2 * z.toNatClampNeg) hX hB (mwG (i := z.toNatClampNeg) (a := a) (r := r) (f := f) (q := (va_up q 3 t35)) (T := tb a) (w := w) (by omega)) rfl in7 0 (by decide) wm_5_148 rfl rfl dX10_sum_59 ?_
        refine lv_icmp_ne (tgt := 78) hx hb dX10_sum_62 (by decide) (fun c41 => ?_) (fun c41 => ?_)
        · rw [neqP (a := r (2 * y.toNatClampNeg)) (b := r (2 * z.toNatClampNeg)) (by omega) (by omega)] at c41
          replace hR := ifn c41 hR
          refine lv_aload_n hx hb dX10_sum_78 rfl (lv_at hl 2 rfl) ?_
          refine call_V (n := 0) (k0 := 0) (As := []) (rest := []) hX hB (k_X10_no κ l (mw κ a r f (va_up q 3 t35) (tb a) w) 0 (a 0) (a 1) ((va_up q 3 t35) 0) ((va_up q 3 t35) 1) ((va_up q 3 t35) 2) ((va_up q 3 t35) 3) (mw0x (a := a) (r := r) (f := f) (q := (va_up q 3 t35)) (T := tb a) (w := w) rfl)) ⟨rfl, yk_X10_no⟩ wm_6_89 wm_6_91 wp_36 wm_1_6 wm_6_92 ⟨Nat.le_of_ble_eq_true rfl, Nat.le_of_ble_eq_true rfl⟩ ⟨Nat.le_of_ble_eq_true rfl, Nat.le_of_ble_eq_true rfl⟩ (mw0x (a := a) (r := r) (f := f) (q := (va_up q 3 t35)) (T := tb a) (w := w) rfl) rfl rfl rfl hl.1 rfl (Nat.le_of_ble_eq_true rfl) dX10_sum_79 (fun o w' H locs hp hB => ?_)
          obtain ⟨rfl, hw9⟩ := hp
          replace hB : Bd κ A s (mw κ a r f (va_up (va_up q 3 t35) 1 (((va_up q 3 t35) 1) + 1)) (tb a) w) H locs := by exact Bd_eq (mwQ1x rfl _) (by rw [hw9] at hB; exact hB)
          refine W.eq (g2 := F0 m 82 ls [.int (-9)]) rfl ?_
          rw [← hQ]
          exact end_i hX hB hA3 rfl rfl (by obtain ⟨rfl, rfl, rfl, rfl⟩ := pr4 hR; exact ⟨a, rfl, rfl, hm, rfl, rfl⟩) (Nat.le_of_ble_eq_true rfl) (Nat.le_of_ble_eq_true rfl) dX10_sum_82
        · rw [neqP (a := r (2 * y.toNatClampNeg)) (b := r (2 * z.toNatClampNeg)) (by omega) (by omega)] at c41
          replace hR := ifp c41 hR
          refine lv_aload hx hb dX10_sum_65 (lv_at hl 1 rfl) ?_
          refine gf (k0 := 2 + 2 * y.toNatClampNeg) hX hB (mwG (i := y.toNatClampNeg) (a := a) (r := r) (f := f) (q := (va_up q 3 t35)) (T := tb a) (w := w) (by omega)) rfl in7 1 (by decide) wm_5_152 rfl rfl dX10_sum_67 ?_
          refine lv_aload hx hb dX10_sum_70 (lv_at hl 0 rfl) ?_
          refine gf (k0 := 2 + 2 * z.toNatClampNeg) hX hB (mwG (i := z.toNatClampNeg) (a := a) (r := r) (f := f) (q := (va_up q 3 t35)) (T := tb a) (w := w) (by omega)) rfl in7 1 (by decide) wm_5_152 rfl rfl dX10_sum_72 ?_
          refine lv_icmp_eq (tgt := 83) hx hb dX10_sum_75 (by decide) (fun c42 => ?_) (fun c42 => ?_)
          · rw [neqP (a := r (2 * y.toNatClampNeg + 1)) (b := r (2 * z.toNatClampNeg + 1)) (by omega) (by omega)] at c42
            replace hR := ifp c42 hR
            refine lv_aload hx hb dX10_sum_83 (lv_at hl 1 rfl) ?_
            obtain ⟨F45, hd46⟩ := ex1 (D_X7_copy (r (2 * y.toNatClampNeg)) (r (2 * y.toNatClampNeg + 1)) (f y.toNatClampNeg))
            replace hR := bnd1_use hd46 hR
            refine call_V (n := 0) (k0 := (2 + 2 * y.toNatClampNeg)) (As := []) (rest := []) hX hB (k_X7_copy κ l (mw κ a r f (va_up q 3 t35) (tb a) w) (2 + 2 * y.toNatClampNeg) (3 + 2 * y.toNatClampNeg) (a (2 + 2 * y.toNatClampNeg)) (a (3 + 2 * y.toNatClampNeg)) (r (2 * y.toNatClampNeg)) (r (2 * y.toNatClampNeg + 1)) (f y.toNatClampNeg) (mwG (i := y.toNatClampNeg) (a := a) (r := r) (f := f) (q := (va_up q 3 t35)) (T := tb a) (w := w) (by omega)) (mwA (i := y.toNatClampNeg) (a := a) (r := r) (f := f) (q := (va_up q 3 t35)) (T := tb a) (w := w) (by omega)) (mok_shp (i := y.toNatClampNeg) hm (by omega)) F45 hd46) ⟨rfl, yk_X7_copy⟩ wm_6_23 wm_6_24 wm_6_25 wm_1_7 wm_6_26 ⟨Nat.le_of_ble_eq_true rfl, Nat.le_of_ble_eq_true rfl⟩ ⟨Nat.le_of_ble_eq_true rfl, Nat.le_of_ble_eq_true rfl⟩ (mwG (i := y.toNatClampNeg) (a := a) (r := r) (f := f) (q := (va_up q 3 t35)) (T := tb a) (w := w) (by omega)) rfl rfl rfl hl.1 rfl (Nat.le_of_ble_eq_true rfl) dX10_sum_85 (fun o w' H locs hp hB => ?_)
            obtain ⟨q43, q44, rfl, hf47, hw9⟩ := hp
            replace hB : Bd κ A s (lA κ q44 ((r (2 * y.toNatClampNeg)) * 5) F45 :: gO q43 (r (2 * y.toNatClampNeg)) (r (2 * y.toNatClampNeg + 1)) q44 :: mw κ a r f (va_up q 3 t35) (tb a) w) H locs := by rw [hw9] at hB; exact hB
            have hscF45 : ∀ k, k < (r (2 * y.toNatClampNeg)) * 5 → sm (F45 k) := fun k hk => by rw [hf47 k hk]; exact (hm _ (by omega)).2 k hk
            refine W.eq (g2 := F0 m 88 ls [.ref q43]) rfl ?_
            refine lv_astore (lv' := [(7, .ref q43), (6, .ref (a (2 + 2 * z.toNatClampNeg))), (5, .ref (a (2 + 2 * y.toNatClampNeg))), (0, .ref (a 0)), (1, .int y), (2, .int z), (3, .int c0), (4, .int u)]) hx hb dX10_sum_88 hl (by decide) rfl (fun ls hl => ?_)
            refine lv_iconst (v := 0) hx hb dX10_sum_90 (by decide) ?_
            refine lv_istore (lv' := [(8, .int 0), (7, .ref q43), (6, .ref (a (2 + 2 * z.toNatClampNeg))), (5, .ref (a (2 + 2 * y.toNatClampNeg))), (0, .ref (a 0)), (1, .int y), (2, .int z), (3, .int c0), (4, .int u)]) hx hb dX10_sum_91 hl (by decide) rfl (fun ls hl => ?_)
            have lp93 : ∀ (nn93 : Nat) (y8_93 : Nat) (fq44_93 : Nat → Int64) (H : Heap) (locs : List Loc), (y8_93 ≤ ((r (2 * y.toNatClampNeg)) * 5)) → ((r (2 * y.toNatClampNeg)) * 5) + 1 - y8_93 < nn93 → D_X10_sum_93 r f q y z c0 u t35 nn93 y8_93 fq44_93 = (o_x, o_r', o_f', o_q') → Bd κ A s (lA κ q44 ((r (2 * y.toNatClampNeg)) * 5) fq44_93 :: gO q43 (r (2 * y.toNatClampNeg)) (r (2 * y.toNatClampNeg + 1)) q44 :: mw κ a r f (va_up q 3 t35) (tb a) w) H locs → ∀ ls : Array Slot, lv_has ls 9 [(8, .int (nI y8_93)), (7, .ref q43), (6, .ref (a (2 + 2 * z.toNatClampNeg))), (5, .ref (a (2 + 2 * y.toNatClampNeg))), (0, .ref (a 0)), (1, .int y), (2, .int z), (3, .int c0), (4, .int u)] → W p l e (Rm 3 64 2 23) s m args below meth c H locs (2) (23) Q (F0 m 93 ls []) := by
              intro nn93
              induction nn93 with
              | zero => intro y8_93 fq44_93 H locs hn8_93 hμ; exact absurd hμ (Nat.not_lt_zero _)
              | succ nn93 ih93 =>
                intro y8_93 fq44_93 H locs hn8_93 hμ93 hR hB ls hl
                replace hR := (D_X10_sum_93_s).symm.trans hR
                refine lv_iload hx hb dX10_sum_93 (lv_at hl 0 rfl) ?_
                refine lv_aload hx hb dX10_sum_95 (lv_at hl 1 rfl) ?_
                refine gf (k0 := 1) hX hB rfl rfl in7 2 (by decide) wm_5_154 rfl rfl dX10_sum_97 ?_
                refine alenL (k0 := 0) (v := nI ((r (2 * y.toNatClampNeg)) * 5)) hX hB rfl rfl dX10_sum_100 ?_
                refine lv_icmp_ge (tgt := 145) hx hb dX10_sum_101 (by decide) (fun c70 => ?_) (fun c70 => ?_)
                · rw [nleP (a := (r (2 * y.toNatClampNeg)) * 5) (b := y8_93) (by omega) (by omega)] at c70
                  replace hR := ifp c70 hR
                  refine lv_aload_n hx hb dX10_sum_145 rfl (lv_at hl 4 rfl) ?_
                  refine lv_iload hx hb dX10_sum_146 (lv_at hl 8 rfl) ?_
                  refine lv_aload hx hb dX10_sum_148 (lv_at hl 1 rfl) ?_
                  obtain ⟨x71, rn73, fn74, qn75, hd76⟩ := ex4 (D_X10_become r f (va_up q 3 t35) u (r (2 * y.toNatClampNeg)) (r (2 * y.toNatClampNeg + 1)) fq44_93)
                  replace hR := bnd4_use hd76 hR
                  refine call_V (n := 2) (k0 := 2) (As := [.int u, .ref q43]) (rest := []) hX hB (k_X10_become κ l w a r f (va_up q 3 t35) u q43 q44 (r (2 * y.toNatClampNeg)) (r (2 * y.toNatClampNeg + 1)) fq44_93 hm ⟨by omega, by omega, by omega, by omega⟩ (by assumption) (by assumption) x71 rn73 fn74 qn75 hd76) ⟨rfl, yk_X10_become⟩ wm_6_108 wm_6_110 wp_37 wm_1_6 wm_6_111 ⟨Nat.le_of_ble_eq_true rfl, Nat.le_of_ble_eq_true rfl⟩ ⟨Nat.le_of_ble_eq_true rfl, Nat.le_of_ble_eq_true rfl⟩ (mw0x (a := a) (r := r) (f := f) (q := (va_up q 3 t35)) (T := tb a) (w := w) rfl) rfl rfl rfl hl.1 rfl (Nat.le_of_ble_eq_true rfl) dX10_sum_150 (fun o w' H locs hp hB => ?_)
                  obtain ⟨an72, rfl, hf77, hf78, hf79, hw9⟩ := hp
                  replace hB : Bd κ A s (mw κ an72 rn73 fn74 qn75 (tb an72) w) H locs := by rw [hw9] at hB; exact hB
                  refine W.eq (g2 := F0 m 153 ls [.int x71]) rfl ?_
                  rw [← hQ]
                  exact end_i hX hB hA3 rfl rfl (by obtain ⟨rfl, rfl, rfl, rfl⟩ := pr4 hR; exact ⟨an72, rfl, (hf77.trans rfl), hf78, (hf79.trans rfl), rfl⟩) (Nat.le_of_ble_eq_true rfl) (Nat.le_of_ble_eq_true rfl) dX10_sum_153
                · rw [nleP (a := (r (2 * y.toNatClampNeg)) * 5) (b := y8_93) (by omega) (by omega)] at c70
                  replace hR := ifn c70 hR
                  refine lv_aload hx hb dX10_sum_104 (lv_at hl 1 rfl) ?_
                  refine gf (k0 := 1) hX hB rfl rfl in7 2 (by decide) wm_5_154 rfl rfl dX10_sum_106 ?_
                  refine lv_iload hx hb dX10_sum_109 (lv_at hl 0 rfl) ?_
                  refine lv_dup2_11 hx hb dX10_sum_111 rfl rfl ?_
                  refine laldN (k0 := 0) (k := y8_93) hX hB rfl (by omega) (by omega) dX10_sum_112 ?_
                  refine lv_iload_n hx hb dX10_sum_113 rfl (lv_at hl 7 rfl) ?_
                  refine lv_if_eq (tgt := 129) hx hb dX10_sum_114 (by decide) (fun c80 => ?_) (fun c80 => ?_)
                  · replace hR := ifp c80 hR
                    refine lv_aload hx hb dX10_sum_129 (lv_at hl 2 rfl) ?_
                    refine gf (k0 := 2 + 2 * z.toNatClampNeg + 2) hX hB (mwG (i := z.toNatClampNeg) (a := a) (r := r) (f := f) (q := (va_up q 3 t35)) (T := tb a) (w := w) (by omega)) rfl in7 2 (by decide) wm_5_154 rfl rfl dX10_sum_131 ?_
                    refine lv_iload hx hb dX10_sum_134 (lv_at hl 0 rfl) ?_
                    refine laldN (k0 := 3 + 2 * z.toNatClampNeg + 2) (k := y8_93) hX hB (mwA (i := z.toNatClampNeg) (a := a) (r := r) (f := f) (q := (va_up q 3 t35)) (T := tb a) (w := w) (by omega)) (by omega) (by omega) dX10_sum_136 ?_
                    refine lv_ladd hx hb dX10_sum_137 ?_
                    refine lastN (k0 := 0) (k := y8_93) hX hB rfl (by omega) (by omega) (w1 := lA κ q44 ((r (2 * y.toNatClampNeg)) * 5) (vp_updL fq44_93 y8_93 ((fq44_93 y8_93) + ((f z.toNatClampNeg) y8_93))) :: gO q43 (r (2 * y.toNatClampNeg)) (r (2 * y.toNatClampNeg + 1)) q44 :: mw κ a r f (va_up q 3 t35) (tb a) w) rfl dX10_sum_138 (fun H locs hB => ?_)
                    refine lv_iinc (v := nI (y8_93 + 1)) (lv' := [(8, .int (nI (y8_93 + 1))), (7, .ref q43), (6, .ref (a (2 + 2 * z.toNatClampNeg))), (5, .ref (a (2 + 2 * y.toNatClampNeg))), (0, .ref (a 0)), (1, .int y), (2, .int z), (3, .int c0), (4, .int u)]) hx hb dX10_sum_139 hl (k := 0) rfl (nI_add y8_93 1) (by decide) rfl (fun ls hl => ?_)
                    refine lv_goto (tgt := 93) hx hb dX10_sum_142 (by decide) ?_
                    exact ih93 (y8_93 + 1) (vp_updL fq44_93 y8_93 ((fq44_93 y8_93) + ((f z.toNatClampNeg) y8_93))) _ _ (by omega) (by omega) hR hB _ hl
                  · replace hR := ifn c80 hR
                    refine lv_aload hx hb dX10_sum_117 (lv_at hl 2 rfl) ?_
                    refine gf (k0 := 2 + 2 * z.toNatClampNeg + 2) hX hB (mwG (i := z.toNatClampNeg) (a := a) (r := r) (f := f) (q := (va_up q 3 t35)) (T := tb a) (w := w) (by omega)) rfl in7 2 (by decide) wm_5_154 rfl rfl dX10_sum_119 ?_
                    refine lv_iload hx hb dX10_sum_122 (lv_at hl 0 rfl) ?_
                    refine laldN (k0 := 3 + 2 * z.toNatClampNeg + 2) (k := y8_93) hX hB (mwA (i := z.toNatClampNeg) (a := a) (r := r) (f := f) (q := (va_up q 3 t35)) (T := tb a) (w := w) (by omega)) (by omega) (by omega) dX10_sum_124 ?_
                    refine lv_lneg hx hb dX10_sum_125 ?_
                    refine lv_goto (tgt := 137) hx hb dX10_sum_126 (by decide) ?_
                    refine lv_ladd hx hb dX10_sum_137 ?_
                    refine lastN (k0 := 0) (k := y8_93) hX hB rfl (by omega) (by omega) (w1 := lA κ q44 ((r (2 * y.toNatClampNeg)) * 5) (vp_updL fq44_93 y8_93 ((fq44_93 y8_93) + (-((f z.toNatClampNeg) y8_93)))) :: gO q43 (r (2 * y.toNatClampNeg)) (r (2 * y.toNatClampNeg + 1)) q44 :: mw κ a r f (va_up q 3 t35) (tb a) w) rfl dX10_sum_138 (fun H locs hB => ?_)
                    refine lv_iinc (v := nI (y8_93 + 1)) (lv' := [(8, .int (nI (y8_93 + 1))), (7, .ref q43), (6, .ref (a (2 + 2 * z.toNatClampNeg))), (5, .ref (a (2 + 2 * y.toNatClampNeg))), (0, .ref (a 0)), (1, .int y), (2, .int z), (3, .int c0), (4, .int u)]) hx hb dX10_sum_139 hl (k := 0) rfl (nI_add y8_93 1) (by decide) rfl (fun ls hl => ?_)
                    refine lv_goto (tgt := 93) hx hb dX10_sum_142 (by decide) ?_
                    exact ih93 (y8_93 + 1) (vp_updL fq44_93 y8_93 ((fq44_93 y8_93) + (-((f z.toNatClampNeg) y8_93)))) _ _ (by omega) (by omega) hR hB _ hl
            exact lp93 _ 0 F45 _ _ (by omega) (Nat.lt_succ_self _) hR hB _ hl
          · rw [neqP (a := r (2 * y.toNatClampNeg + 1)) (b := r (2 * z.toNatClampNeg + 1)) (by omega) (by omega)] at c42
            replace hR := ifn c42 hR
            refine lv_aload_n hx hb dX10_sum_78 rfl (lv_at hl 2 rfl) ?_
            refine call_V (n := 0) (k0 := 0) (As := []) (rest := []) hX hB (k_X10_no κ l (mw κ a r f (va_up q 3 t35) (tb a) w) 0 (a 0) (a 1) ((va_up q 3 t35) 0) ((va_up q 3 t35) 1) ((va_up q 3 t35) 2) ((va_up q 3 t35) 3) (mw0x (a := a) (r := r) (f := f) (q := (va_up q 3 t35)) (T := tb a) (w := w) rfl)) ⟨rfl, yk_X10_no⟩ wm_6_89 wm_6_91 wp_36 wm_1_6 wm_6_92 ⟨Nat.le_of_ble_eq_true rfl, Nat.le_of_ble_eq_true rfl⟩ ⟨Nat.le_of_ble_eq_true rfl, Nat.le_of_ble_eq_true rfl⟩ (mw0x (a := a) (r := r) (f := f) (q := (va_up q 3 t35)) (T := tb a) (w := w) rfl) rfl rfl rfl hl.1 rfl (Nat.le_of_ble_eq_true rfl) dX10_sum_79 (fun o w' H locs hp hB => ?_)
            obtain ⟨rfl, hw9⟩ := hp
            replace hB : Bd κ A s (mw κ a r f (va_up (va_up q 3 t35) 1 (((va_up q 3 t35) 1) + 1)) (tb a) w) H locs := by exact Bd_eq (mwQ1x rfl _) (by rw [hw9] at hB; exact hB)
            refine W.eq (g2 := F0 m 82 ls [.int (-9)]) rfl ?_
            rw [← hQ]
            exact end_i hX hB hA3 rfl rfl (by obtain ⟨rfl, rfl, rfl, rfl⟩ := pr4 hR; exact ⟨a, rfl, rfl, hm, rfl, rfl⟩) (Nat.le_of_ble_eq_true rfl) (Nat.le_of_ble_eq_true rfl) dX10_sum_82
noncomputable def D_X10_multiply (r : Nat → Nat) (f : Nat → Nat → Int64) (q : Nat → Int32) (y : Int32) (z : Int32) (u : Int32) : Int32 × (Nat → Nat) × (Nat → Nat → Int64) × (Nat → Int32) := bnd1 (D_X10_isTable y) (fun (z1 : Int32) => (if z1 = 0 then bnd2 (D_X10_isThrown__ (q 0) (q 1) (q 2) (q 3) 1) (fun (x6 : Int32) (t7 : Int32) => (0, r, f, va_up q 3 t7)) else bnd1 (D_X10_isTable z) (fun (z12 : Int32) => (if z12 = 0 then bnd2 (D_X10_isThrown__ (q 0) (q 1) (q 2) (q 3) 1) (fun (x17 : Int32) (t18 : Int32) => (0, r, f, va_up q 3 t18)) else bnd1 (D_X10_isTable u) (fun (z23 : Int32) => (if z23 = 0 then bnd2 (D_X10_isThrown__ (q 0) (q 1) (q 2) (q 3) 1) (fun (x28 : Int32) (t29 : Int32) => (0, r, f, va_up q 3 t29)) else bnd2 (D_X10_isThrown__ (q 0) (q 1) (q 2) (q 3) 0) (fun (x34 : Int32) (t35 : Int32) => (if (r (2 * y.toNatClampNeg + 1)) = (r (2 * z.toNatClampNeg)) then bnd1 (D_X7_product (r (2 * y.toNatClampNeg)) (r (2 * y.toNatClampNeg + 1)) (f y.toNatClampNeg) (r (2 * z.toNatClampNeg)) (r (2 * z.toNatClampNeg + 1)) (f z.toNatClampNeg)) (fun (F46 : Nat → Int64) => bnd4 (D_X10_become r f (va_up q 3 t35) u (r (2 * y.toNatClampNeg)) (r (2 * z.toNatClampNeg + 1)) F46) (fun (x48 : Int32) (rn50 : Nat → Nat) (fn51 : Nat → Nat → Int64) (qn52 : Nat → Int32) => (x48, rn50, fn51, qn52))) else (-9, r, f, va_up (va_up q 3 t35) 1 (((va_up q 3 t35) 1) + 1))))))))))
theorem D_X10_multiply_s {r : Nat → Nat} {f : Nat → Nat → Int64} {q : Nat → Int32} {y : Int32} {z : Int32} {u : Int32} : D_X10_multiply r f q y z u = bnd1 (D_X10_isTable y) (fun (z1 : Int32) => (if z1 = 0 then bnd2 (D_X10_isThrown__ (q 0) (q 1) (q 2) (q 3) 1) (fun (x6 : Int32) (t7 : Int32) => (0, r, f, va_up q 3 t7)) else bnd1 (D_X10_isTable z) (fun (z12 : Int32) => (if z12 = 0 then bnd2 (D_X10_isThrown__ (q 0) (q 1) (q 2) (q 3) 1) (fun (x17 : Int32) (t18 : Int32) => (0, r, f, va_up q 3 t18)) else bnd1 (D_X10_isTable u) (fun (z23 : Int32) => (if z23 = 0 then bnd2 (D_X10_isThrown__ (q 0) (q 1) (q 2) (q 3) 1) (fun (x28 : Int32) (t29 : Int32) => (0, r, f, va_up q 3 t29)) else bnd2 (D_X10_isThrown__ (q 0) (q 1) (q 2) (q 3) 0) (fun (x34 : Int32) (t35 : Int32) => (if (r (2 * y.toNatClampNeg + 1)) = (r (2 * z.toNatClampNeg)) then bnd1 (D_X7_product (r (2 * y.toNatClampNeg)) (r (2 * y.toNatClampNeg + 1)) (f y.toNatClampNeg) (r (2 * z.toNatClampNeg)) (r (2 * z.toNatClampNeg + 1)) (f z.toNatClampNeg)) (fun (F46 : Nat → Int64) => bnd4 (D_X10_become r f (va_up q 3 t35) u (r (2 * y.toNatClampNeg)) (r (2 * z.toNatClampNeg + 1)) F46) (fun (x48 : Int32) (rn50 : Nat → Nat) (fn51 : Nat → Nat → Int64) (qn52 : Nat → Int32) => (x48, rn50, fn51, qn52))) else (-9, r, f, va_up (va_up q 3 t35) 1 (((va_up q 3 t35) 1) + 1)))))))))) := rfl
set_option maxHeartbeats 4000000 in
set_option maxRecDepth 100000 in
theorem k_X10_multiply (κ : Kt) (l : Launch) (w : va_W) (a r : Nat → Nat) (f : Nat → Nat → Int64) (q : Nat → Int32) (y : Int32) (z : Int32) (u : Int32) (hm : mok r f) (o_x : Int32) (o_r' : Nat → Nat) (o_f' : Nat → Nat → Int64) (o_q' : Nat → Int32) (hR : D_X10_multiply r f q y z u = (o_x, o_r', o_f', o_q')) : CM κ l yX10_multiply cX10_multiply 4 (some .int) 3 69 2 23 [.ref (a 0), .int y, .int z, .int u] (mw κ a r f q (tb a) w) (fun o w' => ∃ (a' : Nat → Nat), o = some (.int o_x) ∧ (a' 0 = a 0) ∧ (mok o_r' o_f') ∧ (o_q' 2 = q 2) ∧ w' = mw κ a' o_r' o_f' o_q' (tb a') w) := by
  refine CM_begin (plainFor_of_name pn_RX10) (Nat.le_of_ble_eq_true rfl) ?_
  intro p e s m args below meth c A Q hX hnm hA3 hQ hB ls hl
  have hx := hX.1.1
  have hb := hX.1.2.1
  have hl : lv_has ls 4 [(0, .ref (a 0)), (1, .int y), (2, .int z), (3, .int u)] := hl
  replace hR := (D_X10_multiply_s).symm.trans hR
  refine lv_aload_n hx hb dX10_multiply_0 rfl (lv_at hl 0 rfl) ?_
  refine lv_iload_n hx hb dX10_multiply_1 rfl (lv_at hl 1 rfl) ?_
  obtain ⟨z1, hd2⟩ := ex1 (D_X10_isTable y)
  replace hR := bnd1_use hd2 hR
  refine call_S (n := 1) (As := [.int y]) (rest := [.ref (a 0)]) hX hB (k_X10_isTable κ l (mw κ a r f q (tb a) w) y z1 hd2) yk_X10_isTable wm_5_186 wm_5_187 wm_1_6 wm_5_188 ⟨Nat.le_of_ble_eq_true rfl, Nat.le_of_ble_eq_true rfl⟩ ⟨Nat.le_of_ble_eq_true rfl, Nat.le_of_ble_eq_true rfl⟩ rfl hl.1 rfl (Nat.le_of_ble_eq_true rfl) dX10_multiply_2 (fun o w' H locs hp hB => ?_)
  obtain ⟨rfl, hf3, hw9⟩ := hp
  replace hB : Bd κ A s (mw κ a r f q (tb a) w) H locs := by rw [hw9] at hB; exact hB
  rcases hf3 with rfl | ⟨rfl, hz4a, hz4b⟩
  · replace hR := ifp rfl hR
    refine W.eq (g2 := F0 m 5 ls [.int 0, .ref (a 0)]) rfl ?_
    refine lv_if_eq (tgt := 22) hx hb dX10_multiply_5 (by decide) (fun _ => ?_) (fun c5 => False.elim (by revert c5; decide))
    refine lv_iconst (v := 1) hx hb dX10_multiply_22 (by decide) ?_
    refine lv_goto (tgt := 27) hx hb dX10_multiply_23 (by decide) ?_
    obtain ⟨x6, t7, hd8⟩ := ex2 (D_X10_isThrown__ (q 0) (q 1) (q 2) (q 3) 1)
    replace hR := bnd2_use hd8 hR
    refine call_V (n := 1) (k0 := 0) (As := [.int 1]) (rest := []) hX hB (k_X10_isThrown__ κ l (mw κ a r f q (tb a) w) 0 (a 0) (a 1) (q 0) (q 1) (q 2) (q 3) 1 (mw0x (a := a) (r := r) (f := f) (q := q) (T := tb a) (w := w) rfl) x6 t7 hd8) ⟨rfl, yk_X10_isThrown__⟩ wm_6_15 wm_6_17 wp_33 wm_1_6 wm_6_18 ⟨Nat.le_of_ble_eq_true rfl, Nat.le_of_ble_eq_true rfl⟩ ⟨Nat.le_of_ble_eq_true rfl, Nat.le_of_ble_eq_true rfl⟩ (mw0x (a := a) (r := r) (f := f) (q := q) (T := tb a) (w := w) rfl) rfl rfl rfl hl.1 rfl (Nat.le_of_ble_eq_true rfl) dX10_multiply_27 (fun o w' H locs hp hB => ?_)
    obtain ⟨rfl, hf9, hw9⟩ := hp
    replace hB : Bd κ A s (mw κ a r f (va_up q 3 t7) (tb a) w) H locs := by exact Bd_eq (mwQ3x rfl _) (by rw [hw9] at hB; exact hB)
    obtain rfl : x6 = 1 := hf9.trans (by decide)
    refine W.eq (g2 := F0 m 30 ls [.int 1]) rfl ?_
    refine lv_if_eq (tgt := 35) hx hb dX10_multiply_30 (by decide) (fun c10 => False.elim (by revert c10; decide)) (fun _ => ?_)
    refine lv_iconst (v := 0) hx hb dX10_multiply_33 (by decide) ?_
    rw [← hQ]
    exact end_i hX hB hA3 rfl rfl (by obtain ⟨rfl, rfl, rfl, rfl⟩ := pr4 hR; exact ⟨a, rfl, rfl, hm, rfl, rfl⟩) (Nat.le_of_ble_eq_true rfl) (Nat.le_of_ble_eq_true rfl) dX10_multiply_34
  · replace hR := ifn (by decide) hR
    refine W.eq (g2 := F0 m 5 ls [.int 1, .ref (a 0)]) rfl ?_
    refine lv_if_eq (tgt := 22) hx hb dX10_multiply_5 (by decide) (fun c11 => False.elim (by revert c11; decide)) (fun _ => ?_)
    refine lv_iload_n hx hb dX10_multiply_8 rfl (lv_at hl 2 rfl) ?_
    obtain ⟨z12, hd13⟩ := ex1 (D_X10_isTable z)
    replace hR := bnd1_use hd13 hR
    refine call_S (n := 1) (As := [.int z]) (rest := [.ref (a 0)]) hX hB (k_X10_isTable κ l (mw κ a r f q (tb a) w) z z12 hd13) yk_X10_isTable wm_5_186 wm_5_187 wm_1_6 wm_5_188 ⟨Nat.le_of_ble_eq_true rfl, Nat.le_of_ble_eq_true rfl⟩ ⟨Nat.le_of_ble_eq_true rfl, Nat.le_of_ble_eq_true rfl⟩ rfl hl.1 rfl (Nat.le_of_ble_eq_true rfl) dX10_multiply_9 (fun o w' H locs hp hB => ?_)
    obtain ⟨rfl, hf14, hw9⟩ := hp
    replace hB : Bd κ A s (mw κ a r f q (tb a) w) H locs := by rw [hw9] at hB; exact hB
    rcases hf14 with rfl | ⟨rfl, hz15a, hz15b⟩
    · replace hR := ifp rfl hR
      refine W.eq (g2 := F0 m 12 ls [.int 0, .ref (a 0)]) rfl ?_
      refine lv_if_eq (tgt := 22) hx hb dX10_multiply_12 (by decide) (fun _ => ?_) (fun c16 => False.elim (by revert c16; decide))
      refine lv_iconst (v := 1) hx hb dX10_multiply_22 (by decide) ?_
      refine lv_goto (tgt := 27) hx hb dX10_multiply_23 (by decide) ?_
      obtain ⟨x17, t18, hd19⟩ := ex2 (D_X10_isThrown__ (q 0) (q 1) (q 2) (q 3) 1)
      replace hR := bnd2_use hd19 hR
      refine call_V (n := 1) (k0 := 0) (As := [.int 1]) (rest := []) hX hB (k_X10_isThrown__ κ l (mw κ a r f q (tb a) w) 0 (a 0) (a 1) (q 0) (q 1) (q 2) (q 3) 1 (mw0x (a := a) (r := r) (f := f) (q := q) (T := tb a) (w := w) rfl) x17 t18 hd19) ⟨rfl, yk_X10_isThrown__⟩ wm_6_15 wm_6_17 wp_33 wm_1_6 wm_6_18 ⟨Nat.le_of_ble_eq_true rfl, Nat.le_of_ble_eq_true rfl⟩ ⟨Nat.le_of_ble_eq_true rfl, Nat.le_of_ble_eq_true rfl⟩ (mw0x (a := a) (r := r) (f := f) (q := q) (T := tb a) (w := w) rfl) rfl rfl rfl hl.1 rfl (Nat.le_of_ble_eq_true rfl) dX10_multiply_27 (fun o w' H locs hp hB => ?_)
      obtain ⟨rfl, hf20, hw9⟩ := hp
      replace hB : Bd κ A s (mw κ a r f (va_up q 3 t18) (tb a) w) H locs := by exact Bd_eq (mwQ3x rfl _) (by rw [hw9] at hB; exact hB)
      obtain rfl : x17 = 1 := hf20.trans (by decide)
      refine W.eq (g2 := F0 m 30 ls [.int 1]) rfl ?_
      refine lv_if_eq (tgt := 35) hx hb dX10_multiply_30 (by decide) (fun c21 => False.elim (by revert c21; decide)) (fun _ => ?_)
      refine lv_iconst (v := 0) hx hb dX10_multiply_33 (by decide) ?_
      rw [← hQ]
      exact end_i hX hB hA3 rfl rfl (by obtain ⟨rfl, rfl, rfl, rfl⟩ := pr4 hR; exact ⟨a, rfl, rfl, hm, rfl, rfl⟩) (Nat.le_of_ble_eq_true rfl) (Nat.le_of_ble_eq_true rfl) dX10_multiply_34
    · replace hR := ifn (by decide) hR
      refine W.eq (g2 := F0 m 12 ls [.int 1, .ref (a 0)]) rfl ?_
      refine lv_if_eq (tgt := 22) hx hb dX10_multiply_12 (by decide) (fun c22 => False.elim (by revert c22; decide)) (fun _ => ?_)
      refine lv_iload_n hx hb dX10_multiply_15 rfl (lv_at hl 3 rfl) ?_
      obtain ⟨z23, hd24⟩ := ex1 (D_X10_isTable u)
      replace hR := bnd1_use hd24 hR
      refine call_S (n := 1) (As := [.int u]) (rest := [.ref (a 0)]) hX hB (k_X10_isTable κ l (mw κ a r f q (tb a) w) u z23 hd24) yk_X10_isTable wm_5_186 wm_5_187 wm_1_6 wm_5_188 ⟨Nat.le_of_ble_eq_true rfl, Nat.le_of_ble_eq_true rfl⟩ ⟨Nat.le_of_ble_eq_true rfl, Nat.le_of_ble_eq_true rfl⟩ rfl hl.1 rfl (Nat.le_of_ble_eq_true rfl) dX10_multiply_16 (fun o w' H locs hp hB => ?_)
      obtain ⟨rfl, hf25, hw9⟩ := hp
      replace hB : Bd κ A s (mw κ a r f q (tb a) w) H locs := by rw [hw9] at hB; exact hB
      rcases hf25 with rfl | ⟨rfl, hz26a, hz26b⟩
      · replace hR := ifp rfl hR
        refine W.eq (g2 := F0 m 19 ls [.int 0, .ref (a 0)]) rfl ?_
        refine lv_if_ne (tgt := 26) hx hb dX10_multiply_19 (by decide) (fun c27 => False.elim (by revert c27; decide)) (fun _ => ?_)
        refine lv_iconst (v := 1) hx hb dX10_multiply_22 (by decide) ?_
        refine lv_goto (tgt := 27) hx hb dX10_multiply_23 (by decide) ?_
        obtain ⟨x28, t29, hd30⟩ := ex2 (D_X10_isThrown__ (q 0) (q 1) (q 2) (q 3) 1)
        replace hR := bnd2_use hd30 hR
        refine call_V (n := 1) (k0 := 0) (As := [.int 1]) (rest := []) hX hB (k_X10_isThrown__ κ l (mw κ a r f q (tb a) w) 0 (a 0) (a 1) (q 0) (q 1) (q 2) (q 3) 1 (mw0x (a := a) (r := r) (f := f) (q := q) (T := tb a) (w := w) rfl) x28 t29 hd30) ⟨rfl, yk_X10_isThrown__⟩ wm_6_15 wm_6_17 wp_33 wm_1_6 wm_6_18 ⟨Nat.le_of_ble_eq_true rfl, Nat.le_of_ble_eq_true rfl⟩ ⟨Nat.le_of_ble_eq_true rfl, Nat.le_of_ble_eq_true rfl⟩ (mw0x (a := a) (r := r) (f := f) (q := q) (T := tb a) (w := w) rfl) rfl rfl rfl hl.1 rfl (Nat.le_of_ble_eq_true rfl) dX10_multiply_27 (fun o w' H locs hp hB => ?_)
        obtain ⟨rfl, hf31, hw9⟩ := hp
        replace hB : Bd κ A s (mw κ a r f (va_up q 3 t29) (tb a) w) H locs := by exact Bd_eq (mwQ3x rfl _) (by rw [hw9] at hB; exact hB)
        obtain rfl : x28 = 1 := hf31.trans (by decide)
        refine W.eq (g2 := F0 m 30 ls [.int 1]) rfl ?_
        refine lv_if_eq (tgt := 35) hx hb dX10_multiply_30 (by decide) (fun c32 => False.elim (by revert c32; decide)) (fun _ => ?_)
        refine lv_iconst (v := 0) hx hb dX10_multiply_33 (by decide) ?_
        rw [← hQ]
        exact end_i hX hB hA3 rfl rfl (by obtain ⟨rfl, rfl, rfl, rfl⟩ := pr4 hR; exact ⟨a, rfl, rfl, hm, rfl, rfl⟩) (Nat.le_of_ble_eq_true rfl) (Nat.le_of_ble_eq_true rfl) dX10_multiply_34
      · replace hR := ifn (by decide) hR
        refine W.eq (g2 := F0 m 19 ls [.int 1, .ref (a 0)]) rfl ?_
        refine lv_if_ne (tgt := 26) hx hb dX10_multiply_19 (by decide) (fun _ => ?_) (fun c33 => False.elim (by revert c33; decide))
        refine lv_iconst (v := 0) hx hb dX10_multiply_26 (by decide) ?_
        obtain ⟨x34, t35, hd36⟩ := ex2 (D_X10_isThrown__ (q 0) (q 1) (q 2) (q 3) 0)
        replace hR := bnd2_use hd36 hR
        refine call_V (n := 1) (k0 := 0) (As := [.int 0]) (rest := []) hX hB (k_X10_isThrown__ κ l (mw κ a r f q (tb a) w) 0 (a 0) (a 1) (q 0) (q 1) (q 2) (q 3) 0 (mw0x (a := a) (r := r) (f := f) (q := q) (T := tb a) (w := w) rfl) x34 t35 hd36) ⟨rfl, yk_X10_isThrown__⟩ wm_6_15 wm_6_17 wp_33 wm_1_6 wm_6_18 ⟨Nat.le_of_ble_eq_true rfl, Nat.le_of_ble_eq_true rfl⟩ ⟨Nat.le_of_ble_eq_true rfl, Nat.le_of_ble_eq_true rfl⟩ (mw0x (a := a) (r := r) (f := f) (q := q) (T := tb a) (w := w) rfl) rfl rfl rfl hl.1 rfl (Nat.le_of_ble_eq_true rfl) dX10_multiply_27 (fun o w' H locs hp hB => ?_)
        obtain ⟨rfl, hf37, hw9⟩ := hp
        replace hB : Bd κ A s (mw κ a r f (va_up q 3 t35) (tb a) w) H locs := by exact Bd_eq (mwQ3x rfl _) (by rw [hw9] at hB; exact hB)
        obtain rfl : x34 = 0 := hf37.trans (by decide)
        refine W.eq (g2 := F0 m 30 ls [.int 0]) rfl ?_
        refine lv_if_eq (tgt := 35) hx hb dX10_multiply_30 (by decide) (fun _ => ?_) (fun c38 => False.elim (by revert c38; decide))
        refine lv_aload_n hx hb dX10_multiply_35 rfl (lv_at hl 0 rfl) ?_
        refine gf (k0 := 0) hX hB (mw0x (a := a) (r := r) (f := f) (q := (va_up q 3 t35)) (T := tb a) (w := w) rfl) rfl in10 0 (by decide) wm_5_162 rfl rfl dX10_multiply_36 ?_
        refine lv_iload_n hx hb dX10_multiply_39 rfl (lv_at hl 1 rfl) ?_
        refine aaldM (k0 := 1) hX hB (mw1 (a := a) (r := r) (f := f) (q := (va_up q 3 t35)) (T := tb a) (w := w)) (vp_in_mk (by assumption) (by assumption)) rfl dX10_multiply_40 ?_
        have hb39 := mok_r hm y.toNatClampNeg (by omega)
        refine gf (k0 := 2 + 2 * y.toNatClampNeg) hX hB (mwG (i := y.toNatClampNeg) (a := a) (r := r) (f := f) (q := (va_up q 3 t35)) (T := tb a) (w := w) (by omega)) rfl in7 1 (by decide) wm_5_152 rfl rfl dX10_multiply_41 ?_
        refine lv_aload_n hx hb dX10_multiply_44 rfl (lv_at hl 0 rfl) ?_
        refine gf (k0 := 0) hX hB (mw0x (a := a) (r := r) (f := f) (q := (va_up q 3 t35)) (T := tb a) (w := w) rfl) rfl in10 0 (by decide) wm_5_162 rfl rfl dX10_multiply_45 ?_
        refine lv_iload_n hx hb dX10_multiply_48 rfl (lv_at hl 2 rfl) ?_
        refine aaldM (k0 := 1) hX hB (mw1 (a := a) (r := r) (f := f) (q := (va_up q 3 t35)) (T := tb a) (w := w)) (vp_in_mk (by assumption) (by assumption)) rfl dX10_multiply_49 ?_
        have hb40 := mok_r hm z.toNatClampNeg (by omega)
        refine gf (k0 := 2 + 2 * z.toNatClampNeg) hX hB (mwG (i := z.toNatClampNeg) (a := a) (r := r) (f := f) (q := (va_up q 3 t35)) (T := tb a) (w := w) (by omega)) rfl in7 0 (by decide) wm_5_148 rfl rfl dX10_multiply_50 ?_
        refine lv_icmp_eq (tgt := 63) hx hb dX10_multiply_53 (by decide) (fun c41 => ?_) (fun c41 => ?_)
        · rw [neqP (a := r (2 * y.toNatClampNeg + 1)) (b := r (2 * z.toNatClampNeg)) (by omega) (by omega)] at c41
          replace hR := ifp c41 hR
          refine lv_aload_n hx hb dX10_multiply_63 rfl (lv_at hl 0 rfl) ?_
          refine lv_iload_n hx hb dX10_multiply_64 rfl (lv_at hl 3 rfl) ?_
          refine lv_aload_n hx hb dX10_multiply_65 rfl (lv_at hl 0 rfl) ?_
          refine gf (k0 := 0) hX hB (mw0x (a := a) (r := r) (f := f) (q := (va_up q 3 t35)) (T := tb a) (w := w) rfl) rfl in10 0 (by decide) wm_5_162 rfl rfl dX10_multiply_66 ?_
          refine lv_iload_n hx hb dX10_multiply_69 rfl (lv_at hl 1 rfl) ?_
          refine aaldM (k0 := 1) hX hB (mw1 (a := a) (r := r) (f := f) (q := (va_up q 3 t35)) (T := tb a) (w := w)) (vp_in_mk (by assumption) (by assumption)) rfl dX10_multiply_70 ?_
          have hb42 := mok_r hm y.toNatClampNeg (by omega)
          refine lv_aload_n hx hb dX10_multiply_71 rfl (lv_at hl 0 rfl) ?_
          refine gf (k0 := 0) hX hB (mw0x (a := a) (r := r) (f := f) (q := (va_up q 3 t35)) (T := tb a) (w := w) rfl) rfl in10 0 (by decide) wm_5_162 rfl rfl dX10_multiply_72 ?_
          refine lv_iload_n hx hb dX10_multiply_75 rfl (lv_at hl 2 rfl) ?_
          refine aaldM (k0 := 1) hX hB (mw1 (a := a) (r := r) (f := f) (q := (va_up q 3 t35)) (T := tb a) (w := w)) (vp_in_mk (by assumption) (by assumption)) rfl dX10_multiply_76 ?_
          have hb43 := mok_r hm z.toNatClampNeg (by omega)
          obtain ⟨F46, hd47⟩ := ex1 (D_X7_product (r (2 * y.toNatClampNeg)) (r (2 * y.toNatClampNeg + 1)) (f y.toNatClampNeg) (r (2 * z.toNatClampNeg)) (r (2 * z.toNatClampNeg + 1)) (f z.toNatClampNeg))
          replace hR := bnd1_use hd47 hR
          refine call_V (n := 1) (k0 := (2 + 2 * y.toNatClampNeg)) (As := [.ref (a (2 + 2 * z.toNatClampNeg))]) (rest := [.int u, .ref (a 0)]) hX hB (k_X7_product κ l (mw κ a r f (va_up q 3 t35) (tb a) w) (2 + 2 * y.toNatClampNeg) (3 + 2 * y.toNatClampNeg) (a (2 + 2 * y.toNatClampNeg)) (a (3 + 2 * y.toNatClampNeg)) (r (2 * y.toNatClampNeg)) (r (2 * y.toNatClampNeg + 1)) (f y.toNatClampNeg) (2 + 2 * z.toNatClampNeg) (3 + 2 * z.toNatClampNeg) (a (2 + 2 * z.toNatClampNeg)) (a (3 + 2 * z.toNatClampNeg)) (r (2 * z.toNatClampNeg)) (r (2 * z.toNatClampNeg + 1)) (f z.toNatClampNeg) (mwG (i := y.toNatClampNeg) (a := a) (r := r) (f := f) (q := (va_up q 3 t35)) (T := tb a) (w := w) (by omega)) (mwA (i := y.toNatClampNeg) (a := a) (r := r) (f := f) (q := (va_up q 3 t35)) (T := tb a) (w := w) (by omega)) (mok_shp (i := y.toNatClampNeg) hm (by omega)) (mwG (i := z.toNatClampNeg) (a := a) (r := r) (f := f) (q := (va_up q 3 t35)) (T := tb a) (w := w) (by omega)) (mwA (i := z.toNatClampNeg) (a := a) (r := r) (f := f) (q := (va_up q 3 t35)) (T := tb a) (w := w) (by omega)) (mok_shp (i := z.toNatClampNeg) hm (by omega)) (by omega) F46 hd47) ⟨rfl, yk_X7_product⟩ wm_6_116 wm_6_117 wm_6_118 wm_1_7 wm_6_119 ⟨Nat.le_of_ble_eq_true rfl, Nat.le_of_ble_eq_true rfl⟩ ⟨Nat.le_of_ble_eq_true rfl, Nat.le_of_ble_eq_true rfl⟩ (mwG (i := y.toNatClampNeg) (a := a) (r := r) (f := f) (q := (va_up q 3 t35)) (T := tb a) (w := w) (by omega)) rfl rfl rfl hl.1 rfl (Nat.le_of_ble_eq_true rfl) dX10_multiply_77 (fun o w' H locs hp hB => ?_)
          obtain ⟨q44, q45, rfl, hw9⟩ := hp
          replace hB : Bd κ A s (lA κ q45 ((r (2 * y.toNatClampNeg)) * 5) F46 :: gO q44 (r (2 * y.toNatClampNeg)) (r (2 * z.toNatClampNeg + 1)) q45 :: mw κ a r f (va_up q 3 t35) (tb a) w) H locs := by rw [hw9] at hB; exact hB
          refine W.eq (g2 := F0 m 80 ls [.ref q44, .int u, .ref (a 0)]) rfl ?_
          obtain ⟨x48, rn50, fn51, qn52, hd53⟩ := ex4 (D_X10_become r f (va_up q 3 t35) u (r (2 * y.toNatClampNeg)) (r (2 * z.toNatClampNeg + 1)) F46)
          replace hR := bnd4_use hd53 hR
          refine call_V (n := 2) (k0 := 2) (As := [.int u, .ref q44]) (rest := []) hX hB (k_X10_become κ l w a r f (va_up q 3 t35) u q44 q45 (r (2 * y.toNatClampNeg)) (r (2 * z.toNatClampNeg + 1)) F46 hm ⟨by omega, by omega, by omega, by omega⟩ (by assumption) (by assumption) x48 rn50 fn51 qn52 hd53) ⟨rfl, yk_X10_become⟩ wm_6_108 wm_6_110 wp_37 wm_1_6 wm_6_111 ⟨Nat.le_of_ble_eq_true rfl, Nat.le_of_ble_eq_true rfl⟩ ⟨Nat.le_of_ble_eq_true rfl, Nat.le_of_ble_eq_true rfl⟩ (mw0x (a := a) (r := r) (f := f) (q := (va_up q 3 t35)) (T := tb a) (w := w) rfl) rfl rfl rfl hl.1 rfl (Nat.le_of_ble_eq_true rfl) dX10_multiply_80 (fun o w' H locs hp hB => ?_)
          obtain ⟨an49, rfl, hf54, hf55, hf56, hw9⟩ := hp
          replace hB : Bd κ A s (mw κ an49 rn50 fn51 qn52 (tb an49) w) H locs := by rw [hw9] at hB; exact hB
          refine W.eq (g2 := F0 m 83 ls [.int x48]) rfl ?_
          rw [← hQ]
          exact end_i hX hB hA3 rfl rfl (by obtain ⟨rfl, rfl, rfl, rfl⟩ := pr4 hR; exact ⟨an49, rfl, (hf54.trans rfl), hf55, (hf56.trans rfl), rfl⟩) (Nat.le_of_ble_eq_true rfl) (Nat.le_of_ble_eq_true rfl) dX10_multiply_83
        · rw [neqP (a := r (2 * y.toNatClampNeg + 1)) (b := r (2 * z.toNatClampNeg)) (by omega) (by omega)] at c41
          replace hR := ifn c41 hR
          refine lv_aload_n hx hb dX10_multiply_56 rfl (lv_at hl 0 rfl) ?_
          refine call_V (n := 0) (k0 := 0) (As := []) (rest := []) hX hB (k_X10_no κ l (mw κ a r f (va_up q 3 t35) (tb a) w) 0 (a 0) (a 1) ((va_up q 3 t35) 0) ((va_up q 3 t35) 1) ((va_up q 3 t35) 2) ((va_up q 3 t35) 3) (mw0x (a := a) (r := r) (f := f) (q := (va_up q 3 t35)) (T := tb a) (w := w) rfl)) ⟨rfl, yk_X10_no⟩ wm_6_89 wm_6_91 wp_36 wm_1_6 wm_6_92 ⟨Nat.le_of_ble_eq_true rfl, Nat.le_of_ble_eq_true rfl⟩ ⟨Nat.le_of_ble_eq_true rfl, Nat.le_of_ble_eq_true rfl⟩ (mw0x (a := a) (r := r) (f := f) (q := (va_up q 3 t35)) (T := tb a) (w := w) rfl) rfl rfl rfl hl.1 rfl (Nat.le_of_ble_eq_true rfl) dX10_multiply_57 (fun o w' H locs hp hB => ?_)
          obtain ⟨rfl, hw9⟩ := hp
          replace hB : Bd κ A s (mw κ a r f (va_up (va_up q 3 t35) 1 (((va_up q 3 t35) 1) + 1)) (tb a) w) H locs := by exact Bd_eq (mwQ1x rfl _) (by rw [hw9] at hB; exact hB)
          refine W.eq (g2 := F0 m 60 ls [.int (-9)]) rfl ?_
          refine lv_goto (tgt := 83) hx hb dX10_multiply_60 (by decide) ?_
          rw [← hQ]
          exact end_i hX hB hA3 rfl rfl (by obtain ⟨rfl, rfl, rfl, rfl⟩ := pr4 hR; exact ⟨a, rfl, rfl, hm, rfl, rfl⟩) (Nat.le_of_ble_eq_true rfl) (Nat.le_of_ble_eq_true rfl) dX10_multiply_83
noncomputable def D_X10_take (r : Nat → Nat) (f : Nat → Nat → Int64) (q : Nat → Int32) (y : Int32) (z : Int32) (u : Int32) : Int32 × (Nat → Nat) × (Nat → Nat → Int64) × (Nat → Int32) := bnd1 (D_X10_isTable y) (fun (z1 : Int32) => (if z1 = 0 then (if z < 0 then bnd2 (D_X10_isThrown_ (q 0) (q 1) (q 2) (q 3) 1 1) (fun (x7 : Int32) (t8 : Int32) => (0, r, f, va_up q 3 t8)) else (if z ≤ 4 then bnd2 (D_X10_isThrown_ (q 0) (q 1) (q 2) (q 3) 1 0) (fun (x13 : Int32) (t14 : Int32) => (0, r, f, va_up q 3 t14)) else bnd2 (D_X10_isThrown_ (q 0) (q 1) (q 2) (q 3) 1 1) (fun (x18 : Int32) (t19 : Int32) => (0, r, f, va_up q 3 t19)))) else bnd1 (D_X10_isTable u) (fun (z24 : Int32) => (if z24 = 0 then (if z < 0 then bnd2 (D_X10_isThrown_ (q 0) (q 1) (q 2) (q 3) 1 1) (fun (x30 : Int32) (t31 : Int32) => (0, r, f, va_up q 3 t31)) else (if z ≤ 4 then bnd2 (D_X10_isThrown_ (q 0) (q 1) (q 2) (q 3) 1 0) (fun (x36 : Int32) (t37 : Int32) => (0, r, f, va_up q 3 t37)) else bnd2 (D_X10_isThrown_ (q 0) (q 1) (q 2) (q 3) 1 1) (fun (x41 : Int32) (t42 : Int32) => (0, r, f, va_up q 3 t42)))) else (if z < 0 then bnd2 (D_X10_isThrown_ (q 0) (q 1) (q 2) (q 3) 0 1) (fun (x48 : Int32) (t49 : Int32) => (0, r, f, va_up q 3 t49)) else (if z ≤ 4 then bnd2 (D_X10_isThrown_ (q 0) (q 1) (q 2) (q 3) 0 0) (fun (x54 : Int32) (t55 : Int32) => bnd4 (D_X10_toldOf (r (2 * y.toNatClampNeg)) (r (2 * y.toNatClampNeg + 1)) (f y.toNatClampNeg) z) (fun (z60 : Int32) (R61 : Nat) (C62 : Nat) (F63 : Nat → Int64) => (if z60 = 0 then (-9, r, f, va_up (va_up q 3 t55) 1 (((va_up q 3 t55) 1) + 1)) else bnd4 (D_X10_become r f (va_up q 3 t55) u R61 C62 F63) (fun (x68 : Int32) (rn70 : Nat → Nat) (fn71 : Nat → Nat → Int64) (qn72 : Nat → Int32) => (x68, rn70, fn71, qn72))))) else bnd2 (D_X10_isThrown_ (q 0) (q 1) (q 2) (q 3) 0 1) (fun (x77 : Int32) (t78 : Int32) => (0, r, f, va_up q 3 t78))))))))
theorem D_X10_take_s {r : Nat → Nat} {f : Nat → Nat → Int64} {q : Nat → Int32} {y : Int32} {z : Int32} {u : Int32} : D_X10_take r f q y z u = bnd1 (D_X10_isTable y) (fun (z1 : Int32) => (if z1 = 0 then (if z < 0 then bnd2 (D_X10_isThrown_ (q 0) (q 1) (q 2) (q 3) 1 1) (fun (x7 : Int32) (t8 : Int32) => (0, r, f, va_up q 3 t8)) else (if z ≤ 4 then bnd2 (D_X10_isThrown_ (q 0) (q 1) (q 2) (q 3) 1 0) (fun (x13 : Int32) (t14 : Int32) => (0, r, f, va_up q 3 t14)) else bnd2 (D_X10_isThrown_ (q 0) (q 1) (q 2) (q 3) 1 1) (fun (x18 : Int32) (t19 : Int32) => (0, r, f, va_up q 3 t19)))) else bnd1 (D_X10_isTable u) (fun (z24 : Int32) => (if z24 = 0 then (if z < 0 then bnd2 (D_X10_isThrown_ (q 0) (q 1) (q 2) (q 3) 1 1) (fun (x30 : Int32) (t31 : Int32) => (0, r, f, va_up q 3 t31)) else (if z ≤ 4 then bnd2 (D_X10_isThrown_ (q 0) (q 1) (q 2) (q 3) 1 0) (fun (x36 : Int32) (t37 : Int32) => (0, r, f, va_up q 3 t37)) else bnd2 (D_X10_isThrown_ (q 0) (q 1) (q 2) (q 3) 1 1) (fun (x41 : Int32) (t42 : Int32) => (0, r, f, va_up q 3 t42)))) else (if z < 0 then bnd2 (D_X10_isThrown_ (q 0) (q 1) (q 2) (q 3) 0 1) (fun (x48 : Int32) (t49 : Int32) => (0, r, f, va_up q 3 t49)) else (if z ≤ 4 then bnd2 (D_X10_isThrown_ (q 0) (q 1) (q 2) (q 3) 0 0) (fun (x54 : Int32) (t55 : Int32) => bnd4 (D_X10_toldOf (r (2 * y.toNatClampNeg)) (r (2 * y.toNatClampNeg + 1)) (f y.toNatClampNeg) z) (fun (z60 : Int32) (R61 : Nat) (C62 : Nat) (F63 : Nat → Int64) => (if z60 = 0 then (-9, r, f, va_up (va_up q 3 t55) 1 (((va_up q 3 t55) 1) + 1)) else bnd4 (D_X10_become r f (va_up q 3 t55) u R61 C62 F63) (fun (x68 : Int32) (rn70 : Nat → Nat) (fn71 : Nat → Nat → Int64) (qn72 : Nat → Int32) => (x68, rn70, fn71, qn72))))) else bnd2 (D_X10_isThrown_ (q 0) (q 1) (q 2) (q 3) 0 1) (fun (x77 : Int32) (t78 : Int32) => (0, r, f, va_up q 3 t78)))))))) := rfl
set_option maxHeartbeats 4000000 in
set_option maxRecDepth 100000 in
theorem k_X10_take (κ : Kt) (l : Launch) (w : va_W) (a r : Nat → Nat) (f : Nat → Nat → Int64) (q : Nat → Int32) (y : Int32) (z : Int32) (u : Int32) (hm : mok r f) (o_x : Int32) (o_r' : Nat → Nat) (o_f' : Nat → Nat → Int64) (o_q' : Nat → Int32) (hR : D_X10_take r f q y z u = (o_x, o_r', o_f', o_q')) : CM κ l yX10_take cX10_take 5 (some .int) 6 144 7 76 [.ref (a 0), .int y, .int z, .int u] (mw κ a r f q (tb a) w) (fun o w' => ∃ (a' : Nat → Nat), o = some (.int o_x) ∧ (a' 0 = a 0) ∧ (mok o_r' o_f') ∧ (o_q' 2 = q 2) ∧ w' = mw κ a' o_r' o_f' o_q' (tb a') w) := by
  refine CM_begin (plainFor_of_name pn_RX10) (Nat.le_of_ble_eq_true rfl) ?_
  intro p e s m args below meth c A Q hX hnm hA3 hQ hB ls hl
  have hx := hX.1.1
  have hb := hX.1.2.1
  have hl : lv_has ls 5 [(0, .ref (a 0)), (1, .int y), (2, .int z), (3, .int u)] := hl
  replace hR := (D_X10_take_s).symm.trans hR
  refine lv_aload_n hx hb dX10_take_0 rfl (lv_at hl 0 rfl) ?_
  refine lv_iload_n hx hb dX10_take_1 rfl (lv_at hl 1 rfl) ?_
  obtain ⟨z1, hd2⟩ := ex1 (D_X10_isTable y)
  replace hR := bnd1_use hd2 hR
  refine call_S (n := 1) (As := [.int y]) (rest := [.ref (a 0)]) hX hB (k_X10_isTable κ l (mw κ a r f q (tb a) w) y z1 hd2) yk_X10_isTable wm_5_186 wm_5_187 wm_1_6 wm_5_188 ⟨Nat.le_of_ble_eq_true rfl, Nat.le_of_ble_eq_true rfl⟩ ⟨Nat.le_of_ble_eq_true rfl, Nat.le_of_ble_eq_true rfl⟩ rfl hl.1 rfl (Nat.le_of_ble_eq_true rfl) dX10_take_2 (fun o w' H locs hp hB => ?_)
  obtain ⟨rfl, hf3, hw9⟩ := hp
  replace hB : Bd κ A s (mw κ a r f q (tb a) w) H locs := by rw [hw9] at hB; exact hB
  rcases hf3 with rfl | ⟨rfl, hz4a, hz4b⟩
  · replace hR := ifp rfl hR
    refine W.eq (g2 := F0 m 5 ls [.int 0, .ref (a 0)]) rfl ?_
    refine lv_if_eq (tgt := 15) hx hb dX10_take_5 (by decide) (fun _ => ?_) (fun c5 => False.elim (by revert c5; decide))
    refine lv_iconst (v := 1) hx hb dX10_take_15 (by decide) ?_
    refine lv_goto (tgt := 20) hx hb dX10_take_16 (by decide) ?_
    refine lv_iload_n hx hb dX10_take_20 rfl (lv_at hl 2 rfl) ?_
    refine lv_if_lt (tgt := 29) hx hb dX10_take_21 (by decide) (fun c6 => ?_) (fun c6 => ?_)
    · replace hR := ifp c6 hR
      refine lv_iconst (v := 1) hx hb dX10_take_29 (by decide) ?_
      refine lv_goto (tgt := 34) hx hb dX10_take_30 (by decide) ?_
      obtain ⟨x7, t8, hd9⟩ := ex2 (D_X10_isThrown_ (q 0) (q 1) (q 2) (q 3) 1 1)
      replace hR := bnd2_use hd9 hR
      refine call_V (n := 2) (k0 := 0) (As := [.int 1, .int 1]) (rest := []) hX hB (k_X10_isThrown_ κ l (mw κ a r f q (tb a) w) 0 (a 0) (a 1) (q 0) (q 1) (q 2) (q 3) 1 1 (mw0x (a := a) (r := r) (f := f) (q := q) (T := tb a) (w := w) rfl) x7 t8 hd9) ⟨rfl, yk_X10_isThrown_⟩ wm_5_192 wm_5_194 wp_27 wm_1_6 wm_5_195 ⟨Nat.le_of_ble_eq_true rfl, Nat.le_of_ble_eq_true rfl⟩ ⟨Nat.le_of_ble_eq_true rfl, Nat.le_of_ble_eq_true rfl⟩ (mw0x (a := a) (r := r) (f := f) (q := q) (T := tb a) (w := w) rfl) rfl rfl rfl hl.1 rfl (Nat.le_of_ble_eq_true rfl) dX10_take_34 (fun o w' H locs hp hB => ?_)
      obtain ⟨rfl, hf10, hw9⟩ := hp
      replace hB : Bd κ A s (mw κ a r f (va_up q 3 t8) (tb a) w) H locs := by exact Bd_eq (mwQ3x rfl _) (by rw [hw9] at hB; exact hB)
      obtain rfl : x7 = 1 := hf10.trans (by decide)
      refine W.eq (g2 := F0 m 37 ls [.int 1]) rfl ?_
      refine lv_if_eq (tgt := 42) hx hb dX10_take_37 (by decide) (fun c11 => False.elim (by revert c11; decide)) (fun _ => ?_)
      refine lv_iconst (v := 0) hx hb dX10_take_40 (by decide) ?_
      rw [← hQ]
      exact end_i hX hB hA3 rfl rfl (by obtain ⟨rfl, rfl, rfl, rfl⟩ := pr4 hR; exact ⟨a, rfl, rfl, hm, rfl, rfl⟩) (Nat.le_of_ble_eq_true rfl) (Nat.le_of_ble_eq_true rfl) dX10_take_41
    · replace hR := ifn c6 hR
      refine lv_iload_n hx hb dX10_take_24 rfl (lv_at hl 2 rfl) ?_
      refine lv_iconst (v := 4) hx hb dX10_take_25 (by decide) ?_
      refine lv_icmp_le (tgt := 33) hx hb dX10_take_26 (by decide) (fun c12 => ?_) (fun c12 => ?_)
      · replace hR := ifp c12 hR
        refine lv_iconst (v := 0) hx hb dX10_take_33 (by decide) ?_
        obtain ⟨x13, t14, hd15⟩ := ex2 (D_X10_isThrown_ (q 0) (q 1) (q 2) (q 3) 1 0)
        replace hR := bnd2_use hd15 hR
        refine call_V (n := 2) (k0 := 0) (As := [.int 1, .int 0]) (rest := []) hX hB (k_X10_isThrown_ κ l (mw κ a r f q (tb a) w) 0 (a 0) (a 1) (q 0) (q 1) (q 2) (q 3) 1 0 (mw0x (a := a) (r := r) (f := f) (q := q) (T := tb a) (w := w) rfl) x13 t14 hd15) ⟨rfl, yk_X10_isThrown_⟩ wm_5_192 wm_5_194 wp_27 wm_1_6 wm_5_195 ⟨Nat.le_of_ble_eq_true rfl, Nat.le_of_ble_eq_true rfl⟩ ⟨Nat.le_of_ble_eq_true rfl, Nat.le_of_ble_eq_true rfl⟩ (mw0x (a := a) (r := r) (f := f) (q := q) (T := tb a) (w := w) rfl) rfl rfl rfl hl.1 rfl (Nat.le_of_ble_eq_true rfl) dX10_take_34 (fun o w' H locs hp hB => ?_)
        obtain ⟨rfl, hf16, hw9⟩ := hp
        replace hB : Bd κ A s (mw κ a r f (va_up q 3 t14) (tb a) w) H locs := by exact Bd_eq (mwQ3x rfl _) (by rw [hw9] at hB; exact hB)
        obtain rfl : x13 = 1 := hf16.trans (by decide)
        refine W.eq (g2 := F0 m 37 ls [.int 1]) rfl ?_
        refine lv_if_eq (tgt := 42) hx hb dX10_take_37 (by decide) (fun c17 => False.elim (by revert c17; decide)) (fun _ => ?_)
        refine lv_iconst (v := 0) hx hb dX10_take_40 (by decide) ?_
        rw [← hQ]
        exact end_i hX hB hA3 rfl rfl (by obtain ⟨rfl, rfl, rfl, rfl⟩ := pr4 hR; exact ⟨a, rfl, rfl, hm, rfl, rfl⟩) (Nat.le_of_ble_eq_true rfl) (Nat.le_of_ble_eq_true rfl) dX10_take_41
      · replace hR := ifn c12 hR
        refine lv_iconst (v := 1) hx hb dX10_take_29 (by decide) ?_
        refine lv_goto (tgt := 34) hx hb dX10_take_30 (by decide) ?_
        obtain ⟨x18, t19, hd20⟩ := ex2 (D_X10_isThrown_ (q 0) (q 1) (q 2) (q 3) 1 1)
        replace hR := bnd2_use hd20 hR
        refine call_V (n := 2) (k0 := 0) (As := [.int 1, .int 1]) (rest := []) hX hB (k_X10_isThrown_ κ l (mw κ a r f q (tb a) w) 0 (a 0) (a 1) (q 0) (q 1) (q 2) (q 3) 1 1 (mw0x (a := a) (r := r) (f := f) (q := q) (T := tb a) (w := w) rfl) x18 t19 hd20) ⟨rfl, yk_X10_isThrown_⟩ wm_5_192 wm_5_194 wp_27 wm_1_6 wm_5_195 ⟨Nat.le_of_ble_eq_true rfl, Nat.le_of_ble_eq_true rfl⟩ ⟨Nat.le_of_ble_eq_true rfl, Nat.le_of_ble_eq_true rfl⟩ (mw0x (a := a) (r := r) (f := f) (q := q) (T := tb a) (w := w) rfl) rfl rfl rfl hl.1 rfl (Nat.le_of_ble_eq_true rfl) dX10_take_34 (fun o w' H locs hp hB => ?_)
        obtain ⟨rfl, hf21, hw9⟩ := hp
        replace hB : Bd κ A s (mw κ a r f (va_up q 3 t19) (tb a) w) H locs := by exact Bd_eq (mwQ3x rfl _) (by rw [hw9] at hB; exact hB)
        obtain rfl : x18 = 1 := hf21.trans (by decide)
        refine W.eq (g2 := F0 m 37 ls [.int 1]) rfl ?_
        refine lv_if_eq (tgt := 42) hx hb dX10_take_37 (by decide) (fun c22 => False.elim (by revert c22; decide)) (fun _ => ?_)
        refine lv_iconst (v := 0) hx hb dX10_take_40 (by decide) ?_
        rw [← hQ]
        exact end_i hX hB hA3 rfl rfl (by obtain ⟨rfl, rfl, rfl, rfl⟩ := pr4 hR; exact ⟨a, rfl, rfl, hm, rfl, rfl⟩) (Nat.le_of_ble_eq_true rfl) (Nat.le_of_ble_eq_true rfl) dX10_take_41
  · replace hR := ifn (by decide) hR
    refine W.eq (g2 := F0 m 5 ls [.int 1, .ref (a 0)]) rfl ?_
    refine lv_if_eq (tgt := 15) hx hb dX10_take_5 (by decide) (fun c23 => False.elim (by revert c23; decide)) (fun _ => ?_)
    refine lv_iload_n hx hb dX10_take_8 rfl (lv_at hl 3 rfl) ?_
    obtain ⟨z24, hd25⟩ := ex1 (D_X10_isTable u)
    replace hR := bnd1_use hd25 hR
    refine call_S (n := 1) (As := [.int u]) (rest := [.ref (a 0)]) hX hB (k_X10_isTable κ l (mw κ a r f q (tb a) w) u z24 hd25) yk_X10_isTable wm_5_186 wm_5_187 wm_1_6 wm_5_188 ⟨Nat.le_of_ble_eq_true rfl, Nat.le_of_ble_eq_true rfl⟩ ⟨Nat.le_of_ble_eq_true rfl, Nat.le_of_ble_eq_true rfl⟩ rfl hl.1 rfl (Nat.le_of_ble_eq_true rfl) dX10_take_9 (fun o w' H locs hp hB => ?_)
    obtain ⟨rfl, hf26, hw9⟩ := hp
    replace hB : Bd κ A s (mw κ a r f q (tb a) w) H locs := by rw [hw9] at hB; exact hB
    rcases hf26 with rfl | ⟨rfl, hz27a, hz27b⟩
    · replace hR := ifp rfl hR
      refine W.eq (g2 := F0 m 12 ls [.int 0, .ref (a 0)]) rfl ?_
      refine lv_if_ne (tgt := 19) hx hb dX10_take_12 (by decide) (fun c28 => False.elim (by revert c28; decide)) (fun _ => ?_)
      refine lv_iconst (v := 1) hx hb dX10_take_15 (by decide) ?_
      refine lv_goto (tgt := 20) hx hb dX10_take_16 (by decide) ?_
      refine lv_iload_n hx hb dX10_take_20 rfl (lv_at hl 2 rfl) ?_
      refine lv_if_lt (tgt := 29) hx hb dX10_take_21 (by decide) (fun c29 => ?_) (fun c29 => ?_)
      · replace hR := ifp c29 hR
        refine lv_iconst (v := 1) hx hb dX10_take_29 (by decide) ?_
        refine lv_goto (tgt := 34) hx hb dX10_take_30 (by decide) ?_
        obtain ⟨x30, t31, hd32⟩ := ex2 (D_X10_isThrown_ (q 0) (q 1) (q 2) (q 3) 1 1)
        replace hR := bnd2_use hd32 hR
        refine call_V (n := 2) (k0 := 0) (As := [.int 1, .int 1]) (rest := []) hX hB (k_X10_isThrown_ κ l (mw κ a r f q (tb a) w) 0 (a 0) (a 1) (q 0) (q 1) (q 2) (q 3) 1 1 (mw0x (a := a) (r := r) (f := f) (q := q) (T := tb a) (w := w) rfl) x30 t31 hd32) ⟨rfl, yk_X10_isThrown_⟩ wm_5_192 wm_5_194 wp_27 wm_1_6 wm_5_195 ⟨Nat.le_of_ble_eq_true rfl, Nat.le_of_ble_eq_true rfl⟩ ⟨Nat.le_of_ble_eq_true rfl, Nat.le_of_ble_eq_true rfl⟩ (mw0x (a := a) (r := r) (f := f) (q := q) (T := tb a) (w := w) rfl) rfl rfl rfl hl.1 rfl (Nat.le_of_ble_eq_true rfl) dX10_take_34 (fun o w' H locs hp hB => ?_)
        obtain ⟨rfl, hf33, hw9⟩ := hp
        replace hB : Bd κ A s (mw κ a r f (va_up q 3 t31) (tb a) w) H locs := by exact Bd_eq (mwQ3x rfl _) (by rw [hw9] at hB; exact hB)
        obtain rfl : x30 = 1 := hf33.trans (by decide)
        refine W.eq (g2 := F0 m 37 ls [.int 1]) rfl ?_
        refine lv_if_eq (tgt := 42) hx hb dX10_take_37 (by decide) (fun c34 => False.elim (by revert c34; decide)) (fun _ => ?_)
        refine lv_iconst (v := 0) hx hb dX10_take_40 (by decide) ?_
        rw [← hQ]
        exact end_i hX hB hA3 rfl rfl (by obtain ⟨rfl, rfl, rfl, rfl⟩ := pr4 hR; exact ⟨a, rfl, rfl, hm, rfl, rfl⟩) (Nat.le_of_ble_eq_true rfl) (Nat.le_of_ble_eq_true rfl) dX10_take_41
      · replace hR := ifn c29 hR
        refine lv_iload_n hx hb dX10_take_24 rfl (lv_at hl 2 rfl) ?_
        refine lv_iconst (v := 4) hx hb dX10_take_25 (by decide) ?_
        refine lv_icmp_le (tgt := 33) hx hb dX10_take_26 (by decide) (fun c35 => ?_) (fun c35 => ?_)
        · replace hR := ifp c35 hR
          refine lv_iconst (v := 0) hx hb dX10_take_33 (by decide) ?_
          obtain ⟨x36, t37, hd38⟩ := ex2 (D_X10_isThrown_ (q 0) (q 1) (q 2) (q 3) 1 0)
          replace hR := bnd2_use hd38 hR
          refine call_V (n := 2) (k0 := 0) (As := [.int 1, .int 0]) (rest := []) hX hB (k_X10_isThrown_ κ l (mw κ a r f q (tb a) w) 0 (a 0) (a 1) (q 0) (q 1) (q 2) (q 3) 1 0 (mw0x (a := a) (r := r) (f := f) (q := q) (T := tb a) (w := w) rfl) x36 t37 hd38) ⟨rfl, yk_X10_isThrown_⟩ wm_5_192 wm_5_194 wp_27 wm_1_6 wm_5_195 ⟨Nat.le_of_ble_eq_true rfl, Nat.le_of_ble_eq_true rfl⟩ ⟨Nat.le_of_ble_eq_true rfl, Nat.le_of_ble_eq_true rfl⟩ (mw0x (a := a) (r := r) (f := f) (q := q) (T := tb a) (w := w) rfl) rfl rfl rfl hl.1 rfl (Nat.le_of_ble_eq_true rfl) dX10_take_34 (fun o w' H locs hp hB => ?_)
          obtain ⟨rfl, hf39, hw9⟩ := hp
          replace hB : Bd κ A s (mw κ a r f (va_up q 3 t37) (tb a) w) H locs := by exact Bd_eq (mwQ3x rfl _) (by rw [hw9] at hB; exact hB)
          obtain rfl : x36 = 1 := hf39.trans (by decide)
          refine W.eq (g2 := F0 m 37 ls [.int 1]) rfl ?_
          refine lv_if_eq (tgt := 42) hx hb dX10_take_37 (by decide) (fun c40 => False.elim (by revert c40; decide)) (fun _ => ?_)
          refine lv_iconst (v := 0) hx hb dX10_take_40 (by decide) ?_
          rw [← hQ]
          exact end_i hX hB hA3 rfl rfl (by obtain ⟨rfl, rfl, rfl, rfl⟩ := pr4 hR; exact ⟨a, rfl, rfl, hm, rfl, rfl⟩) (Nat.le_of_ble_eq_true rfl) (Nat.le_of_ble_eq_true rfl) dX10_take_41
        · replace hR := ifn c35 hR
          refine lv_iconst (v := 1) hx hb dX10_take_29 (by decide) ?_
          refine lv_goto (tgt := 34) hx hb dX10_take_30 (by decide) ?_
          obtain ⟨x41, t42, hd43⟩ := ex2 (D_X10_isThrown_ (q 0) (q 1) (q 2) (q 3) 1 1)
          replace hR := bnd2_use hd43 hR
          refine call_V (n := 2) (k0 := 0) (As := [.int 1, .int 1]) (rest := []) hX hB (k_X10_isThrown_ κ l (mw κ a r f q (tb a) w) 0 (a 0) (a 1) (q 0) (q 1) (q 2) (q 3) 1 1 (mw0x (a := a) (r := r) (f := f) (q := q) (T := tb a) (w := w) rfl) x41 t42 hd43) ⟨rfl, yk_X10_isThrown_⟩ wm_5_192 wm_5_194 wp_27 wm_1_6 wm_5_195 ⟨Nat.le_of_ble_eq_true rfl, Nat.le_of_ble_eq_true rfl⟩ ⟨Nat.le_of_ble_eq_true rfl, Nat.le_of_ble_eq_true rfl⟩ (mw0x (a := a) (r := r) (f := f) (q := q) (T := tb a) (w := w) rfl) rfl rfl rfl hl.1 rfl (Nat.le_of_ble_eq_true rfl) dX10_take_34 (fun o w' H locs hp hB => ?_)
          obtain ⟨rfl, hf44, hw9⟩ := hp
          replace hB : Bd κ A s (mw κ a r f (va_up q 3 t42) (tb a) w) H locs := by exact Bd_eq (mwQ3x rfl _) (by rw [hw9] at hB; exact hB)
          obtain rfl : x41 = 1 := hf44.trans (by decide)
          refine W.eq (g2 := F0 m 37 ls [.int 1]) rfl ?_
          refine lv_if_eq (tgt := 42) hx hb dX10_take_37 (by decide) (fun c45 => False.elim (by revert c45; decide)) (fun _ => ?_)
          refine lv_iconst (v := 0) hx hb dX10_take_40 (by decide) ?_
          rw [← hQ]
          exact end_i hX hB hA3 rfl rfl (by obtain ⟨rfl, rfl, rfl, rfl⟩ := pr4 hR; exact ⟨a, rfl, rfl, hm, rfl, rfl⟩) (Nat.le_of_ble_eq_true rfl) (Nat.le_of_ble_eq_true rfl) dX10_take_41
    · replace hR := ifn (by decide) hR
      refine W.eq (g2 := F0 m 12 ls [.int 1, .ref (a 0)]) rfl ?_
      refine lv_if_ne (tgt := 19) hx hb dX10_take_12 (by decide) (fun _ => ?_) (fun c46 => False.elim (by revert c46; decide))
      refine lv_iconst (v := 0) hx hb dX10_take_19 (by decide) ?_
      refine lv_iload_n hx hb dX10_take_20 rfl (lv_at hl 2 rfl) ?_
      refine lv_if_lt (tgt := 29) hx hb dX10_take_21 (by decide) (fun c47 => ?_) (fun c47 => ?_)
      · replace hR := ifp c47 hR
        refine lv_iconst (v := 1) hx hb dX10_take_29 (by decide) ?_
        refine lv_goto (tgt := 34) hx hb dX10_take_30 (by decide) ?_
        obtain ⟨x48, t49, hd50⟩ := ex2 (D_X10_isThrown_ (q 0) (q 1) (q 2) (q 3) 0 1)
        replace hR := bnd2_use hd50 hR
        refine call_V (n := 2) (k0 := 0) (As := [.int 0, .int 1]) (rest := []) hX hB (k_X10_isThrown_ κ l (mw κ a r f q (tb a) w) 0 (a 0) (a 1) (q 0) (q 1) (q 2) (q 3) 0 1 (mw0x (a := a) (r := r) (f := f) (q := q) (T := tb a) (w := w) rfl) x48 t49 hd50) ⟨rfl, yk_X10_isThrown_⟩ wm_5_192 wm_5_194 wp_27 wm_1_6 wm_5_195 ⟨Nat.le_of_ble_eq_true rfl, Nat.le_of_ble_eq_true rfl⟩ ⟨Nat.le_of_ble_eq_true rfl, Nat.le_of_ble_eq_true rfl⟩ (mw0x (a := a) (r := r) (f := f) (q := q) (T := tb a) (w := w) rfl) rfl rfl rfl hl.1 rfl (Nat.le_of_ble_eq_true rfl) dX10_take_34 (fun o w' H locs hp hB => ?_)
        obtain ⟨rfl, hf51, hw9⟩ := hp
        replace hB : Bd κ A s (mw κ a r f (va_up q 3 t49) (tb a) w) H locs := by exact Bd_eq (mwQ3x rfl _) (by rw [hw9] at hB; exact hB)
        obtain rfl : x48 = 1 := hf51.trans (by decide)
        refine W.eq (g2 := F0 m 37 ls [.int 1]) rfl ?_
        refine lv_if_eq (tgt := 42) hx hb dX10_take_37 (by decide) (fun c52 => False.elim (by revert c52; decide)) (fun _ => ?_)
        refine lv_iconst (v := 0) hx hb dX10_take_40 (by decide) ?_
        rw [← hQ]
        exact end_i hX hB hA3 rfl rfl (by obtain ⟨rfl, rfl, rfl, rfl⟩ := pr4 hR; exact ⟨a, rfl, rfl, hm, rfl, rfl⟩) (Nat.le_of_ble_eq_true rfl) (Nat.le_of_ble_eq_true rfl) dX10_take_41
      · replace hR := ifn c47 hR
        refine lv_iload_n hx hb dX10_take_24 rfl (lv_at hl 2 rfl) ?_
        refine lv_iconst (v := 4) hx hb dX10_take_25 (by decide) ?_
        refine lv_icmp_le (tgt := 33) hx hb dX10_take_26 (by decide) (fun c53 => ?_) (fun c53 => ?_)
        · replace hR := ifp c53 hR
          refine lv_iconst (v := 0) hx hb dX10_take_33 (by decide) ?_
          obtain ⟨x54, t55, hd56⟩ := ex2 (D_X10_isThrown_ (q 0) (q 1) (q 2) (q 3) 0 0)
          replace hR := bnd2_use hd56 hR
          refine call_V (n := 2) (k0 := 0) (As := [.int 0, .int 0]) (rest := []) hX hB (k_X10_isThrown_ κ l (mw κ a r f q (tb a) w) 0 (a 0) (a 1) (q 0) (q 1) (q 2) (q 3) 0 0 (mw0x (a := a) (r := r) (f := f) (q := q) (T := tb a) (w := w) rfl) x54 t55 hd56) ⟨rfl, yk_X10_isThrown_⟩ wm_5_192 wm_5_194 wp_27 wm_1_6 wm_5_195 ⟨Nat.le_of_ble_eq_true rfl, Nat.le_of_ble_eq_true rfl⟩ ⟨Nat.le_of_ble_eq_true rfl, Nat.le_of_ble_eq_true rfl⟩ (mw0x (a := a) (r := r) (f := f) (q := q) (T := tb a) (w := w) rfl) rfl rfl rfl hl.1 rfl (Nat.le_of_ble_eq_true rfl) dX10_take_34 (fun o w' H locs hp hB => ?_)
          obtain ⟨rfl, hf57, hw9⟩ := hp
          replace hB : Bd κ A s (mw κ a r f (va_up q 3 t55) (tb a) w) H locs := by exact Bd_eq (mwQ3x rfl _) (by rw [hw9] at hB; exact hB)
          obtain rfl : x54 = 0 := hf57.trans (by decide)
          refine W.eq (g2 := F0 m 37 ls [.int 0]) rfl ?_
          refine lv_if_eq (tgt := 42) hx hb dX10_take_37 (by decide) (fun _ => ?_) (fun c58 => False.elim (by revert c58; decide))
          refine lv_aload_n hx hb dX10_take_42 rfl (lv_at hl 0 rfl) ?_
          refine gf (k0 := 0) hX hB (mw0x (a := a) (r := r) (f := f) (q := (va_up q 3 t55)) (T := tb a) (w := w) rfl) rfl in10 0 (by decide) wm_5_162 rfl rfl dX10_take_43 ?_
          refine lv_iload_n hx hb dX10_take_46 rfl (lv_at hl 1 rfl) ?_
          refine aaldM (k0 := 1) hX hB (mw1 (a := a) (r := r) (f := f) (q := (va_up q 3 t55)) (T := tb a) (w := w)) (vp_in_mk (by assumption) (by assumption)) rfl dX10_take_47 ?_
          have hb59 := mok_r hm y.toNatClampNeg (by omega)
          refine lv_iload_n hx hb dX10_take_48 rfl (lv_at hl 2 rfl) ?_
          obtain ⟨z60, R61, C62, F63, hd64⟩ := ex4 (D_X10_toldOf (r (2 * y.toNatClampNeg)) (r (2 * y.toNatClampNeg + 1)) (f y.toNatClampNeg) z)
          replace hR := bnd4_use hd64 hR
          refine call_S (n := 2) (As := [.ref (a (2 + 2 * y.toNatClampNeg)), .int z]) (rest := []) hX hB (k_X10_toldOf κ l (mw κ a r f (va_up q 3 t55) (tb a) w) (2 + 2 * y.toNatClampNeg) (3 + 2 * y.toNatClampNeg) (a (2 + 2 * y.toNatClampNeg)) (a (3 + 2 * y.toNatClampNeg)) (r (2 * y.toNatClampNeg)) (r (2 * y.toNatClampNeg + 1)) (f y.toNatClampNeg) z (mwG (i := y.toNatClampNeg) (a := a) (r := r) (f := f) (q := (va_up q 3 t55)) (T := tb a) (w := w) (by omega)) (mwA (i := y.toNatClampNeg) (a := a) (r := r) (f := f) (q := (va_up q 3 t55)) (T := tb a) (w := w) (by omega)) (mok_shp (i := y.toNatClampNeg) hm (by omega)) (by omega) (fun k hk => sm_ng ((hm _ (by omega)).2 k hk)) ⟨by assumption, by first | assumption | exact Int32.not_lt.mp (by assumption)⟩ z60 R61 C62 F63 hd64) yk_X10_toldOf wm_6_124 wm_6_125 wm_1_6 wm_6_126 ⟨Nat.le_of_ble_eq_true rfl, Nat.le_of_ble_eq_true rfl⟩ ⟨Nat.le_of_ble_eq_true rfl, Nat.le_of_ble_eq_true rfl⟩ rfl hl.1 rfl (Nat.le_of_ble_eq_true rfl) dX10_take_49 (fun o w' H locs hp hB => ?_)
          rcases hp with ⟨hz0, rfl, hw9⟩ | ⟨hz0, q65, q66, rfl, ⟨⟨hd67a, hd67b, hd67c, hd67d⟩, hd67t⟩, hw9⟩
          · replace hB : Bd κ A s (mw κ a r f (va_up q 3 t55) (tb a) w) H locs := by rw [hw9] at hB; exact hB
            refine W.eq (g2 := F0 m 52 ls [.null]) rfl ?_
            replace hR := ifp hz0 hR
            refine lv_astoreN (lv' := [(4, .null), (0, .ref (a 0)), (1, .int y), (2, .int z), (3, .int u)]) hx hb dX10_take_52 hl (by decide) rfl (fun ls hl => ?_)
            refine lv_aloadN hx hb dX10_take_54 (lv_at hl 0 rfl) ?_
            refine lv_ifnonnullN hx hb dX10_take_56 ?_
            refine lv_aload_n hx hb dX10_take_59 rfl (lv_at hl 1 rfl) ?_
            refine call_V (n := 0) (k0 := 0) (As := []) (rest := []) hX hB (k_X10_no κ l (mw κ a r f (va_up q 3 t55) (tb a) w) 0 (a 0) (a 1) ((va_up q 3 t55) 0) ((va_up q 3 t55) 1) ((va_up q 3 t55) 2) ((va_up q 3 t55) 3) (mw0x (a := a) (r := r) (f := f) (q := (va_up q 3 t55)) (T := tb a) (w := w) rfl)) ⟨rfl, yk_X10_no⟩ wm_6_89 wm_6_91 wp_36 wm_1_6 wm_6_92 ⟨Nat.le_of_ble_eq_true rfl, Nat.le_of_ble_eq_true rfl⟩ ⟨Nat.le_of_ble_eq_true rfl, Nat.le_of_ble_eq_true rfl⟩ (mw0x (a := a) (r := r) (f := f) (q := (va_up q 3 t55)) (T := tb a) (w := w) rfl) rfl rfl rfl hl.1 rfl (Nat.le_of_ble_eq_true rfl) dX10_take_60 (fun o w' H locs hp hB => ?_)
            obtain ⟨rfl, hw9⟩ := hp
            replace hB : Bd κ A s (mw κ a r f (va_up (va_up q 3 t55) 1 (((va_up q 3 t55) 1) + 1)) (tb a) w) H locs := by exact Bd_eq (mwQ1x rfl _) (by rw [hw9] at hB; exact hB)
            refine W.eq (g2 := F0 m 63 ls [.int (-9)]) rfl ?_
            refine lv_goto (tgt := 73) hx hb dX10_take_63 (by decide) ?_
            rw [← hQ]
            exact end_i hX hB hA3 rfl rfl (by obtain ⟨rfl, rfl, rfl, rfl⟩ := pr4 hR; exact ⟨a, rfl, rfl, hm, rfl, rfl⟩) (Nat.le_of_ble_eq_true rfl) (Nat.le_of_ble_eq_true rfl) dX10_take_73
          · replace hB : Bd κ A s (lA κ q66 (R61 * 5) F63 :: gO q65 R61 C62 q66 :: mw κ a r f (va_up q 3 t55) (tb a) w) H locs := by rw [hw9] at hB; exact hB
            refine W.eq (g2 := F0 m 52 ls [.ref q65]) rfl ?_
            replace hR := ifn (by rw [hz0]; decide) hR
            refine lv_astore (lv' := [(4, .ref q65), (0, .ref (a 0)), (1, .int y), (2, .int z), (3, .int u)]) hx hb dX10_take_52 hl (by decide) rfl (fun ls hl => ?_)
            refine lv_aload hx hb dX10_take_54 (lv_at hl 0 rfl) ?_
            refine lv_ifnonnull (tgt := 66) hx hb dX10_take_56 (by decide) ?_
            refine lv_aload_n hx hb dX10_take_66 rfl (lv_at hl 1 rfl) ?_
            refine lv_iload_n hx hb dX10_take_67 rfl (lv_at hl 4 rfl) ?_
            refine lv_aload hx hb dX10_take_68 (lv_at hl 0 rfl) ?_
            obtain ⟨x68, rn70, fn71, qn72, hd73⟩ := ex4 (D_X10_become r f (va_up q 3 t55) u R61 C62 F63)
            replace hR := bnd4_use hd73 hR
            refine call_V (n := 2) (k0 := 2) (As := [.int u, .ref q65]) (rest := []) hX hB (k_X10_become κ l w a r f (va_up q 3 t55) u q65 q66 R61 C62 F63 hm ⟨by omega, by omega, by omega, by omega⟩ (by assumption) (by assumption) x68 rn70 fn71 qn72 hd73) ⟨rfl, yk_X10_become⟩ wm_6_108 wm_6_110 wp_37 wm_1_6 wm_6_111 ⟨Nat.le_of_ble_eq_true rfl, Nat.le_of_ble_eq_true rfl⟩ ⟨Nat.le_of_ble_eq_true rfl, Nat.le_of_ble_eq_true rfl⟩ (mw0x (a := a) (r := r) (f := f) (q := (va_up q 3 t55)) (T := tb a) (w := w) rfl) rfl rfl rfl hl.1 rfl (Nat.le_of_ble_eq_true rfl) dX10_take_70 (fun o w' H locs hp hB => ?_)
            obtain ⟨an69, rfl, hf74, hf75, hf76, hw9⟩ := hp
            replace hB : Bd κ A s (mw κ an69 rn70 fn71 qn72 (tb an69) w) H locs := by rw [hw9] at hB; exact hB
            refine W.eq (g2 := F0 m 73 ls [.int x68]) rfl ?_
            rw [← hQ]
            exact end_i hX hB hA3 rfl rfl (by obtain ⟨rfl, rfl, rfl, rfl⟩ := pr4 hR; exact ⟨an69, rfl, (hf74.trans rfl), hf75, (hf76.trans rfl), rfl⟩) (Nat.le_of_ble_eq_true rfl) (Nat.le_of_ble_eq_true rfl) dX10_take_73
        · replace hR := ifn c53 hR
          refine lv_iconst (v := 1) hx hb dX10_take_29 (by decide) ?_
          refine lv_goto (tgt := 34) hx hb dX10_take_30 (by decide) ?_
          obtain ⟨x77, t78, hd79⟩ := ex2 (D_X10_isThrown_ (q 0) (q 1) (q 2) (q 3) 0 1)
          replace hR := bnd2_use hd79 hR
          refine call_V (n := 2) (k0 := 0) (As := [.int 0, .int 1]) (rest := []) hX hB (k_X10_isThrown_ κ l (mw κ a r f q (tb a) w) 0 (a 0) (a 1) (q 0) (q 1) (q 2) (q 3) 0 1 (mw0x (a := a) (r := r) (f := f) (q := q) (T := tb a) (w := w) rfl) x77 t78 hd79) ⟨rfl, yk_X10_isThrown_⟩ wm_5_192 wm_5_194 wp_27 wm_1_6 wm_5_195 ⟨Nat.le_of_ble_eq_true rfl, Nat.le_of_ble_eq_true rfl⟩ ⟨Nat.le_of_ble_eq_true rfl, Nat.le_of_ble_eq_true rfl⟩ (mw0x (a := a) (r := r) (f := f) (q := q) (T := tb a) (w := w) rfl) rfl rfl rfl hl.1 rfl (Nat.le_of_ble_eq_true rfl) dX10_take_34 (fun o w' H locs hp hB => ?_)
          obtain ⟨rfl, hf80, hw9⟩ := hp
          replace hB : Bd κ A s (mw κ a r f (va_up q 3 t78) (tb a) w) H locs := by exact Bd_eq (mwQ3x rfl _) (by rw [hw9] at hB; exact hB)
          obtain rfl : x77 = 1 := hf80.trans (by decide)
          refine W.eq (g2 := F0 m 37 ls [.int 1]) rfl ?_
          refine lv_if_eq (tgt := 42) hx hb dX10_take_37 (by decide) (fun c81 => False.elim (by revert c81; decide)) (fun _ => ?_)
          refine lv_iconst (v := 0) hx hb dX10_take_40 (by decide) ?_
          rw [← hQ]
          exact end_i hX hB hA3 rfl rfl (by obtain ⟨rfl, rfl, rfl, rfl⟩ := pr4 hR; exact ⟨a, rfl, rfl, hm, rfl, rfl⟩) (Nat.le_of_ble_eq_true rfl) (Nat.le_of_ble_eq_true rfl) dX10_take_41
noncomputable def D_X10_solve_141 (r : Nat → Nat) (f : Nat → Nat → Int64) (q : Nat → Int32) (y : Int32) (v : Int32) (t35 : Int32) (F49 : Nat → Int64) (F51 : Nat → Int64) (K54 : Nat) (F65 : Nat → Int64) (nn : Nat) : Nat → (Nat → Int64) → Int32 × (Nat → Nat) × (Nat → Nat → Int64) × (Nat → Int32) := @Nat.rec (fun _ => Nat → (Nat → Int64) → Int32 × (Nat → Nat) × (Nat → Nat → Int64) × (Nat → Int32)) (fun _ _ => default) (fun _ lb141 (y9_141 : Nat) (fb73_141 : Nat → Int64) => (if K54 ≤ y9_141 then bnd1 (D_X7_isGreat (r (2 * y.toNatClampNeg + 1)) 1 fb73_141) (fun (x115 : Int32) => (if x115 = 0 then bnd1 (D_X7_product (r (2 * y.toNatClampNeg + 1)) (r (2 * y.toNatClampNeg + 1)) F49 (r (2 * y.toNatClampNeg + 1)) 1 fb73_141) (fun (F122 : Nat → Int64) => bnd4 (D_X10_become r f (va_up q 3 t35) v (r (2 * y.toNatClampNeg + 1)) 1 F122) (fun (x124 : Int32) (rn126 : Nat → Nat) (fn127 : Nat → Nat → Int64) (qn128 : Nat → Int32) => (x124, rn126, fn127, qn128))) else (-9, r, f, va_up (va_up q 3 t35) 1 (((va_up q 3 t35) 1) + 1)))) else (lb141 (y9_141 + 1) (vp_updL fb73_141 (y9_141 * 5 + 0) ((F65 (y9_141 * 5 + 0)) / (F51 (y9_141 * 5 + y9_141))))))) nn
theorem D_X10_solve_141_s {r : Nat → Nat} {f : Nat → Nat → Int64} {q : Nat → Int32} {y : Int32} {v : Int32} {t35 : Int32} {F49 : Nat → Int64} {F51 : Nat → Int64} {K54 : Nat} {F65 : Nat → Int64} {nn : Nat} {y9_141 : Nat} {fb73_141 : Nat → Int64} : D_X10_solve_141 r f q y v t35 F49 F51 K54 F65 (nn + 1) y9_141 fb73_141 = (if K54 ≤ y9_141 then bnd1 (D_X7_isGreat (r (2 * y.toNatClampNeg + 1)) 1 fb73_141) (fun (x115 : Int32) => (if x115 = 0 then bnd1 (D_X7_product (r (2 * y.toNatClampNeg + 1)) (r (2 * y.toNatClampNeg + 1)) F49 (r (2 * y.toNatClampNeg + 1)) 1 fb73_141) (fun (F122 : Nat → Int64) => bnd4 (D_X10_become r f (va_up q 3 t35) v (r (2 * y.toNatClampNeg + 1)) 1 F122) (fun (x124 : Int32) (rn126 : Nat → Nat) (fn127 : Nat → Nat → Int64) (qn128 : Nat → Int32) => (x124, rn126, fn127, qn128))) else (-9, r, f, va_up (va_up q 3 t35) 1 (((va_up q 3 t35) 1) + 1)))) else ((D_X10_solve_141 r f q y v t35 F49 F51 K54 F65 nn) (y9_141 + 1) (vp_updL fb73_141 (y9_141 * 5 + 0) ((F65 (y9_141 * 5 + 0)) / (F51 (y9_141 * 5 + y9_141)))))) := rfl
noncomputable def D_X10_solve (r : Nat → Nat) (f : Nat → Nat → Int64) (q : Nat → Int32) (y : Int32) (z : Int32) (u : Int32) (v : Int32) : Int32 × (Nat → Nat) × (Nat → Nat → Int64) × (Nat → Int32) := bnd1 (D_X10_isTable y) (fun (z1 : Int32) => (if z1 = 0 then bnd2 (D_X10_isThrown__ (q 0) (q 1) (q 2) (q 3) 1) (fun (x6 : Int32) (t7 : Int32) => (0, r, f, va_up q 3 t7)) else bnd1 (D_X10_isColumn r f q z u) (fun (x12 : Int32) => (if x12 = 0 then bnd2 (D_X10_isThrown__ (q 0) (q 1) (q 2) (q 3) 1) (fun (x17 : Int32) (t18 : Int32) => (0, r, f, va_up q 3 t18)) else bnd1 (D_X10_isTable v) (fun (z23 : Int32) => (if z23 = 0 then bnd2 (D_X10_isThrown__ (q 0) (q 1) (q 2) (q 3) 1) (fun (x28 : Int32) (t29 : Int32) => (0, r, f, va_up q 3 t29)) else bnd2 (D_X10_isThrown__ (q 0) (q 1) (q 2) (q 3) 0) (fun (x34 : Int32) (t35 : Int32) => (if (r (2 * y.toNatClampNeg)) = (r (2 * z.toNatClampNeg)) then bnd7 (D_X9_init (r (2 * y.toNatClampNeg)) (r (2 * y.toNatClampNeg + 1)) (f y.toNatClampNeg)) (fun (F49 : Nat → Int64) (F50 : Nat → Int64) (F51 : Nat → Int64) (S52 : Int32) (S53 : Int32) (K54 : Nat) (G55 : Int32) => (if G55 = 0 then bnd1 (D_X10_column ((va_up q 3 t35) 0) ((va_up q 3 t35) 1) ((va_up q 3 t35) 2) ((va_up q 3 t35) 3) (r (2 * z.toNatClampNeg)) (r (2 * z.toNatClampNeg + 1)) (f z.toNatClampNeg) z ((u).toNatClampNeg)) (fun (F61 : Nat → Int64) => bnd1 (D_X7_product (r (2 * y.toNatClampNeg)) (r (2 * y.toNatClampNeg)) F50 (r (2 * z.toNatClampNeg)) 1 F61) (fun (F65 : Nat → Int64) => bnd1 (D_X10_goes (r (2 * y.toNatClampNeg)) (r (2 * y.toNatClampNeg + 1)) F51 K54 S52 S53 G55 (r (2 * y.toNatClampNeg)) 1 F65) (fun (x67 : Int32) => (if x67 = 0 then (-9, r, f, va_up (va_up q 3 t35) 1 (((va_up q 3 t35) 1) + 1)) else (D_X10_solve_141 r f q y v t35 F49 F51 K54 F65 (K54 + 1 - 0 + 1) 0 (fun _ => 0)))))) else (-9, r, f, va_up (va_up q 3 t35) 1 (((va_up q 3 t35) 1) + 1)))) else (-9, r, f, va_up (va_up q 3 t35) 1 (((va_up q 3 t35) 1) + 1))))))))))
theorem D_X10_solve_s {r : Nat → Nat} {f : Nat → Nat → Int64} {q : Nat → Int32} {y : Int32} {z : Int32} {u : Int32} {v : Int32} : D_X10_solve r f q y z u v = bnd1 (D_X10_isTable y) (fun (z1 : Int32) => (if z1 = 0 then bnd2 (D_X10_isThrown__ (q 0) (q 1) (q 2) (q 3) 1) (fun (x6 : Int32) (t7 : Int32) => (0, r, f, va_up q 3 t7)) else bnd1 (D_X10_isColumn r f q z u) (fun (x12 : Int32) => (if x12 = 0 then bnd2 (D_X10_isThrown__ (q 0) (q 1) (q 2) (q 3) 1) (fun (x17 : Int32) (t18 : Int32) => (0, r, f, va_up q 3 t18)) else bnd1 (D_X10_isTable v) (fun (z23 : Int32) => (if z23 = 0 then bnd2 (D_X10_isThrown__ (q 0) (q 1) (q 2) (q 3) 1) (fun (x28 : Int32) (t29 : Int32) => (0, r, f, va_up q 3 t29)) else bnd2 (D_X10_isThrown__ (q 0) (q 1) (q 2) (q 3) 0) (fun (x34 : Int32) (t35 : Int32) => (if (r (2 * y.toNatClampNeg)) = (r (2 * z.toNatClampNeg)) then bnd7 (D_X9_init (r (2 * y.toNatClampNeg)) (r (2 * y.toNatClampNeg + 1)) (f y.toNatClampNeg)) (fun (F49 : Nat → Int64) (F50 : Nat → Int64) (F51 : Nat → Int64) (S52 : Int32) (S53 : Int32) (K54 : Nat) (G55 : Int32) => (if G55 = 0 then bnd1 (D_X10_column ((va_up q 3 t35) 0) ((va_up q 3 t35) 1) ((va_up q 3 t35) 2) ((va_up q 3 t35) 3) (r (2 * z.toNatClampNeg)) (r (2 * z.toNatClampNeg + 1)) (f z.toNatClampNeg) z ((u).toNatClampNeg)) (fun (F61 : Nat → Int64) => bnd1 (D_X7_product (r (2 * y.toNatClampNeg)) (r (2 * y.toNatClampNeg)) F50 (r (2 * z.toNatClampNeg)) 1 F61) (fun (F65 : Nat → Int64) => bnd1 (D_X10_goes (r (2 * y.toNatClampNeg)) (r (2 * y.toNatClampNeg + 1)) F51 K54 S52 S53 G55 (r (2 * y.toNatClampNeg)) 1 F65) (fun (x67 : Int32) => (if x67 = 0 then (-9, r, f, va_up (va_up q 3 t35) 1 (((va_up q 3 t35) 1) + 1)) else (D_X10_solve_141 r f q y v t35 F49 F51 K54 F65 (K54 + 1 - 0 + 1) 0 (fun _ => 0)))))) else (-9, r, f, va_up (va_up q 3 t35) 1 (((va_up q 3 t35) 1) + 1)))) else (-9, r, f, va_up (va_up q 3 t35) 1 (((va_up q 3 t35) 1) + 1)))))))))) := rfl
set_option maxHeartbeats 4000000 in
set_option maxRecDepth 100000 in
theorem k_X10_solve (κ : Kt) (l : Launch) (w : va_W) (a r : Nat → Nat) (f : Nat → Nat → Int64) (q : Nat → Int32) (y : Int32) (z : Int32) (u : Int32) (v : Int32) (hm : mok r f) (o_x : Int32) (o_r' : Nat → Nat) (o_f' : Nat → Nat → Int64) (o_q' : Nat → Int32) (hR : D_X10_solve r f q y z u v = (o_x, o_r', o_f', o_q')) : CM κ l yX10_solve cX10_solve 10 (some .int) 5 121 15 168 [.ref (a 0), .int y, .int z, .int u, .int v] (mw κ a r f q (tb a) w) (fun o w' => ∃ (a' : Nat → Nat), o = some (.int o_x) ∧ (a' 0 = a 0) ∧ (mok o_r' o_f') ∧ (o_q' 2 = q 2) ∧ w' = mw κ a' o_r' o_f' o_q' (tb a') w) := by
  refine CM_begin (plainFor_of_name pn_RX10) (Nat.le_of_ble_eq_true rfl) ?_
  intro p e s m args below meth c A Q hX hnm hA3 hQ hB ls hl
  have hx := hX.1.1
  have hb := hX.1.2.1
  have hl : lv_has ls 10 [(0, .ref (a 0)), (1, .int y), (2, .int z), (3, .int u), (4, .int v)] := hl
  replace hR := (D_X10_solve_s).symm.trans hR
  refine lv_aload_n hx hb dX10_solve_0 rfl (lv_at hl 0 rfl) ?_
  refine lv_iload_n hx hb dX10_solve_1 rfl (lv_at hl 1 rfl) ?_
  obtain ⟨z1, hd2⟩ := ex1 (D_X10_isTable y)
  replace hR := bnd1_use hd2 hR
  refine call_S (n := 1) (As := [.int y]) (rest := [.ref (a 0)]) hX hB (k_X10_isTable κ l (mw κ a r f q (tb a) w) y z1 hd2) yk_X10_isTable wm_5_186 wm_5_187 wm_1_6 wm_5_188 ⟨Nat.le_of_ble_eq_true rfl, Nat.le_of_ble_eq_true rfl⟩ ⟨Nat.le_of_ble_eq_true rfl, Nat.le_of_ble_eq_true rfl⟩ rfl hl.1 rfl (Nat.le_of_ble_eq_true rfl) dX10_solve_2 (fun o w' H locs hp hB => ?_)
  obtain ⟨rfl, hf3, hw9⟩ := hp
  replace hB : Bd κ A s (mw κ a r f q (tb a) w) H locs := by rw [hw9] at hB; exact hB
  rcases hf3 with rfl | ⟨rfl, hz4a, hz4b⟩
  · replace hR := ifp rfl hR
    refine W.eq (g2 := F0 m 5 ls [.int 0, .ref (a 0)]) rfl ?_
    refine lv_if_eq (tgt := 25) hx hb dX10_solve_5 (by decide) (fun _ => ?_) (fun c5 => False.elim (by revert c5; decide))
    refine lv_iconst (v := 1) hx hb dX10_solve_25 (by decide) ?_
    refine lv_goto (tgt := 30) hx hb dX10_solve_26 (by decide) ?_
    obtain ⟨x6, t7, hd8⟩ := ex2 (D_X10_isThrown__ (q 0) (q 1) (q 2) (q 3) 1)
    replace hR := bnd2_use hd8 hR
    refine call_V (n := 1) (k0 := 0) (As := [.int 1]) (rest := []) hX hB (k_X10_isThrown__ κ l (mw κ a r f q (tb a) w) 0 (a 0) (a 1) (q 0) (q 1) (q 2) (q 3) 1 (mw0x (a := a) (r := r) (f := f) (q := q) (T := tb a) (w := w) rfl) x6 t7 hd8) ⟨rfl, yk_X10_isThrown__⟩ wm_6_15 wm_6_17 wp_33 wm_1_6 wm_6_18 ⟨Nat.le_of_ble_eq_true rfl, Nat.le_of_ble_eq_true rfl⟩ ⟨Nat.le_of_ble_eq_true rfl, Nat.le_of_ble_eq_true rfl⟩ (mw0x (a := a) (r := r) (f := f) (q := q) (T := tb a) (w := w) rfl) rfl rfl rfl hl.1 rfl (Nat.le_of_ble_eq_true rfl) dX10_solve_30 (fun o w' H locs hp hB => ?_)
    obtain ⟨rfl, hf9, hw9⟩ := hp
    replace hB : Bd κ A s (mw κ a r f (va_up q 3 t7) (tb a) w) H locs := by exact Bd_eq (mwQ3x rfl _) (by rw [hw9] at hB; exact hB)
    obtain rfl : x6 = 1 := hf9.trans (by decide)
    refine W.eq (g2 := F0 m 33 ls [.int 1]) rfl ?_
    refine lv_if_eq (tgt := 38) hx hb dX10_solve_33 (by decide) (fun c10 => False.elim (by revert c10; decide)) (fun _ => ?_)
    refine lv_iconst (v := 0) hx hb dX10_solve_36 (by decide) ?_
    rw [← hQ]
    exact end_i hX hB hA3 rfl rfl (by obtain ⟨rfl, rfl, rfl, rfl⟩ := pr4 hR; exact ⟨a, rfl, rfl, hm, rfl, rfl⟩) (Nat.le_of_ble_eq_true rfl) (Nat.le_of_ble_eq_true rfl) dX10_solve_37
  · replace hR := ifn (by decide) hR
    refine W.eq (g2 := F0 m 5 ls [.int 1, .ref (a 0)]) rfl ?_
    refine lv_if_eq (tgt := 25) hx hb dX10_solve_5 (by decide) (fun c11 => False.elim (by revert c11; decide)) (fun _ => ?_)
    refine lv_aload_n hx hb dX10_solve_8 rfl (lv_at hl 0 rfl) ?_
    refine lv_iload_n hx hb dX10_solve_9 rfl (lv_at hl 2 rfl) ?_
    refine lv_iload_n hx hb dX10_solve_10 rfl (lv_at hl 3 rfl) ?_
    obtain ⟨x12, hd13⟩ := ex1 (D_X10_isColumn r f q z u)
    replace hR := bnd1_use hd13 hR
    refine call_V (n := 2) (k0 := 0) (As := [.int z, .int u]) (rest := [.ref (a 0)]) hX hB (k_X10_isColumn κ l w a r f q z u hm x12 hd13) ⟨rfl, yk_X10_isColumn⟩ wm_5_233 wm_5_235 wp_32 wm_1_6 wm_5_236 ⟨Nat.le_of_ble_eq_true rfl, Nat.le_of_ble_eq_true rfl⟩ ⟨Nat.le_of_ble_eq_true rfl, Nat.le_of_ble_eq_true rfl⟩ (mw0x (a := a) (r := r) (f := f) (q := q) (T := tb a) (w := w) rfl) rfl rfl rfl hl.1 rfl (Nat.le_of_ble_eq_true rfl) dX10_solve_11 (fun o w' H locs hp hB => ?_)
    obtain ⟨rfl, hf14, hw9⟩ := hp
    replace hB : Bd κ A s (mw κ a r f q (tb a) w) H locs := by rw [hw9] at hB; exact hB
    rcases hf14 with rfl | ⟨rfl, hz15a, hz15b, hz15c, hz15d⟩
    · replace hR := ifp rfl hR
      refine W.eq (g2 := F0 m 14 ls [.int 0, .ref (a 0)]) rfl ?_
      refine lv_if_eq (tgt := 25) hx hb dX10_solve_14 (by decide) (fun _ => ?_) (fun c16 => False.elim (by revert c16; decide))
      refine lv_iconst (v := 1) hx hb dX10_solve_25 (by decide) ?_
      refine lv_goto (tgt := 30) hx hb dX10_solve_26 (by decide) ?_
      obtain ⟨x17, t18, hd19⟩ := ex2 (D_X10_isThrown__ (q 0) (q 1) (q 2) (q 3) 1)
      replace hR := bnd2_use hd19 hR
      refine call_V (n := 1) (k0 := 0) (As := [.int 1]) (rest := []) hX hB (k_X10_isThrown__ κ l (mw κ a r f q (tb a) w) 0 (a 0) (a 1) (q 0) (q 1) (q 2) (q 3) 1 (mw0x (a := a) (r := r) (f := f) (q := q) (T := tb a) (w := w) rfl) x17 t18 hd19) ⟨rfl, yk_X10_isThrown__⟩ wm_6_15 wm_6_17 wp_33 wm_1_6 wm_6_18 ⟨Nat.le_of_ble_eq_true rfl, Nat.le_of_ble_eq_true rfl⟩ ⟨Nat.le_of_ble_eq_true rfl, Nat.le_of_ble_eq_true rfl⟩ (mw0x (a := a) (r := r) (f := f) (q := q) (T := tb a) (w := w) rfl) rfl rfl rfl hl.1 rfl (Nat.le_of_ble_eq_true rfl) dX10_solve_30 (fun o w' H locs hp hB => ?_)
      obtain ⟨rfl, hf20, hw9⟩ := hp
      replace hB : Bd κ A s (mw κ a r f (va_up q 3 t18) (tb a) w) H locs := by exact Bd_eq (mwQ3x rfl _) (by rw [hw9] at hB; exact hB)
      obtain rfl : x17 = 1 := hf20.trans (by decide)
      refine W.eq (g2 := F0 m 33 ls [.int 1]) rfl ?_
      refine lv_if_eq (tgt := 38) hx hb dX10_solve_33 (by decide) (fun c21 => False.elim (by revert c21; decide)) (fun _ => ?_)
      refine lv_iconst (v := 0) hx hb dX10_solve_36 (by decide) ?_
      rw [← hQ]
      exact end_i hX hB hA3 rfl rfl (by obtain ⟨rfl, rfl, rfl, rfl⟩ := pr4 hR; exact ⟨a, rfl, rfl, hm, rfl, rfl⟩) (Nat.le_of_ble_eq_true rfl) (Nat.le_of_ble_eq_true rfl) dX10_solve_37
    · replace hR := ifn (by decide) hR
      refine W.eq (g2 := F0 m 14 ls [.int 1, .ref (a 0)]) rfl ?_
      refine lv_if_eq (tgt := 25) hx hb dX10_solve_14 (by decide) (fun c22 => False.elim (by revert c22; decide)) (fun _ => ?_)
      refine lv_iload hx hb dX10_solve_17 (lv_at hl 4 rfl) ?_
      obtain ⟨z23, hd24⟩ := ex1 (D_X10_isTable v)
      replace hR := bnd1_use hd24 hR
      refine call_S (n := 1) (As := [.int v]) (rest := [.ref (a 0)]) hX hB (k_X10_isTable κ l (mw κ a r f q (tb a) w) v z23 hd24) yk_X10_isTable wm_5_186 wm_5_187 wm_1_6 wm_5_188 ⟨Nat.le_of_ble_eq_true rfl, Nat.le_of_ble_eq_true rfl⟩ ⟨Nat.le_of_ble_eq_true rfl, Nat.le_of_ble_eq_true rfl⟩ rfl hl.1 rfl (Nat.le_of_ble_eq_true rfl) dX10_solve_19 (fun o w' H locs hp hB => ?_)
      obtain ⟨rfl, hf25, hw9⟩ := hp
      replace hB : Bd κ A s (mw κ a r f q (tb a) w) H locs := by rw [hw9] at hB; exact hB
      rcases hf25 with rfl | ⟨rfl, hz26a, hz26b⟩
      · replace hR := ifp rfl hR
        refine W.eq (g2 := F0 m 22 ls [.int 0, .ref (a 0)]) rfl ?_
        refine lv_if_ne (tgt := 29) hx hb dX10_solve_22 (by decide) (fun c27 => False.elim (by revert c27; decide)) (fun _ => ?_)
        refine lv_iconst (v := 1) hx hb dX10_solve_25 (by decide) ?_
        refine lv_goto (tgt := 30) hx hb dX10_solve_26 (by decide) ?_
        obtain ⟨x28, t29, hd30⟩ := ex2 (D_X10_isThrown__ (q 0) (q 1) (q 2) (q 3) 1)
        replace hR := bnd2_use hd30 hR
        refine call_V (n := 1) (k0 := 0) (As := [.int 1]) (rest := []) hX hB (k_X10_isThrown__ κ l (mw κ a r f q (tb a) w) 0 (a 0) (a 1) (q 0) (q 1) (q 2) (q 3) 1 (mw0x (a := a) (r := r) (f := f) (q := q) (T := tb a) (w := w) rfl) x28 t29 hd30) ⟨rfl, yk_X10_isThrown__⟩ wm_6_15 wm_6_17 wp_33 wm_1_6 wm_6_18 ⟨Nat.le_of_ble_eq_true rfl, Nat.le_of_ble_eq_true rfl⟩ ⟨Nat.le_of_ble_eq_true rfl, Nat.le_of_ble_eq_true rfl⟩ (mw0x (a := a) (r := r) (f := f) (q := q) (T := tb a) (w := w) rfl) rfl rfl rfl hl.1 rfl (Nat.le_of_ble_eq_true rfl) dX10_solve_30 (fun o w' H locs hp hB => ?_)
        obtain ⟨rfl, hf31, hw9⟩ := hp
        replace hB : Bd κ A s (mw κ a r f (va_up q 3 t29) (tb a) w) H locs := by exact Bd_eq (mwQ3x rfl _) (by rw [hw9] at hB; exact hB)
        obtain rfl : x28 = 1 := hf31.trans (by decide)
        refine W.eq (g2 := F0 m 33 ls [.int 1]) rfl ?_
        refine lv_if_eq (tgt := 38) hx hb dX10_solve_33 (by decide) (fun c32 => False.elim (by revert c32; decide)) (fun _ => ?_)
        refine lv_iconst (v := 0) hx hb dX10_solve_36 (by decide) ?_
        rw [← hQ]
        exact end_i hX hB hA3 rfl rfl (by obtain ⟨rfl, rfl, rfl, rfl⟩ := pr4 hR; exact ⟨a, rfl, rfl, hm, rfl, rfl⟩) (Nat.le_of_ble_eq_true rfl) (Nat.le_of_ble_eq_true rfl) dX10_solve_37
      · replace hR := ifn (by decide) hR
        refine W.eq (g2 := F0 m 22 ls [.int 1, .ref (a 0)]) rfl ?_
        refine lv_if_ne (tgt := 29) hx hb dX10_solve_22 (by decide) (fun _ => ?_) (fun c33 => False.elim (by revert c33; decide))
        refine lv_iconst (v := 0) hx hb dX10_solve_29 (by decide) ?_
        obtain ⟨x34, t35, hd36⟩ := ex2 (D_X10_isThrown__ (q 0) (q 1) (q 2) (q 3) 0)
        replace hR := bnd2_use hd36 hR
        refine call_V (n := 1) (k0 := 0) (As := [.int 0]) (rest := []) hX hB (k_X10_isThrown__ κ l (mw κ a r f q (tb a) w) 0 (a 0) (a 1) (q 0) (q 1) (q 2) (q 3) 0 (mw0x (a := a) (r := r) (f := f) (q := q) (T := tb a) (w := w) rfl) x34 t35 hd36) ⟨rfl, yk_X10_isThrown__⟩ wm_6_15 wm_6_17 wp_33 wm_1_6 wm_6_18 ⟨Nat.le_of_ble_eq_true rfl, Nat.le_of_ble_eq_true rfl⟩ ⟨Nat.le_of_ble_eq_true rfl, Nat.le_of_ble_eq_true rfl⟩ (mw0x (a := a) (r := r) (f := f) (q := q) (T := tb a) (w := w) rfl) rfl rfl rfl hl.1 rfl (Nat.le_of_ble_eq_true rfl) dX10_solve_30 (fun o w' H locs hp hB => ?_)
        obtain ⟨rfl, hf37, hw9⟩ := hp
        replace hB : Bd κ A s (mw κ a r f (va_up q 3 t35) (tb a) w) H locs := by exact Bd_eq (mwQ3x rfl _) (by rw [hw9] at hB; exact hB)
        obtain rfl : x34 = 0 := hf37.trans (by decide)
        refine W.eq (g2 := F0 m 33 ls [.int 0]) rfl ?_
        refine lv_if_eq (tgt := 38) hx hb dX10_solve_33 (by decide) (fun _ => ?_) (fun c38 => False.elim (by revert c38; decide))
        refine lv_aload_n hx hb dX10_solve_38 rfl (lv_at hl 0 rfl) ?_
        refine gf (k0 := 0) hX hB (mw0x (a := a) (r := r) (f := f) (q := (va_up q 3 t35)) (T := tb a) (w := w) rfl) rfl in10 0 (by decide) wm_5_162 rfl rfl dX10_solve_39 ?_
        refine lv_iload_n hx hb dX10_solve_42 rfl (lv_at hl 1 rfl) ?_
        refine aaldM (k0 := 1) hX hB (mw1 (a := a) (r := r) (f := f) (q := (va_up q 3 t35)) (T := tb a) (w := w)) (vp_in_mk (by assumption) (by assumption)) rfl dX10_solve_43 ?_
        have hb39 := mok_r hm y.toNatClampNeg (by omega)
        refine lv_astore (lv' := [(5, .ref (a (2 + 2 * y.toNatClampNeg))), (0, .ref (a 0)), (1, .int y), (2, .int z), (3, .int u), (4, .int v)]) hx hb dX10_solve_44 hl (by decide) rfl (fun ls hl => ?_)
        refine lv_aload hx hb dX10_solve_46 (lv_at hl 0 rfl) ?_
        refine gf (k0 := 2 + 2 * y.toNatClampNeg) hX hB (mwG (i := y.toNatClampNeg) (a := a) (r := r) (f := f) (q := (va_up q 3 t35)) (T := tb a) (w := w) (by omega)) rfl in7 0 (by decide) wm_5_148 rfl rfl dX10_solve_48 ?_
        refine lv_aload_n hx hb dX10_solve_51 rfl (lv_at hl 1 rfl) ?_
        refine gf (k0 := 0) hX hB (mw0x (a := a) (r := r) (f := f) (q := (va_up q 3 t35)) (T := tb a) (w := w) rfl) rfl in10 0 (by decide) wm_5_162 rfl rfl dX10_solve_52 ?_
        refine lv_iload_n hx hb dX10_solve_55 rfl (lv_at hl 3 rfl) ?_
        refine aaldM (k0 := 1) hX hB (mw1 (a := a) (r := r) (f := f) (q := (va_up q 3 t35)) (T := tb a) (w := w)) (vp_in_mk (by assumption) (by assumption)) rfl dX10_solve_56 ?_
        have hb40 := mok_r hm z.toNatClampNeg (by omega)
        refine gf (k0 := 2 + 2 * z.toNatClampNeg) hX hB (mwG (i := z.toNatClampNeg) (a := a) (r := r) (f := f) (q := (va_up q 3 t35)) (T := tb a) (w := w) (by omega)) rfl in7 0 (by decide) wm_5_148 rfl rfl dX10_solve_57 ?_
        refine lv_icmp_eq (tgt := 68) hx hb dX10_solve_60 (by decide) (fun c41 => ?_) (fun c41 => ?_)
        · rw [neqP (a := r (2 * y.toNatClampNeg)) (b := r (2 * z.toNatClampNeg)) (by omega) (by omega)] at c41
          replace hR := ifp c41 hR
          refine newO (fs := [.null, .null, .null, .int 0, .int 0, .int 0, .int 0]) hX hB (ci := 10) rfl in9 tyX9_ok wm_6_176 wm_6_177 wm_1_16 df10 (Nat.le_of_ble_eq_true rfl) (Nat.le_of_ble_eq_true rfl) dX10_solve_68 (fun q42 H hB => ?_)
          refine lv_dup hx hb dX10_solve_71 rfl ?_
          refine lv_aload hx hb dX10_solve_72 (lv_at hl 0 rfl) ?_
          obtain ⟨F49, F50, F51, S52, S53, K54, G55, hd56⟩ := ex7 (D_X9_init (r (2 * y.toNatClampNeg)) (r (2 * y.toNatClampNeg + 1)) (f y.toNatClampNeg))
          replace hR := bnd7_use hd56 hR
          refine call_I (n := 1) (As := [.ref (a (2 + 2 * y.toNatClampNeg))]) (rest := [.ref q42]) hX hB (k_X9_init κ l (mw κ a r f (va_up q 3 t35) (tb a) w) q42 (2 + 2 * y.toNatClampNeg) (3 + 2 * y.toNatClampNeg) (a (2 + 2 * y.toNatClampNeg)) (a (3 + 2 * y.toNatClampNeg)) (r (2 * y.toNatClampNeg)) (r (2 * y.toNatClampNeg + 1)) (f y.toNatClampNeg) (mwG (i := y.toNatClampNeg) (a := a) (r := r) (f := f) (q := (va_up q 3 t35)) (T := tb a) (w := w) (by omega)) (mwA (i := y.toNatClampNeg) (a := a) (r := r) (f := f) (q := (va_up q 3 t35)) (T := tb a) (w := w) (by omega)) (mok_shp (i := y.toNatClampNeg) hm (by omega)) (by omega) (fun k hk => sm_ng ((hm _ (by omega)).2 k hk)) F49 F50 F51 S52 S53 K54 G55 hd56) yk_X9_init rfl wm_6_178 wm_6_179 wm_1_16 wm_6_180 ⟨Nat.le_of_ble_eq_true rfl, Nat.le_of_ble_eq_true rfl⟩ ⟨Nat.le_of_ble_eq_true rfl, Nat.le_of_ble_eq_true rfl⟩ rfl hl.1 rfl (Nat.le_of_ble_eq_true rfl) dX10_solve_74 (fun o w' H locs hp hB => ?_)
          obtain ⟨g43, b44, g45, b46, g47, b48, rfl, hf57, hw9⟩ := hp
          replace hB : Bd κ A s (lA κ b44 ((r (2 * y.toNatClampNeg + 1)) * 5) F49 :: gO g43 (r (2 * y.toNatClampNeg + 1)) (r (2 * y.toNatClampNeg + 1)) b44 :: lA κ b46 ((r (2 * y.toNatClampNeg)) * 5) F50 :: gO g45 (r (2 * y.toNatClampNeg)) (r (2 * y.toNatClampNeg)) b46 :: lA κ b48 ((r (2 * y.toNatClampNeg)) * 5) F51 :: gO g47 (r (2 * y.toNatClampNeg)) (r (2 * y.toNatClampNeg + 1)) b48 :: (q42, .inr (10, [.ref g47, .ref g45, .ref g43, .int S52, .int S53, .int (nI K54), .int G55])) :: mw κ a r f (va_up q 3 t35) (tb a) w) H locs := by rw [hw9] at hB; exact hB
          refine W.eq (g2 := F0 m 77 ls [.ref q42]) rfl ?_
          refine lv_astore (lv' := [(6, .ref q42), (5, .ref (a (2 + 2 * y.toNatClampNeg))), (0, .ref (a 0)), (1, .int y), (2, .int z), (3, .int u), (4, .int v)]) hx hb dX10_solve_77 hl (by decide) rfl (fun ls hl => ?_)
          refine lv_aload hx hb dX10_solve_79 (lv_at hl 0 rfl) ?_
          refine gf (k0 := 6) hX hB rfl rfl in9 6 (by decide) wm_6_234 rfl rfl dX10_solve_81 ?_
          refine lv_if_eq (tgt := 92) hx hb dX10_solve_84 (by decide) (fun c58 => ?_) (fun c58 => ?_)
          · replace hR := ifp c58 hR
            refine lv_aload hx hb dX10_solve_92 (lv_at hl 0 rfl) ?_
            refine gf (k0 := 6) hX hB rfl rfl in9 1 (by decide) wm_6_224 rfl rfl dX10_solve_94 ?_
            refine lv_aload_n hx hb dX10_solve_97 rfl (lv_at hl 2 rfl) ?_
            refine lv_iload_n hx hb dX10_solve_98 rfl (lv_at hl 4 rfl) ?_
            refine lv_iload_n hx hb dX10_solve_99 rfl (lv_at hl 5 rfl) ?_
            obtain ⟨F61, hd62⟩ := ex1 (D_X10_column ((va_up q 3 t35) 0) ((va_up q 3 t35) 1) ((va_up q 3 t35) 2) ((va_up q 3 t35) 3) (r (2 * z.toNatClampNeg)) (r (2 * z.toNatClampNeg + 1)) (f z.toNatClampNeg) z ((u).toNatClampNeg))
            replace hR := bnd1_use hd62 hR
            refine call_V (n := 2) (k0 := 7) (As := [.int z, .int u]) (rest := [.ref g45]) hX hB (k_X10_column κ l (lA κ b44 ((r (2 * y.toNatClampNeg + 1)) * 5) F49 :: gO g43 (r (2 * y.toNatClampNeg + 1)) (r (2 * y.toNatClampNeg + 1)) b44 :: lA κ b46 ((r (2 * y.toNatClampNeg)) * 5) F50 :: gO g45 (r (2 * y.toNatClampNeg)) (r (2 * y.toNatClampNeg)) b46 :: lA κ b48 ((r (2 * y.toNatClampNeg)) * 5) F51 :: gO g47 (r (2 * y.toNatClampNeg)) (r (2 * y.toNatClampNeg + 1)) b48 :: (q42, .inr (10, [.ref g47, .ref g45, .ref g43, .int S52, .int S53, .int (nI K54), .int G55])) :: mw κ a r f (va_up q 3 t35) (tb a) w) 7 (a 0) (a 1) 8 ((va_up q 3 t35) 0) ((va_up q 3 t35) 1) ((va_up q 3 t35) 2) ((va_up q 3 t35) 3) (tb a) (2 + 2 * z.toNatClampNeg + 7) (3 + 2 * z.toNatClampNeg + 7) (a (2 + 2 * z.toNatClampNeg)) (a (3 + 2 * z.toNatClampNeg)) (r (2 * z.toNatClampNeg)) (r (2 * z.toNatClampNeg + 1)) (f z.toNatClampNeg) z u ((u).toNatClampNeg) (mw0x (a := a) (r := r) (f := f) (q := (va_up q 3 t35)) (T := tb a) (w := w) rfl) (mw1 (a := a) (r := r) (f := f) (q := (va_up q 3 t35)) (T := tb a) (w := w)) (mwG (i := z.toNatClampNeg) (a := a) (r := r) (f := f) (q := (va_up q 3 t35)) (T := tb a) (w := w) (by omega)) (mwA (i := z.toNatClampNeg) (a := a) (r := r) (f := f) (q := (va_up q 3 t35)) (T := tb a) (w := w) (by omega)) (mok_shp (i := z.toNatClampNeg) hm (by omega)) (nI_rep (by assumption)) (vp_in_mk (by assumption) (by assumption)) rfl (by omega) F61 hd62) ⟨rfl, yk_X10_column⟩ wm_7_14 wm_7_16 wp_48 wm_1_6 wm_7_17 ⟨Nat.le_of_ble_eq_true rfl, Nat.le_of_ble_eq_true rfl⟩ ⟨Nat.le_of_ble_eq_true rfl, Nat.le_of_ble_eq_true rfl⟩ (mw0x (a := a) (r := r) (f := f) (q := (va_up q 3 t35)) (T := tb a) (w := w) rfl) rfl rfl rfl hl.1 rfl (Nat.le_of_ble_eq_true rfl) dX10_solve_100 (fun o w' H locs hp hB => ?_)
            obtain ⟨q59, q60, rfl, hw9⟩ := hp
            replace hB : Bd κ A s (lA κ q60 ((r (2 * z.toNatClampNeg)) * 5) F61 :: gO q59 (r (2 * z.toNatClampNeg)) 1 q60 :: lA κ b44 ((r (2 * y.toNatClampNeg + 1)) * 5) F49 :: gO g43 (r (2 * y.toNatClampNeg + 1)) (r (2 * y.toNatClampNeg + 1)) b44 :: lA κ b46 ((r (2 * y.toNatClampNeg)) * 5) F50 :: gO g45 (r (2 * y.toNatClampNeg)) (r (2 * y.toNatClampNeg)) b46 :: lA κ b48 ((r (2 * y.toNatClampNeg)) * 5) F51 :: gO g47 (r (2 * y.toNatClampNeg)) (r (2 * y.toNatClampNeg + 1)) b48 :: (q42, .inr (10, [.ref g47, .ref g45, .ref g43, .int S52, .int S53, .int (nI K54), .int G55])) :: mw κ a r f (va_up q 3 t35) (tb a) w) H locs := by rw [hw9] at hB; exact hB
            refine W.eq (g2 := F0 m 103 ls [.ref q59, .ref g45]) rfl ?_
            obtain ⟨F65, hd66⟩ := ex1 (D_X7_product (r (2 * y.toNatClampNeg)) (r (2 * y.toNatClampNeg)) F50 (r (2 * z.toNatClampNeg)) 1 F61)
            replace hR := bnd1_use hd66 hR
            refine call_V (n := 1) (k0 := 5) (As := [.ref q59]) (rest := []) hX hB (k_X7_product κ l (lA κ q60 ((r (2 * z.toNatClampNeg)) * 5) F61 :: gO q59 (r (2 * z.toNatClampNeg)) 1 q60 :: lA κ b44 ((r (2 * y.toNatClampNeg + 1)) * 5) F49 :: gO g43 (r (2 * y.toNatClampNeg + 1)) (r (2 * y.toNatClampNeg + 1)) b44 :: lA κ b46 ((r (2 * y.toNatClampNeg)) * 5) F50 :: gO g45 (r (2 * y.toNatClampNeg)) (r (2 * y.toNatClampNeg)) b46 :: lA κ b48 ((r (2 * y.toNatClampNeg)) * 5) F51 :: gO g47 (r (2 * y.toNatClampNeg)) (r (2 * y.toNatClampNeg + 1)) b48 :: (q42, .inr (10, [.ref g47, .ref g45, .ref g43, .int S52, .int S53, .int (nI K54), .int G55])) :: mw κ a r f (va_up q 3 t35) (tb a) w) 5 4 g45 b46 (r (2 * y.toNatClampNeg)) (r (2 * y.toNatClampNeg)) F50 1 0 q59 q60 (r (2 * z.toNatClampNeg)) 1 F61 rfl rfl ⟨by omega, by omega, by omega, by omega⟩ rfl rfl ⟨by omega, by omega, by omega, by omega⟩ (by omega) F65 hd66) ⟨rfl, yk_X7_product⟩ wm_6_116 wm_6_117 wm_6_118 wm_1_7 wm_6_119 ⟨Nat.le_of_ble_eq_true rfl, Nat.le_of_ble_eq_true rfl⟩ ⟨Nat.le_of_ble_eq_true rfl, Nat.le_of_ble_eq_true rfl⟩ rfl rfl rfl rfl hl.1 rfl (Nat.le_of_ble_eq_true rfl) dX10_solve_103 (fun o w' H locs hp hB => ?_)
            obtain ⟨q63, q64, rfl, hw9⟩ := hp
            replace hB : Bd κ A s (lA κ q64 ((r (2 * y.toNatClampNeg)) * 5) F65 :: gO q63 (r (2 * y.toNatClampNeg)) 1 q64 :: lA κ q60 ((r (2 * z.toNatClampNeg)) * 5) F61 :: gO q59 (r (2 * z.toNatClampNeg)) 1 q60 :: lA κ b44 ((r (2 * y.toNatClampNeg + 1)) * 5) F49 :: gO g43 (r (2 * y.toNatClampNeg + 1)) (r (2 * y.toNatClampNeg + 1)) b44 :: lA κ b46 ((r (2 * y.toNatClampNeg)) * 5) F50 :: gO g45 (r (2 * y.toNatClampNeg)) (r (2 * y.toNatClampNeg)) b46 :: lA κ b48 ((r (2 * y.toNatClampNeg)) * 5) F51 :: gO g47 (r (2 * y.toNatClampNeg)) (r (2 * y.toNatClampNeg + 1)) b48 :: (q42, .inr (10, [.ref g47, .ref g45, .ref g43, .int S52, .int S53, .int (nI K54), .int G55])) :: mw κ a r f (va_up q 3 t35) (tb a) w) H locs := by rw [hw9] at hB; exact hB
            refine W.eq (g2 := F0 m 106 ls [.ref q63]) rfl ?_
            refine lv_astore (lv' := [(7, .ref q63), (6, .ref q42), (5, .ref (a (2 + 2 * y.toNatClampNeg))), (0, .ref (a 0)), (1, .int y), (2, .int z), (3, .int u), (4, .int v)]) hx hb dX10_solve_106 hl (by decide) rfl (fun ls hl => ?_)
            refine lv_aload hx hb dX10_solve_108 (lv_at hl 1 rfl) ?_
            refine lv_aload hx hb dX10_solve_110 (lv_at hl 0 rfl) ?_
            obtain ⟨x67, hd68⟩ := ex1 (D_X10_goes (r (2 * y.toNatClampNeg)) (r (2 * y.toNatClampNeg + 1)) F51 K54 S52 S53 G55 (r (2 * y.toNatClampNeg)) 1 F65)
            replace hR := bnd1_use hd68 hR
            refine call_S (n := 2) (As := [.ref q42, .ref q63]) (rest := []) hX hB (k_X10_goes κ l (lA κ q64 ((r (2 * y.toNatClampNeg)) * 5) F65 :: gO q63 (r (2 * y.toNatClampNeg)) 1 q64 :: lA κ q60 ((r (2 * z.toNatClampNeg)) * 5) F61 :: gO q59 (r (2 * z.toNatClampNeg)) 1 q60 :: lA κ b44 ((r (2 * y.toNatClampNeg + 1)) * 5) F49 :: gO g43 (r (2 * y.toNatClampNeg + 1)) (r (2 * y.toNatClampNeg + 1)) b44 :: lA κ b46 ((r (2 * y.toNatClampNeg)) * 5) F50 :: gO g45 (r (2 * y.toNatClampNeg)) (r (2 * y.toNatClampNeg)) b46 :: lA κ b48 ((r (2 * y.toNatClampNeg)) * 5) F51 :: gO g47 (r (2 * y.toNatClampNeg)) (r (2 * y.toNatClampNeg + 1)) b48 :: (q42, .inr (10, [.ref g47, .ref g45, .ref g43, .int S52, .int S53, .int (nI K54), .int G55])) :: mw κ a r f (va_up q 3 t35) (tb a) w) 9 8 g47 b48 (r (2 * y.toNatClampNeg)) (r (2 * y.toNatClampNeg + 1)) F51 10 q42 g45 g43 K54 S52 S53 G55 1 0 q63 q64 (r (2 * y.toNatClampNeg)) 1 F65 rfl rfl (mok_shp (i := y.toNatClampNeg) hm (by omega)) rfl rfl rfl ⟨by omega, by omega, by omega, by omega⟩ hf57 x67 hd68) yk_X10_goes wm_7_18 wm_7_19 wm_1_6 wm_7_20 ⟨Nat.le_of_ble_eq_true rfl, Nat.le_of_ble_eq_true rfl⟩ ⟨Nat.le_of_ble_eq_true rfl, Nat.le_of_ble_eq_true rfl⟩ rfl hl.1 rfl (Nat.le_of_ble_eq_true rfl) dX10_solve_112 (fun o w' H locs hp hB => ?_)
            obtain ⟨rfl, hf69, hw9⟩ := hp
            replace hB : Bd κ A s (lA κ q64 ((r (2 * y.toNatClampNeg)) * 5) F65 :: gO q63 (r (2 * y.toNatClampNeg)) 1 q64 :: lA κ q60 ((r (2 * z.toNatClampNeg)) * 5) F61 :: gO q59 (r (2 * z.toNatClampNeg)) 1 q60 :: lA κ b44 ((r (2 * y.toNatClampNeg + 1)) * 5) F49 :: gO g43 (r (2 * y.toNatClampNeg + 1)) (r (2 * y.toNatClampNeg + 1)) b44 :: lA κ b46 ((r (2 * y.toNatClampNeg)) * 5) F50 :: gO g45 (r (2 * y.toNatClampNeg)) (r (2 * y.toNatClampNeg)) b46 :: lA κ b48 ((r (2 * y.toNatClampNeg)) * 5) F51 :: gO g47 (r (2 * y.toNatClampNeg)) (r (2 * y.toNatClampNeg + 1)) b48 :: (q42, .inr (10, [.ref g47, .ref g45, .ref g43, .int S52, .int S53, .int (nI K54), .int G55])) :: mw κ a r f (va_up q 3 t35) (tb a) w) H locs := by rw [hw9] at hB; exact hB
            rcases hf69 with rfl | rfl
            · replace hR := ifp rfl hR
              refine W.eq (g2 := F0 m 115 ls [.int 0]) rfl ?_
              refine lv_if_ne (tgt := 123) hx hb dX10_solve_115 (by decide) (fun c70 => False.elim (by revert c70; decide)) (fun _ => ?_)
              refine lv_aload_n hx hb dX10_solve_118 rfl (lv_at hl 3 rfl) ?_
              refine call_V (n := 0) (k0 := 11) (As := []) (rest := []) hX hB (k_X10_no κ l (lA κ q64 ((r (2 * y.toNatClampNeg)) * 5) F65 :: gO q63 (r (2 * y.toNatClampNeg)) 1 q64 :: lA κ q60 ((r (2 * z.toNatClampNeg)) * 5) F61 :: gO q59 (r (2 * z.toNatClampNeg)) 1 q60 :: lA κ b44 ((r (2 * y.toNatClampNeg + 1)) * 5) F49 :: gO g43 (r (2 * y.toNatClampNeg + 1)) (r (2 * y.toNatClampNeg + 1)) b44 :: lA κ b46 ((r (2 * y.toNatClampNeg)) * 5) F50 :: gO g45 (r (2 * y.toNatClampNeg)) (r (2 * y.toNatClampNeg)) b46 :: lA κ b48 ((r (2 * y.toNatClampNeg)) * 5) F51 :: gO g47 (r (2 * y.toNatClampNeg)) (r (2 * y.toNatClampNeg + 1)) b48 :: (q42, .inr (10, [.ref g47, .ref g45, .ref g43, .int S52, .int S53, .int (nI K54), .int G55])) :: mw κ a r f (va_up q 3 t35) (tb a) w) 11 (a 0) (a 1) ((va_up q 3 t35) 0) ((va_up q 3 t35) 1) ((va_up q 3 t35) 2) ((va_up q 3 t35) 3) (mw0x (a := a) (r := r) (f := f) (q := (va_up q 3 t35)) (T := tb a) (w := w) rfl)) ⟨rfl, yk_X10_no⟩ wm_6_89 wm_6_91 wp_36 wm_1_6 wm_6_92 ⟨Nat.le_of_ble_eq_true rfl, Nat.le_of_ble_eq_true rfl⟩ ⟨Nat.le_of_ble_eq_true rfl, Nat.le_of_ble_eq_true rfl⟩ (mw0x (a := a) (r := r) (f := f) (q := (va_up q 3 t35)) (T := tb a) (w := w) rfl) rfl rfl rfl hl.1 rfl (Nat.le_of_ble_eq_true rfl) dX10_solve_119 (fun o w' H locs hp hB => ?_)
              obtain ⟨rfl, hw9⟩ := hp
              replace hB : Bd κ A s (lA κ q64 ((r (2 * y.toNatClampNeg)) * 5) F65 :: gO q63 (r (2 * y.toNatClampNeg)) 1 q64 :: lA κ q60 ((r (2 * z.toNatClampNeg)) * 5) F61 :: gO q59 (r (2 * z.toNatClampNeg)) 1 q60 :: lA κ b44 ((r (2 * y.toNatClampNeg + 1)) * 5) F49 :: gO g43 (r (2 * y.toNatClampNeg + 1)) (r (2 * y.toNatClampNeg + 1)) b44 :: lA κ b46 ((r (2 * y.toNatClampNeg)) * 5) F50 :: gO g45 (r (2 * y.toNatClampNeg)) (r (2 * y.toNatClampNeg)) b46 :: lA κ b48 ((r (2 * y.toNatClampNeg)) * 5) F51 :: gO g47 (r (2 * y.toNatClampNeg)) (r (2 * y.toNatClampNeg + 1)) b48 :: (q42, .inr (10, [.ref g47, .ref g45, .ref g43, .int S52, .int S53, .int (nI K54), .int G55])) :: mw κ a r f (va_up (va_up q 3 t35) 1 (((va_up q 3 t35) 1) + 1)) (tb a) w) H locs := by exact Bd_eq (congrArg (List.cons _) (congrArg (List.cons _) (congrArg (List.cons _) (congrArg (List.cons _) (congrArg (List.cons _) (congrArg (List.cons _) (congrArg (List.cons _) (congrArg (List.cons _) (congrArg (List.cons _) (congrArg (List.cons _) (congrArg (List.cons _) (mwQ1x rfl _)))))))))))) (by rw [hw9] at hB; exact hB)
              refine W.eq (g2 := F0 m 122 ls [.int (-9)]) rfl ?_
              replace hB : Bd κ A s (lA κ q64 ((r (2 * y.toNatClampNeg)) * 5) F65 :: gO q63 (r (2 * y.toNatClampNeg)) 1 q64 :: lA κ q60 ((r (2 * z.toNatClampNeg)) * 5) F61 :: gO q59 (r (2 * z.toNatClampNeg)) 1 q60 :: lA κ b44 ((r (2 * y.toNatClampNeg + 1)) * 5) F49 :: gO g43 (r (2 * y.toNatClampNeg + 1)) (r (2 * y.toNatClampNeg + 1)) b44 :: lA κ b46 ((r (2 * y.toNatClampNeg)) * 5) F50 :: gO g45 (r (2 * y.toNatClampNeg)) (r (2 * y.toNatClampNeg)) b46 :: lA κ b48 ((r (2 * y.toNatClampNeg)) * 5) F51 :: gO g47 (r (2 * y.toNatClampNeg)) (r (2 * y.toNatClampNeg + 1)) b48 :: mw κ a r f (va_up (va_up q 3 t35) 1 (((va_up q 3 t35) 1) + 1)) (tb a) w) H locs := Bd_del 10 hB
              replace hB : Bd κ A s (lA κ q64 ((r (2 * y.toNatClampNeg)) * 5) F65 :: gO q63 (r (2 * y.toNatClampNeg)) 1 q64 :: lA κ q60 ((r (2 * z.toNatClampNeg)) * 5) F61 :: gO q59 (r (2 * z.toNatClampNeg)) 1 q60 :: lA κ b44 ((r (2 * y.toNatClampNeg + 1)) * 5) F49 :: gO g43 (r (2 * y.toNatClampNeg + 1)) (r (2 * y.toNatClampNeg + 1)) b44 :: lA κ b46 ((r (2 * y.toNatClampNeg)) * 5) F50 :: gO g45 (r (2 * y.toNatClampNeg)) (r (2 * y.toNatClampNeg)) b46 :: lA κ b48 ((r (2 * y.toNatClampNeg)) * 5) F51 :: mw κ a r f (va_up (va_up q 3 t35) 1 (((va_up q 3 t35) 1) + 1)) (tb a) w) H locs := Bd_del 9 hB
              replace hB : Bd κ A s (lA κ q64 ((r (2 * y.toNatClampNeg)) * 5) F65 :: gO q63 (r (2 * y.toNatClampNeg)) 1 q64 :: lA κ q60 ((r (2 * z.toNatClampNeg)) * 5) F61 :: gO q59 (r (2 * z.toNatClampNeg)) 1 q60 :: lA κ b44 ((r (2 * y.toNatClampNeg + 1)) * 5) F49 :: gO g43 (r (2 * y.toNatClampNeg + 1)) (r (2 * y.toNatClampNeg + 1)) b44 :: lA κ b46 ((r (2 * y.toNatClampNeg)) * 5) F50 :: gO g45 (r (2 * y.toNatClampNeg)) (r (2 * y.toNatClampNeg)) b46 :: mw κ a r f (va_up (va_up q 3 t35) 1 (((va_up q 3 t35) 1) + 1)) (tb a) w) H locs := Bd_del 8 hB
              replace hB : Bd κ A s (lA κ q64 ((r (2 * y.toNatClampNeg)) * 5) F65 :: gO q63 (r (2 * y.toNatClampNeg)) 1 q64 :: lA κ q60 ((r (2 * z.toNatClampNeg)) * 5) F61 :: gO q59 (r (2 * z.toNatClampNeg)) 1 q60 :: lA κ b44 ((r (2 * y.toNatClampNeg + 1)) * 5) F49 :: gO g43 (r (2 * y.toNatClampNeg + 1)) (r (2 * y.toNatClampNeg + 1)) b44 :: lA κ b46 ((r (2 * y.toNatClampNeg)) * 5) F50 :: mw κ a r f (va_up (va_up q 3 t35) 1 (((va_up q 3 t35) 1) + 1)) (tb a) w) H locs := Bd_del 7 hB
              replace hB : Bd κ A s (lA κ q64 ((r (2 * y.toNatClampNeg)) * 5) F65 :: gO q63 (r (2 * y.toNatClampNeg)) 1 q64 :: lA κ q60 ((r (2 * z.toNatClampNeg)) * 5) F61 :: gO q59 (r (2 * z.toNatClampNeg)) 1 q60 :: lA κ b44 ((r (2 * y.toNatClampNeg + 1)) * 5) F49 :: gO g43 (r (2 * y.toNatClampNeg + 1)) (r (2 * y.toNatClampNeg + 1)) b44 :: mw κ a r f (va_up (va_up q 3 t35) 1 (((va_up q 3 t35) 1) + 1)) (tb a) w) H locs := Bd_del 6 hB
              replace hB : Bd κ A s (lA κ q64 ((r (2 * y.toNatClampNeg)) * 5) F65 :: gO q63 (r (2 * y.toNatClampNeg)) 1 q64 :: lA κ q60 ((r (2 * z.toNatClampNeg)) * 5) F61 :: gO q59 (r (2 * z.toNatClampNeg)) 1 q60 :: lA κ b44 ((r (2 * y.toNatClampNeg + 1)) * 5) F49 :: mw κ a r f (va_up (va_up q 3 t35) 1 (((va_up q 3 t35) 1) + 1)) (tb a) w) H locs := Bd_del 5 hB
              replace hB : Bd κ A s (lA κ q64 ((r (2 * y.toNatClampNeg)) * 5) F65 :: gO q63 (r (2 * y.toNatClampNeg)) 1 q64 :: lA κ q60 ((r (2 * z.toNatClampNeg)) * 5) F61 :: gO q59 (r (2 * z.toNatClampNeg)) 1 q60 :: mw κ a r f (va_up (va_up q 3 t35) 1 (((va_up q 3 t35) 1) + 1)) (tb a) w) H locs := Bd_del 4 hB
              replace hB : Bd κ A s (lA κ q64 ((r (2 * y.toNatClampNeg)) * 5) F65 :: gO q63 (r (2 * y.toNatClampNeg)) 1 q64 :: lA κ q60 ((r (2 * z.toNatClampNeg)) * 5) F61 :: mw κ a r f (va_up (va_up q 3 t35) 1 (((va_up q 3 t35) 1) + 1)) (tb a) w) H locs := Bd_del 3 hB
              replace hB : Bd κ A s (lA κ q64 ((r (2 * y.toNatClampNeg)) * 5) F65 :: gO q63 (r (2 * y.toNatClampNeg)) 1 q64 :: mw κ a r f (va_up (va_up q 3 t35) 1 (((va_up q 3 t35) 1) + 1)) (tb a) w) H locs := Bd_del 2 hB
              replace hB : Bd κ A s (lA κ q64 ((r (2 * y.toNatClampNeg)) * 5) F65 :: mw κ a r f (va_up (va_up q 3 t35) 1 (((va_up q 3 t35) 1) + 1)) (tb a) w) H locs := Bd_del 1 hB
              replace hB : Bd κ A s (mw κ a r f (va_up (va_up q 3 t35) 1 (((va_up q 3 t35) 1) + 1)) (tb a) w) H locs := Bd_del 0 hB
              rw [← hQ]
              exact end_i hX hB hA3 rfl rfl (by obtain ⟨rfl, rfl, rfl, rfl⟩ := pr4 hR; exact ⟨a, rfl, rfl, hm, rfl, rfl⟩) (Nat.le_of_ble_eq_true rfl) (Nat.le_of_ble_eq_true rfl) dX10_solve_122
            · replace hR := ifn (by decide) hR
              refine W.eq (g2 := F0 m 115 ls [.int 1]) rfl ?_
              refine lv_if_ne (tgt := 123) hx hb dX10_solve_115 (by decide) (fun _ => ?_) (fun c71 => False.elim (by revert c71; decide))
              refine newO (fs := [.int 0, .int 0, .null]) hX hB (ci := 8) rfl in7 tyX7_ok wm_5_138 wm_5_140 wm_1_7 df8 (Nat.le_of_ble_eq_true rfl) (Nat.le_of_ble_eq_true rfl) dX10_solve_123 (fun q72 H hB => ?_)
              refine lv_dup hx hb dX10_solve_126 rfl ?_
              refine lv_aload hx hb dX10_solve_127 (lv_at hl 2 rfl) ?_
              refine gf (k0 := 2 + 2 * y.toNatClampNeg + 12) hX hB (mwG (i := y.toNatClampNeg) (a := a) (r := r) (f := f) (q := (va_up q 3 t35)) (T := tb a) (w := w) (by omega)) rfl in7 1 (by decide) wm_5_152 rfl rfl dX10_solve_129 ?_
              refine lv_iconst (v := 1) hx hb dX10_solve_132 (by decide) ?_
              refine call_I (n := 2) (As := [.int (nI (r (2 * y.toNatClampNeg + 1))), .int 1]) (rest := [.ref q72]) hX hB (k_X7_init κ l (lA κ q64 ((r (2 * y.toNatClampNeg)) * 5) F65 :: gO q63 (r (2 * y.toNatClampNeg)) 1 q64 :: lA κ q60 ((r (2 * z.toNatClampNeg)) * 5) F61 :: gO q59 (r (2 * z.toNatClampNeg)) 1 q60 :: lA κ b44 ((r (2 * y.toNatClampNeg + 1)) * 5) F49 :: gO g43 (r (2 * y.toNatClampNeg + 1)) (r (2 * y.toNatClampNeg + 1)) b44 :: lA κ b46 ((r (2 * y.toNatClampNeg)) * 5) F50 :: gO g45 (r (2 * y.toNatClampNeg)) (r (2 * y.toNatClampNeg)) b46 :: lA κ b48 ((r (2 * y.toNatClampNeg)) * 5) F51 :: gO g47 (r (2 * y.toNatClampNeg)) (r (2 * y.toNatClampNeg + 1)) b48 :: (q42, .inr (10, [.ref g47, .ref g45, .ref g43, .int S52, .int S53, .int (nI K54), .int G55])) :: mw κ a r f (va_up q 3 t35) (tb a) w) q72 (nI (r (2 * y.toNatClampNeg + 1))) (r (2 * y.toNatClampNeg + 1)) 1 1 rfl rfl (by omega)) yk_X7_init rfl wm_5_141 wm_5_142 wm_1_7 wm_5_143 ⟨Nat.le_of_ble_eq_true rfl, Nat.le_of_ble_eq_true rfl⟩ ⟨Nat.le_of_ble_eq_true rfl, Nat.le_of_ble_eq_true rfl⟩ rfl hl.1 rfl (Nat.le_of_ble_eq_true rfl) dX10_solve_133 (fun o w' H locs hp hB => ?_)
              obtain ⟨b73, rfl, hw9⟩ := hp
              replace hB : Bd κ A s (lA κ b73 ((r (2 * y.toNatClampNeg + 1)) * 5) (fun _ => 0) :: gO q72 (r (2 * y.toNatClampNeg + 1)) 1 b73 :: lA κ q64 ((r (2 * y.toNatClampNeg)) * 5) F65 :: gO q63 (r (2 * y.toNatClampNeg)) 1 q64 :: lA κ q60 ((r (2 * z.toNatClampNeg)) * 5) F61 :: gO q59 (r (2 * z.toNatClampNeg)) 1 q60 :: lA κ b44 ((r (2 * y.toNatClampNeg + 1)) * 5) F49 :: gO g43 (r (2 * y.toNatClampNeg + 1)) (r (2 * y.toNatClampNeg + 1)) b44 :: lA κ b46 ((r (2 * y.toNatClampNeg)) * 5) F50 :: gO g45 (r (2 * y.toNatClampNeg)) (r (2 * y.toNatClampNeg)) b46 :: lA κ b48 ((r (2 * y.toNatClampNeg)) * 5) F51 :: gO g47 (r (2 * y.toNatClampNeg)) (r (2 * y.toNatClampNeg + 1)) b48 :: (q42, .inr (10, [.ref g47, .ref g45, .ref g43, .int S52, .int S53, .int (nI K54), .int G55])) :: mw κ a r f (va_up q 3 t35) (tb a) w) H locs := by rw [hw9] at hB; exact hB
              refine W.eq (g2 := F0 m 136 ls [.ref q72]) rfl ?_
              refine lv_astore (lv' := [(8, .ref q72), (7, .ref q63), (6, .ref q42), (5, .ref (a (2 + 2 * y.toNatClampNeg))), (0, .ref (a 0)), (1, .int y), (2, .int z), (3, .int u), (4, .int v)]) hx hb dX10_solve_136 hl (by decide) rfl (fun ls hl => ?_)
              have hK := hf57
              refine lv_iconst (v := 0) hx hb dX10_solve_138 (by decide) ?_
              refine lv_istore (lv' := [(9, .int 0), (8, .ref q72), (7, .ref q63), (6, .ref q42), (5, .ref (a (2 + 2 * y.toNatClampNeg))), (0, .ref (a 0)), (1, .int y), (2, .int z), (3, .int u), (4, .int v)]) hx hb dX10_solve_139 hl (by decide) rfl (fun ls hl => ?_)
              have lp141 : ∀ (nn141 : Nat) (y9_141 : Nat) (fb73_141 : Nat → Int64) (H : Heap) (locs : List Loc), (y9_141 ≤ K54) → K54 + 1 - y9_141 < nn141 → D_X10_solve_141 r f q y v t35 F49 F51 K54 F65 nn141 y9_141 fb73_141 = (o_x, o_r', o_f', o_q') → Bd κ A s (lA κ b73 ((r (2 * y.toNatClampNeg + 1)) * 5) fb73_141 :: gO q72 (r (2 * y.toNatClampNeg + 1)) 1 b73 :: lA κ q64 ((r (2 * y.toNatClampNeg)) * 5) F65 :: gO q63 (r (2 * y.toNatClampNeg)) 1 q64 :: lA κ q60 ((r (2 * z.toNatClampNeg)) * 5) F61 :: gO q59 (r (2 * z.toNatClampNeg)) 1 q60 :: lA κ b44 ((r (2 * y.toNatClampNeg + 1)) * 5) F49 :: gO g43 (r (2 * y.toNatClampNeg + 1)) (r (2 * y.toNatClampNeg + 1)) b44 :: lA κ b46 ((r (2 * y.toNatClampNeg)) * 5) F50 :: gO g45 (r (2 * y.toNatClampNeg)) (r (2 * y.toNatClampNeg)) b46 :: lA κ b48 ((r (2 * y.toNatClampNeg)) * 5) F51 :: gO g47 (r (2 * y.toNatClampNeg)) (r (2 * y.toNatClampNeg + 1)) b48 :: (q42, .inr (10, [.ref g47, .ref g45, .ref g43, .int S52, .int S53, .int (nI K54), .int G55])) :: mw κ a r f (va_up q 3 t35) (tb a) w) H locs → ∀ ls : Array Slot, lv_has ls 10 [(9, .int (nI y9_141)), (8, .ref q72), (7, .ref q63), (6, .ref q42), (5, .ref (a (2 + 2 * y.toNatClampNeg))), (0, .ref (a 0)), (1, .int y), (2, .int z), (3, .int u), (4, .int v)] → W p l e (Rm 5 121 15 168) s m args below meth c H locs (13) (145) Q (F0 m 141 ls []) := by
                intro nn141
                induction nn141 with
                | zero => intro y9_141 fb73_141 H locs hn9_141 hμ; exact absurd hμ (Nat.not_lt_zero _)
                | succ nn141 ih141 =>
                  intro y9_141 fb73_141 H locs hn9_141 hμ141 hR hB ls hl
                  replace hR := (D_X10_solve_141_s).symm.trans hR
                  refine lv_iload hx hb dX10_solve_141 (lv_at hl 0 rfl) ?_
                  refine lv_aload hx hb dX10_solve_143 (lv_at hl 3 rfl) ?_
                  refine gf (k0 := 12) hX hB rfl rfl in9 5 (by decide) wm_6_232 rfl rfl dX10_solve_145 ?_
                  refine lv_icmp_ge (tgt := 186) hx hb dX10_solve_148 (by decide) (fun c114 => ?_) (fun c114 => ?_)
                  · rw [nleP (a := K54) (b := y9_141) (by omega) (by omega)] at c114
                    replace hR := ifp c114 hR
                    refine lv_aload hx hb dX10_solve_186 (lv_at hl 1 rfl) ?_
                    obtain ⟨x115, hd116⟩ := ex1 (D_X7_isGreat (r (2 * y.toNatClampNeg + 1)) 1 fb73_141)
                    replace hR := bnd1_use hd116 hR
                    refine call_V (n := 0) (k0 := 1) (As := []) (rest := []) hX hB (k_X7_isGreat κ l (lA κ b73 ((r (2 * y.toNatClampNeg + 1)) * 5) fb73_141 :: gO q72 (r (2 * y.toNatClampNeg + 1)) 1 b73 :: lA κ q64 ((r (2 * y.toNatClampNeg)) * 5) F65 :: gO q63 (r (2 * y.toNatClampNeg)) 1 q64 :: lA κ q60 ((r (2 * z.toNatClampNeg)) * 5) F61 :: gO q59 (r (2 * z.toNatClampNeg)) 1 q60 :: lA κ b44 ((r (2 * y.toNatClampNeg + 1)) * 5) F49 :: gO g43 (r (2 * y.toNatClampNeg + 1)) (r (2 * y.toNatClampNeg + 1)) b44 :: lA κ b46 ((r (2 * y.toNatClampNeg)) * 5) F50 :: gO g45 (r (2 * y.toNatClampNeg)) (r (2 * y.toNatClampNeg)) b46 :: lA κ b48 ((r (2 * y.toNatClampNeg)) * 5) F51 :: gO g47 (r (2 * y.toNatClampNeg)) (r (2 * y.toNatClampNeg + 1)) b48 :: (q42, .inr (10, [.ref g47, .ref g45, .ref g43, .int S52, .int S53, .int (nI K54), .int G55])) :: mw κ a r f (va_up q 3 t35) (tb a) w) 1 0 q72 b73 (r (2 * y.toNatClampNeg + 1)) 1 fb73_141 rfl rfl ⟨by omega, by omega, by omega, by omega⟩ x115 hd116) ⟨rfl, yk_X7_isGreat⟩ wm_7_21 wm_6_154 wm_6_155 wm_1_7 wm_6_156 ⟨Nat.le_of_ble_eq_true rfl, Nat.le_of_ble_eq_true rfl⟩ ⟨Nat.le_of_ble_eq_true rfl, Nat.le_of_ble_eq_true rfl⟩ rfl rfl rfl rfl hl.1 rfl (Nat.le_of_ble_eq_true rfl) dX10_solve_188 (fun o w' H locs hp hB => ?_)
                    obtain ⟨rfl, hf117, hf118, hw9⟩ := hp
                    replace hB : Bd κ A s (lA κ b73 ((r (2 * y.toNatClampNeg + 1)) * 5) fb73_141 :: gO q72 (r (2 * y.toNatClampNeg + 1)) 1 b73 :: lA κ q64 ((r (2 * y.toNatClampNeg)) * 5) F65 :: gO q63 (r (2 * y.toNatClampNeg)) 1 q64 :: lA κ q60 ((r (2 * z.toNatClampNeg)) * 5) F61 :: gO q59 (r (2 * z.toNatClampNeg)) 1 q60 :: lA κ b44 ((r (2 * y.toNatClampNeg + 1)) * 5) F49 :: gO g43 (r (2 * y.toNatClampNeg + 1)) (r (2 * y.toNatClampNeg + 1)) b44 :: lA κ b46 ((r (2 * y.toNatClampNeg)) * 5) F50 :: gO g45 (r (2 * y.toNatClampNeg)) (r (2 * y.toNatClampNeg)) b46 :: lA κ b48 ((r (2 * y.toNatClampNeg)) * 5) F51 :: gO g47 (r (2 * y.toNatClampNeg)) (r (2 * y.toNatClampNeg + 1)) b48 :: (q42, .inr (10, [.ref g47, .ref g45, .ref g43, .int S52, .int S53, .int (nI K54), .int G55])) :: mw κ a r f (va_up q 3 t35) (tb a) w) H locs := by rw [hw9] at hB; exact hB
                    rcases hf117 with rfl | rfl
                    · replace hR := ifp rfl hR
                      refine W.eq (g2 := F0 m 191 ls [.int 0]) rfl ?_
                      refine lv_if_eq (tgt := 199) hx hb dX10_solve_191 (by decide) (fun _ => ?_) (fun c119 => False.elim (by revert c119; decide))
                      refine lv_aload_n hx hb dX10_solve_199 rfl (lv_at hl 5 rfl) ?_
                      refine lv_iload hx hb dX10_solve_200 (lv_at hl 9 rfl) ?_
                      refine lv_aload hx hb dX10_solve_202 (lv_at hl 3 rfl) ?_
                      refine gf (k0 := 12) hX hB rfl rfl in9 2 (by decide) wm_6_226 rfl rfl dX10_solve_204 ?_
                      refine lv_aload hx hb dX10_solve_207 (lv_at hl 1 rfl) ?_
                      obtain ⟨F122, hd123⟩ := ex1 (D_X7_product (r (2 * y.toNatClampNeg + 1)) (r (2 * y.toNatClampNeg + 1)) F49 (r (2 * y.toNatClampNeg + 1)) 1 fb73_141)
                      replace hR := bnd1_use hd123 hR
                      refine call_V (n := 1) (k0 := 7) (As := [.ref q72]) (rest := [.int v, .ref (a 0)]) hX hB (k_X7_product κ l (lA κ b73 ((r (2 * y.toNatClampNeg + 1)) * 5) fb73_141 :: gO q72 (r (2 * y.toNatClampNeg + 1)) 1 b73 :: lA κ q64 ((r (2 * y.toNatClampNeg)) * 5) F65 :: gO q63 (r (2 * y.toNatClampNeg)) 1 q64 :: lA κ q60 ((r (2 * z.toNatClampNeg)) * 5) F61 :: gO q59 (r (2 * z.toNatClampNeg)) 1 q60 :: lA κ b44 ((r (2 * y.toNatClampNeg + 1)) * 5) F49 :: gO g43 (r (2 * y.toNatClampNeg + 1)) (r (2 * y.toNatClampNeg + 1)) b44 :: lA κ b46 ((r (2 * y.toNatClampNeg)) * 5) F50 :: gO g45 (r (2 * y.toNatClampNeg)) (r (2 * y.toNatClampNeg)) b46 :: lA κ b48 ((r (2 * y.toNatClampNeg)) * 5) F51 :: gO g47 (r (2 * y.toNatClampNeg)) (r (2 * y.toNatClampNeg + 1)) b48 :: (q42, .inr (10, [.ref g47, .ref g45, .ref g43, .int S52, .int S53, .int (nI K54), .int G55])) :: mw κ a r f (va_up q 3 t35) (tb a) w) 7 6 g43 b44 (r (2 * y.toNatClampNeg + 1)) (r (2 * y.toNatClampNeg + 1)) F49 1 0 q72 b73 (r (2 * y.toNatClampNeg + 1)) 1 fb73_141 rfl rfl ⟨by omega, by omega, by omega, by omega⟩ rfl rfl ⟨by omega, by omega, by omega, by omega⟩ (by omega) F122 hd123) ⟨rfl, yk_X7_product⟩ wm_6_116 wm_6_117 wm_6_118 wm_1_7 wm_6_119 ⟨Nat.le_of_ble_eq_true rfl, Nat.le_of_ble_eq_true rfl⟩ ⟨Nat.le_of_ble_eq_true rfl, Nat.le_of_ble_eq_true rfl⟩ rfl rfl rfl rfl hl.1 rfl (Nat.le_of_ble_eq_true rfl) dX10_solve_209 (fun o w' H locs hp hB => ?_)
                      obtain ⟨q120, q121, rfl, hw9⟩ := hp
                      replace hB : Bd κ A s (lA κ q121 ((r (2 * y.toNatClampNeg + 1)) * 5) F122 :: gO q120 (r (2 * y.toNatClampNeg + 1)) 1 q121 :: lA κ b73 ((r (2 * y.toNatClampNeg + 1)) * 5) fb73_141 :: gO q72 (r (2 * y.toNatClampNeg + 1)) 1 b73 :: lA κ q64 ((r (2 * y.toNatClampNeg)) * 5) F65 :: gO q63 (r (2 * y.toNatClampNeg)) 1 q64 :: lA κ q60 ((r (2 * z.toNatClampNeg)) * 5) F61 :: gO q59 (r (2 * z.toNatClampNeg)) 1 q60 :: lA κ b44 ((r (2 * y.toNatClampNeg + 1)) * 5) F49 :: gO g43 (r (2 * y.toNatClampNeg + 1)) (r (2 * y.toNatClampNeg + 1)) b44 :: lA κ b46 ((r (2 * y.toNatClampNeg)) * 5) F50 :: gO g45 (r (2 * y.toNatClampNeg)) (r (2 * y.toNatClampNeg)) b46 :: lA κ b48 ((r (2 * y.toNatClampNeg)) * 5) F51 :: gO g47 (r (2 * y.toNatClampNeg)) (r (2 * y.toNatClampNeg + 1)) b48 :: (q42, .inr (10, [.ref g47, .ref g45, .ref g43, .int S52, .int S53, .int (nI K54), .int G55])) :: mw κ a r f (va_up q 3 t35) (tb a) w) H locs := by rw [hw9] at hB; exact hB
                      refine W.eq (g2 := F0 m 212 ls [.ref q120, .int v, .ref (a 0)]) rfl ?_
                      replace hB : Bd κ A s (lA κ q121 ((r (2 * y.toNatClampNeg + 1)) * 5) F122 :: gO q120 (r (2 * y.toNatClampNeg + 1)) 1 q121 :: lA κ b73 ((r (2 * y.toNatClampNeg + 1)) * 5) fb73_141 :: gO q72 (r (2 * y.toNatClampNeg + 1)) 1 b73 :: lA κ q64 ((r (2 * y.toNatClampNeg)) * 5) F65 :: gO q63 (r (2 * y.toNatClampNeg)) 1 q64 :: lA κ q60 ((r (2 * z.toNatClampNeg)) * 5) F61 :: gO q59 (r (2 * z.toNatClampNeg)) 1 q60 :: lA κ b44 ((r (2 * y.toNatClampNeg + 1)) * 5) F49 :: gO g43 (r (2 * y.toNatClampNeg + 1)) (r (2 * y.toNatClampNeg + 1)) b44 :: lA κ b46 ((r (2 * y.toNatClampNeg)) * 5) F50 :: gO g45 (r (2 * y.toNatClampNeg)) (r (2 * y.toNatClampNeg)) b46 :: lA κ b48 ((r (2 * y.toNatClampNeg)) * 5) F51 :: gO g47 (r (2 * y.toNatClampNeg)) (r (2 * y.toNatClampNeg + 1)) b48 :: mw κ a r f (va_up q 3 t35) (tb a) w) H locs := Bd_del 14 hB
                      replace hB : Bd κ A s (lA κ q121 ((r (2 * y.toNatClampNeg + 1)) * 5) F122 :: gO q120 (r (2 * y.toNatClampNeg + 1)) 1 q121 :: lA κ b73 ((r (2 * y.toNatClampNeg + 1)) * 5) fb73_141 :: gO q72 (r (2 * y.toNatClampNeg + 1)) 1 b73 :: lA κ q64 ((r (2 * y.toNatClampNeg)) * 5) F65 :: gO q63 (r (2 * y.toNatClampNeg)) 1 q64 :: lA κ q60 ((r (2 * z.toNatClampNeg)) * 5) F61 :: gO q59 (r (2 * z.toNatClampNeg)) 1 q60 :: lA κ b44 ((r (2 * y.toNatClampNeg + 1)) * 5) F49 :: gO g43 (r (2 * y.toNatClampNeg + 1)) (r (2 * y.toNatClampNeg + 1)) b44 :: lA κ b46 ((r (2 * y.toNatClampNeg)) * 5) F50 :: gO g45 (r (2 * y.toNatClampNeg)) (r (2 * y.toNatClampNeg)) b46 :: lA κ b48 ((r (2 * y.toNatClampNeg)) * 5) F51 :: mw κ a r f (va_up q 3 t35) (tb a) w) H locs := Bd_del 13 hB
                      replace hB : Bd κ A s (lA κ q121 ((r (2 * y.toNatClampNeg + 1)) * 5) F122 :: gO q120 (r (2 * y.toNatClampNeg + 1)) 1 q121 :: lA κ b73 ((r (2 * y.toNatClampNeg + 1)) * 5) fb73_141 :: gO q72 (r (2 * y.toNatClampNeg + 1)) 1 b73 :: lA κ q64 ((r (2 * y.toNatClampNeg)) * 5) F65 :: gO q63 (r (2 * y.toNatClampNeg)) 1 q64 :: lA κ q60 ((r (2 * z.toNatClampNeg)) * 5) F61 :: gO q59 (r (2 * z.toNatClampNeg)) 1 q60 :: lA κ b44 ((r (2 * y.toNatClampNeg + 1)) * 5) F49 :: gO g43 (r (2 * y.toNatClampNeg + 1)) (r (2 * y.toNatClampNeg + 1)) b44 :: lA κ b46 ((r (2 * y.toNatClampNeg)) * 5) F50 :: gO g45 (r (2 * y.toNatClampNeg)) (r (2 * y.toNatClampNeg)) b46 :: mw κ a r f (va_up q 3 t35) (tb a) w) H locs := Bd_del 12 hB
                      replace hB : Bd κ A s (lA κ q121 ((r (2 * y.toNatClampNeg + 1)) * 5) F122 :: gO q120 (r (2 * y.toNatClampNeg + 1)) 1 q121 :: lA κ b73 ((r (2 * y.toNatClampNeg + 1)) * 5) fb73_141 :: gO q72 (r (2 * y.toNatClampNeg + 1)) 1 b73 :: lA κ q64 ((r (2 * y.toNatClampNeg)) * 5) F65 :: gO q63 (r (2 * y.toNatClampNeg)) 1 q64 :: lA κ q60 ((r (2 * z.toNatClampNeg)) * 5) F61 :: gO q59 (r (2 * z.toNatClampNeg)) 1 q60 :: lA κ b44 ((r (2 * y.toNatClampNeg + 1)) * 5) F49 :: gO g43 (r (2 * y.toNatClampNeg + 1)) (r (2 * y.toNatClampNeg + 1)) b44 :: lA κ b46 ((r (2 * y.toNatClampNeg)) * 5) F50 :: mw κ a r f (va_up q 3 t35) (tb a) w) H locs := Bd_del 11 hB
                      replace hB : Bd κ A s (lA κ q121 ((r (2 * y.toNatClampNeg + 1)) * 5) F122 :: gO q120 (r (2 * y.toNatClampNeg + 1)) 1 q121 :: lA κ b73 ((r (2 * y.toNatClampNeg + 1)) * 5) fb73_141 :: gO q72 (r (2 * y.toNatClampNeg + 1)) 1 b73 :: lA κ q64 ((r (2 * y.toNatClampNeg)) * 5) F65 :: gO q63 (r (2 * y.toNatClampNeg)) 1 q64 :: lA κ q60 ((r (2 * z.toNatClampNeg)) * 5) F61 :: gO q59 (r (2 * z.toNatClampNeg)) 1 q60 :: lA κ b44 ((r (2 * y.toNatClampNeg + 1)) * 5) F49 :: gO g43 (r (2 * y.toNatClampNeg + 1)) (r (2 * y.toNatClampNeg + 1)) b44 :: mw κ a r f (va_up q 3 t35) (tb a) w) H locs := Bd_del 10 hB
                      replace hB : Bd κ A s (lA κ q121 ((r (2 * y.toNatClampNeg + 1)) * 5) F122 :: gO q120 (r (2 * y.toNatClampNeg + 1)) 1 q121 :: lA κ b73 ((r (2 * y.toNatClampNeg + 1)) * 5) fb73_141 :: gO q72 (r (2 * y.toNatClampNeg + 1)) 1 b73 :: lA κ q64 ((r (2 * y.toNatClampNeg)) * 5) F65 :: gO q63 (r (2 * y.toNatClampNeg)) 1 q64 :: lA κ q60 ((r (2 * z.toNatClampNeg)) * 5) F61 :: gO q59 (r (2 * z.toNatClampNeg)) 1 q60 :: lA κ b44 ((r (2 * y.toNatClampNeg + 1)) * 5) F49 :: mw κ a r f (va_up q 3 t35) (tb a) w) H locs := Bd_del 9 hB
                      replace hB : Bd κ A s (lA κ q121 ((r (2 * y.toNatClampNeg + 1)) * 5) F122 :: gO q120 (r (2 * y.toNatClampNeg + 1)) 1 q121 :: lA κ b73 ((r (2 * y.toNatClampNeg + 1)) * 5) fb73_141 :: gO q72 (r (2 * y.toNatClampNeg + 1)) 1 b73 :: lA κ q64 ((r (2 * y.toNatClampNeg)) * 5) F65 :: gO q63 (r (2 * y.toNatClampNeg)) 1 q64 :: lA κ q60 ((r (2 * z.toNatClampNeg)) * 5) F61 :: gO q59 (r (2 * z.toNatClampNeg)) 1 q60 :: mw κ a r f (va_up q 3 t35) (tb a) w) H locs := Bd_del 8 hB
                      replace hB : Bd κ A s (lA κ q121 ((r (2 * y.toNatClampNeg + 1)) * 5) F122 :: gO q120 (r (2 * y.toNatClampNeg + 1)) 1 q121 :: lA κ b73 ((r (2 * y.toNatClampNeg + 1)) * 5) fb73_141 :: gO q72 (r (2 * y.toNatClampNeg + 1)) 1 b73 :: lA κ q64 ((r (2 * y.toNatClampNeg)) * 5) F65 :: gO q63 (r (2 * y.toNatClampNeg)) 1 q64 :: lA κ q60 ((r (2 * z.toNatClampNeg)) * 5) F61 :: mw κ a r f (va_up q 3 t35) (tb a) w) H locs := Bd_del 7 hB
                      replace hB : Bd κ A s (lA κ q121 ((r (2 * y.toNatClampNeg + 1)) * 5) F122 :: gO q120 (r (2 * y.toNatClampNeg + 1)) 1 q121 :: lA κ b73 ((r (2 * y.toNatClampNeg + 1)) * 5) fb73_141 :: gO q72 (r (2 * y.toNatClampNeg + 1)) 1 b73 :: lA κ q64 ((r (2 * y.toNatClampNeg)) * 5) F65 :: gO q63 (r (2 * y.toNatClampNeg)) 1 q64 :: mw κ a r f (va_up q 3 t35) (tb a) w) H locs := Bd_del 6 hB
                      replace hB : Bd κ A s (lA κ q121 ((r (2 * y.toNatClampNeg + 1)) * 5) F122 :: gO q120 (r (2 * y.toNatClampNeg + 1)) 1 q121 :: lA κ b73 ((r (2 * y.toNatClampNeg + 1)) * 5) fb73_141 :: gO q72 (r (2 * y.toNatClampNeg + 1)) 1 b73 :: lA κ q64 ((r (2 * y.toNatClampNeg)) * 5) F65 :: mw κ a r f (va_up q 3 t35) (tb a) w) H locs := Bd_del 5 hB
                      replace hB : Bd κ A s (lA κ q121 ((r (2 * y.toNatClampNeg + 1)) * 5) F122 :: gO q120 (r (2 * y.toNatClampNeg + 1)) 1 q121 :: lA κ b73 ((r (2 * y.toNatClampNeg + 1)) * 5) fb73_141 :: gO q72 (r (2 * y.toNatClampNeg + 1)) 1 b73 :: mw κ a r f (va_up q 3 t35) (tb a) w) H locs := Bd_del 4 hB
                      replace hB : Bd κ A s (lA κ q121 ((r (2 * y.toNatClampNeg + 1)) * 5) F122 :: gO q120 (r (2 * y.toNatClampNeg + 1)) 1 q121 :: lA κ b73 ((r (2 * y.toNatClampNeg + 1)) * 5) fb73_141 :: mw κ a r f (va_up q 3 t35) (tb a) w) H locs := Bd_del 3 hB
                      replace hB : Bd κ A s (lA κ q121 ((r (2 * y.toNatClampNeg + 1)) * 5) F122 :: gO q120 (r (2 * y.toNatClampNeg + 1)) 1 q121 :: mw κ a r f (va_up q 3 t35) (tb a) w) H locs := Bd_del 2 hB
                      obtain ⟨x124, rn126, fn127, qn128, hd129⟩ := ex4 (D_X10_become r f (va_up q 3 t35) v (r (2 * y.toNatClampNeg + 1)) 1 F122)
                      replace hR := bnd4_use hd129 hR
                      refine call_V (n := 2) (k0 := 2) (As := [.int v, .ref q120]) (rest := []) hX hB (k_X10_become κ l w a r f (va_up q 3 t35) v q120 q121 (r (2 * y.toNatClampNeg + 1)) 1 F122 hm ⟨by omega, by omega, by omega, by omega⟩ (by assumption) (by assumption) x124 rn126 fn127 qn128 hd129) ⟨rfl, yk_X10_become⟩ wm_6_108 wm_6_110 wp_37 wm_1_6 wm_6_111 ⟨Nat.le_of_ble_eq_true rfl, Nat.le_of_ble_eq_true rfl⟩ ⟨Nat.le_of_ble_eq_true rfl, Nat.le_of_ble_eq_true rfl⟩ (mw0x (a := a) (r := r) (f := f) (q := (va_up q 3 t35)) (T := tb a) (w := w) rfl) rfl rfl rfl hl.1 rfl (Nat.le_of_ble_eq_true rfl) dX10_solve_212 (fun o w' H locs hp hB => ?_)
                      obtain ⟨an125, rfl, hf130, hf131, hf132, hw9⟩ := hp
                      replace hB : Bd κ A s (mw κ an125 rn126 fn127 qn128 (tb an125) w) H locs := by rw [hw9] at hB; exact hB
                      refine W.eq (g2 := F0 m 215 ls [.int x124]) rfl ?_
                      rw [← hQ]
                      exact end_i hX hB hA3 rfl rfl (by obtain ⟨rfl, rfl, rfl, rfl⟩ := pr4 hR; exact ⟨an125, rfl, (hf130.trans rfl), hf131, (hf132.trans rfl), rfl⟩) (Nat.le_of_ble_eq_true rfl) (Nat.le_of_ble_eq_true rfl) dX10_solve_215
                    · replace hR := ifn (by decide) hR
                      refine W.eq (g2 := F0 m 191 ls [.int 1]) rfl ?_
                      refine lv_if_eq (tgt := 199) hx hb dX10_solve_191 (by decide) (fun c133 => False.elim (by revert c133; decide)) (fun _ => ?_)
                      refine lv_aload_n hx hb dX10_solve_194 rfl (lv_at hl 5 rfl) ?_
                      refine call_V (n := 0) (k0 := 13) (As := []) (rest := []) hX hB (k_X10_no κ l (lA κ b73 ((r (2 * y.toNatClampNeg + 1)) * 5) fb73_141 :: gO q72 (r (2 * y.toNatClampNeg + 1)) 1 b73 :: lA κ q64 ((r (2 * y.toNatClampNeg)) * 5) F65 :: gO q63 (r (2 * y.toNatClampNeg)) 1 q64 :: lA κ q60 ((r (2 * z.toNatClampNeg)) * 5) F61 :: gO q59 (r (2 * z.toNatClampNeg)) 1 q60 :: lA κ b44 ((r (2 * y.toNatClampNeg + 1)) * 5) F49 :: gO g43 (r (2 * y.toNatClampNeg + 1)) (r (2 * y.toNatClampNeg + 1)) b44 :: lA κ b46 ((r (2 * y.toNatClampNeg)) * 5) F50 :: gO g45 (r (2 * y.toNatClampNeg)) (r (2 * y.toNatClampNeg)) b46 :: lA κ b48 ((r (2 * y.toNatClampNeg)) * 5) F51 :: gO g47 (r (2 * y.toNatClampNeg)) (r (2 * y.toNatClampNeg + 1)) b48 :: (q42, .inr (10, [.ref g47, .ref g45, .ref g43, .int S52, .int S53, .int (nI K54), .int G55])) :: mw κ a r f (va_up q 3 t35) (tb a) w) 13 (a 0) (a 1) ((va_up q 3 t35) 0) ((va_up q 3 t35) 1) ((va_up q 3 t35) 2) ((va_up q 3 t35) 3) (mw0x (a := a) (r := r) (f := f) (q := (va_up q 3 t35)) (T := tb a) (w := w) rfl)) ⟨rfl, yk_X10_no⟩ wm_6_89 wm_6_91 wp_36 wm_1_6 wm_6_92 ⟨Nat.le_of_ble_eq_true rfl, Nat.le_of_ble_eq_true rfl⟩ ⟨Nat.le_of_ble_eq_true rfl, Nat.le_of_ble_eq_true rfl⟩ (mw0x (a := a) (r := r) (f := f) (q := (va_up q 3 t35)) (T := tb a) (w := w) rfl) rfl rfl rfl hl.1 rfl (Nat.le_of_ble_eq_true rfl) dX10_solve_195 (fun o w' H locs hp hB => ?_)
                      obtain ⟨rfl, hw9⟩ := hp
                      replace hB : Bd κ A s (lA κ b73 ((r (2 * y.toNatClampNeg + 1)) * 5) fb73_141 :: gO q72 (r (2 * y.toNatClampNeg + 1)) 1 b73 :: lA κ q64 ((r (2 * y.toNatClampNeg)) * 5) F65 :: gO q63 (r (2 * y.toNatClampNeg)) 1 q64 :: lA κ q60 ((r (2 * z.toNatClampNeg)) * 5) F61 :: gO q59 (r (2 * z.toNatClampNeg)) 1 q60 :: lA κ b44 ((r (2 * y.toNatClampNeg + 1)) * 5) F49 :: gO g43 (r (2 * y.toNatClampNeg + 1)) (r (2 * y.toNatClampNeg + 1)) b44 :: lA κ b46 ((r (2 * y.toNatClampNeg)) * 5) F50 :: gO g45 (r (2 * y.toNatClampNeg)) (r (2 * y.toNatClampNeg)) b46 :: lA κ b48 ((r (2 * y.toNatClampNeg)) * 5) F51 :: gO g47 (r (2 * y.toNatClampNeg)) (r (2 * y.toNatClampNeg + 1)) b48 :: (q42, .inr (10, [.ref g47, .ref g45, .ref g43, .int S52, .int S53, .int (nI K54), .int G55])) :: mw κ a r f (va_up (va_up q 3 t35) 1 (((va_up q 3 t35) 1) + 1)) (tb a) w) H locs := by exact Bd_eq (congrArg (List.cons _) (congrArg (List.cons _) (congrArg (List.cons _) (congrArg (List.cons _) (congrArg (List.cons _) (congrArg (List.cons _) (congrArg (List.cons _) (congrArg (List.cons _) (congrArg (List.cons _) (congrArg (List.cons _) (congrArg (List.cons _) (congrArg (List.cons _) (congrArg (List.cons _) (mwQ1x rfl _)))))))))))))) (by rw [hw9] at hB; exact hB)
                      refine W.eq (g2 := F0 m 198 ls [.int (-9)]) rfl ?_
                      replace hB : Bd κ A s (lA κ b73 ((r (2 * y.toNatClampNeg + 1)) * 5) fb73_141 :: gO q72 (r (2 * y.toNatClampNeg + 1)) 1 b73 :: lA κ q64 ((r (2 * y.toNatClampNeg)) * 5) F65 :: gO q63 (r (2 * y.toNatClampNeg)) 1 q64 :: lA κ q60 ((r (2 * z.toNatClampNeg)) * 5) F61 :: gO q59 (r (2 * z.toNatClampNeg)) 1 q60 :: lA κ b44 ((r (2 * y.toNatClampNeg + 1)) * 5) F49 :: gO g43 (r (2 * y.toNatClampNeg + 1)) (r (2 * y.toNatClampNeg + 1)) b44 :: lA κ b46 ((r (2 * y.toNatClampNeg)) * 5) F50 :: gO g45 (r (2 * y.toNatClampNeg)) (r (2 * y.toNatClampNeg)) b46 :: lA κ b48 ((r (2 * y.toNatClampNeg)) * 5) F51 :: gO g47 (r (2 * y.toNatClampNeg)) (r (2 * y.toNatClampNeg + 1)) b48 :: mw κ a r f (va_up (va_up q 3 t35) 1 (((va_up q 3 t35) 1) + 1)) (tb a) w) H locs := Bd_del 12 hB
                      replace hB : Bd κ A s (lA κ b73 ((r (2 * y.toNatClampNeg + 1)) * 5) fb73_141 :: gO q72 (r (2 * y.toNatClampNeg + 1)) 1 b73 :: lA κ q64 ((r (2 * y.toNatClampNeg)) * 5) F65 :: gO q63 (r (2 * y.toNatClampNeg)) 1 q64 :: lA κ q60 ((r (2 * z.toNatClampNeg)) * 5) F61 :: gO q59 (r (2 * z.toNatClampNeg)) 1 q60 :: lA κ b44 ((r (2 * y.toNatClampNeg + 1)) * 5) F49 :: gO g43 (r (2 * y.toNatClampNeg + 1)) (r (2 * y.toNatClampNeg + 1)) b44 :: lA κ b46 ((r (2 * y.toNatClampNeg)) * 5) F50 :: gO g45 (r (2 * y.toNatClampNeg)) (r (2 * y.toNatClampNeg)) b46 :: lA κ b48 ((r (2 * y.toNatClampNeg)) * 5) F51 :: mw κ a r f (va_up (va_up q 3 t35) 1 (((va_up q 3 t35) 1) + 1)) (tb a) w) H locs := Bd_del 11 hB
                      replace hB : Bd κ A s (lA κ b73 ((r (2 * y.toNatClampNeg + 1)) * 5) fb73_141 :: gO q72 (r (2 * y.toNatClampNeg + 1)) 1 b73 :: lA κ q64 ((r (2 * y.toNatClampNeg)) * 5) F65 :: gO q63 (r (2 * y.toNatClampNeg)) 1 q64 :: lA κ q60 ((r (2 * z.toNatClampNeg)) * 5) F61 :: gO q59 (r (2 * z.toNatClampNeg)) 1 q60 :: lA κ b44 ((r (2 * y.toNatClampNeg + 1)) * 5) F49 :: gO g43 (r (2 * y.toNatClampNeg + 1)) (r (2 * y.toNatClampNeg + 1)) b44 :: lA κ b46 ((r (2 * y.toNatClampNeg)) * 5) F50 :: gO g45 (r (2 * y.toNatClampNeg)) (r (2 * y.toNatClampNeg)) b46 :: mw κ a r f (va_up (va_up q 3 t35) 1 (((va_up q 3 t35) 1) + 1)) (tb a) w) H locs := Bd_del 10 hB
                      replace hB : Bd κ A s (lA κ b73 ((r (2 * y.toNatClampNeg + 1)) * 5) fb73_141 :: gO q72 (r (2 * y.toNatClampNeg + 1)) 1 b73 :: lA κ q64 ((r (2 * y.toNatClampNeg)) * 5) F65 :: gO q63 (r (2 * y.toNatClampNeg)) 1 q64 :: lA κ q60 ((r (2 * z.toNatClampNeg)) * 5) F61 :: gO q59 (r (2 * z.toNatClampNeg)) 1 q60 :: lA κ b44 ((r (2 * y.toNatClampNeg + 1)) * 5) F49 :: gO g43 (r (2 * y.toNatClampNeg + 1)) (r (2 * y.toNatClampNeg + 1)) b44 :: lA κ b46 ((r (2 * y.toNatClampNeg)) * 5) F50 :: mw κ a r f (va_up (va_up q 3 t35) 1 (((va_up q 3 t35) 1) + 1)) (tb a) w) H locs := Bd_del 9 hB
                      replace hB : Bd κ A s (lA κ b73 ((r (2 * y.toNatClampNeg + 1)) * 5) fb73_141 :: gO q72 (r (2 * y.toNatClampNeg + 1)) 1 b73 :: lA κ q64 ((r (2 * y.toNatClampNeg)) * 5) F65 :: gO q63 (r (2 * y.toNatClampNeg)) 1 q64 :: lA κ q60 ((r (2 * z.toNatClampNeg)) * 5) F61 :: gO q59 (r (2 * z.toNatClampNeg)) 1 q60 :: lA κ b44 ((r (2 * y.toNatClampNeg + 1)) * 5) F49 :: gO g43 (r (2 * y.toNatClampNeg + 1)) (r (2 * y.toNatClampNeg + 1)) b44 :: mw κ a r f (va_up (va_up q 3 t35) 1 (((va_up q 3 t35) 1) + 1)) (tb a) w) H locs := Bd_del 8 hB
                      replace hB : Bd κ A s (lA κ b73 ((r (2 * y.toNatClampNeg + 1)) * 5) fb73_141 :: gO q72 (r (2 * y.toNatClampNeg + 1)) 1 b73 :: lA κ q64 ((r (2 * y.toNatClampNeg)) * 5) F65 :: gO q63 (r (2 * y.toNatClampNeg)) 1 q64 :: lA κ q60 ((r (2 * z.toNatClampNeg)) * 5) F61 :: gO q59 (r (2 * z.toNatClampNeg)) 1 q60 :: lA κ b44 ((r (2 * y.toNatClampNeg + 1)) * 5) F49 :: mw κ a r f (va_up (va_up q 3 t35) 1 (((va_up q 3 t35) 1) + 1)) (tb a) w) H locs := Bd_del 7 hB
                      replace hB : Bd κ A s (lA κ b73 ((r (2 * y.toNatClampNeg + 1)) * 5) fb73_141 :: gO q72 (r (2 * y.toNatClampNeg + 1)) 1 b73 :: lA κ q64 ((r (2 * y.toNatClampNeg)) * 5) F65 :: gO q63 (r (2 * y.toNatClampNeg)) 1 q64 :: lA κ q60 ((r (2 * z.toNatClampNeg)) * 5) F61 :: gO q59 (r (2 * z.toNatClampNeg)) 1 q60 :: mw κ a r f (va_up (va_up q 3 t35) 1 (((va_up q 3 t35) 1) + 1)) (tb a) w) H locs := Bd_del 6 hB
                      replace hB : Bd κ A s (lA κ b73 ((r (2 * y.toNatClampNeg + 1)) * 5) fb73_141 :: gO q72 (r (2 * y.toNatClampNeg + 1)) 1 b73 :: lA κ q64 ((r (2 * y.toNatClampNeg)) * 5) F65 :: gO q63 (r (2 * y.toNatClampNeg)) 1 q64 :: lA κ q60 ((r (2 * z.toNatClampNeg)) * 5) F61 :: mw κ a r f (va_up (va_up q 3 t35) 1 (((va_up q 3 t35) 1) + 1)) (tb a) w) H locs := Bd_del 5 hB
                      replace hB : Bd κ A s (lA κ b73 ((r (2 * y.toNatClampNeg + 1)) * 5) fb73_141 :: gO q72 (r (2 * y.toNatClampNeg + 1)) 1 b73 :: lA κ q64 ((r (2 * y.toNatClampNeg)) * 5) F65 :: gO q63 (r (2 * y.toNatClampNeg)) 1 q64 :: mw κ a r f (va_up (va_up q 3 t35) 1 (((va_up q 3 t35) 1) + 1)) (tb a) w) H locs := Bd_del 4 hB
                      replace hB : Bd κ A s (lA κ b73 ((r (2 * y.toNatClampNeg + 1)) * 5) fb73_141 :: gO q72 (r (2 * y.toNatClampNeg + 1)) 1 b73 :: lA κ q64 ((r (2 * y.toNatClampNeg)) * 5) F65 :: mw κ a r f (va_up (va_up q 3 t35) 1 (((va_up q 3 t35) 1) + 1)) (tb a) w) H locs := Bd_del 3 hB
                      replace hB : Bd κ A s (lA κ b73 ((r (2 * y.toNatClampNeg + 1)) * 5) fb73_141 :: gO q72 (r (2 * y.toNatClampNeg + 1)) 1 b73 :: mw κ a r f (va_up (va_up q 3 t35) 1 (((va_up q 3 t35) 1) + 1)) (tb a) w) H locs := Bd_del 2 hB
                      replace hB : Bd κ A s (lA κ b73 ((r (2 * y.toNatClampNeg + 1)) * 5) fb73_141 :: mw κ a r f (va_up (va_up q 3 t35) 1 (((va_up q 3 t35) 1) + 1)) (tb a) w) H locs := Bd_del 1 hB
                      replace hB : Bd κ A s (mw κ a r f (va_up (va_up q 3 t35) 1 (((va_up q 3 t35) 1) + 1)) (tb a) w) H locs := Bd_del 0 hB
                      rw [← hQ]
                      exact end_i hX hB hA3 rfl rfl (by obtain ⟨rfl, rfl, rfl, rfl⟩ := pr4 hR; exact ⟨a, rfl, rfl, hm, rfl, rfl⟩) (Nat.le_of_ble_eq_true rfl) (Nat.le_of_ble_eq_true rfl) dX10_solve_198
                  · rw [nleP (a := K54) (b := y9_141) (by omega) (by omega)] at c114
                    replace hR := ifn c114 hR
                    refine lv_aload hx hb dX10_solve_151 (lv_at hl 1 rfl) ?_
                    refine lv_iload hx hb dX10_solve_153 (lv_at hl 0 rfl) ?_
                    refine lv_iconst (v := 0) hx hb dX10_solve_155 (by decide) ?_
                    refine lv_aload hx hb dX10_solve_156 (lv_at hl 2 rfl) ?_
                    refine lv_iload hx hb dX10_solve_158 (lv_at hl 0 rfl) ?_
                    refine lv_iconst (v := 0) hx hb dX10_solve_160 (by decide) ?_
                    refine call_V (n := 2) (k0 := 3) (As := [.int (nI y9_141), .int 0]) (rest := [.int 0, .int (nI y9_141), .ref q72]) hX hB (k_X7_at κ l (lA κ b73 ((r (2 * y.toNatClampNeg + 1)) * 5) fb73_141 :: gO q72 (r (2 * y.toNatClampNeg + 1)) 1 b73 :: lA κ q64 ((r (2 * y.toNatClampNeg)) * 5) F65 :: gO q63 (r (2 * y.toNatClampNeg)) 1 q64 :: lA κ q60 ((r (2 * z.toNatClampNeg)) * 5) F61 :: gO q59 (r (2 * z.toNatClampNeg)) 1 q60 :: lA κ b44 ((r (2 * y.toNatClampNeg + 1)) * 5) F49 :: gO g43 (r (2 * y.toNatClampNeg + 1)) (r (2 * y.toNatClampNeg + 1)) b44 :: lA κ b46 ((r (2 * y.toNatClampNeg)) * 5) F50 :: gO g45 (r (2 * y.toNatClampNeg)) (r (2 * y.toNatClampNeg)) b46 :: lA κ b48 ((r (2 * y.toNatClampNeg)) * 5) F51 :: gO g47 (r (2 * y.toNatClampNeg)) (r (2 * y.toNatClampNeg + 1)) b48 :: (q42, .inr (10, [.ref g47, .ref g45, .ref g43, .int S52, .int S53, .int (nI K54), .int G55])) :: mw κ a r f (va_up q 3 t35) (tb a) w) 3 2 q63 q64 (r (2 * y.toNatClampNeg)) 1 F65 (nI y9_141) y9_141 0 0 rfl rfl ⟨by omega, by omega, by omega, by omega⟩ rfl rfl (by omega)) ⟨rfl, yk_X7_at⟩ wm_5_237 wm_5_238 wm_5_239 wm_1_7 wm_6_0 ⟨Nat.le_of_ble_eq_true rfl, Nat.le_of_ble_eq_true rfl⟩ ⟨Nat.le_of_ble_eq_true rfl, Nat.le_of_ble_eq_true rfl⟩ rfl rfl rfl rfl hl.1 rfl (Nat.le_of_ble_eq_true rfl) dX10_solve_161 (fun o w' H locs hp hB => ?_)
                    obtain ⟨rfl, hw9⟩ := hp
                    replace hB : Bd κ A s (lA κ b73 ((r (2 * y.toNatClampNeg + 1)) * 5) fb73_141 :: gO q72 (r (2 * y.toNatClampNeg + 1)) 1 b73 :: lA κ q64 ((r (2 * y.toNatClampNeg)) * 5) F65 :: gO q63 (r (2 * y.toNatClampNeg)) 1 q64 :: lA κ q60 ((r (2 * z.toNatClampNeg)) * 5) F61 :: gO q59 (r (2 * z.toNatClampNeg)) 1 q60 :: lA κ b44 ((r (2 * y.toNatClampNeg + 1)) * 5) F49 :: gO g43 (r (2 * y.toNatClampNeg + 1)) (r (2 * y.toNatClampNeg + 1)) b44 :: lA κ b46 ((r (2 * y.toNatClampNeg)) * 5) F50 :: gO g45 (r (2 * y.toNatClampNeg)) (r (2 * y.toNatClampNeg)) b46 :: lA κ b48 ((r (2 * y.toNatClampNeg)) * 5) F51 :: gO g47 (r (2 * y.toNatClampNeg)) (r (2 * y.toNatClampNeg + 1)) b48 :: (q42, .inr (10, [.ref g47, .ref g45, .ref g43, .int S52, .int S53, .int (nI K54), .int G55])) :: mw κ a r f (va_up q 3 t35) (tb a) w) H locs := by rw [hw9] at hB; exact hB
                    refine W.eq (g2 := F0 m 164 ls [.long (F65 (y9_141 * 5 + 0)), .int 0, .int (nI y9_141), .ref q72]) rfl ?_
                    refine lv_aload hx hb dX10_solve_164 (lv_at hl 3 rfl) ?_
                    refine gf (k0 := 12) hX hB rfl rfl in9 0 (by decide) wm_6_222 rfl rfl dX10_solve_166 ?_
                    refine lv_iload hx hb dX10_solve_169 (lv_at hl 0 rfl) ?_
                    refine lv_iload hx hb dX10_solve_171 (lv_at hl 0 rfl) ?_
                    refine call_V (n := 2) (k0 := 11) (As := [.int (nI y9_141), .int (nI y9_141)]) (rest := [.long (F65 (y9_141 * 5 + 0)), .int 0, .int (nI y9_141), .ref q72]) hX hB (k_X7_at κ l (lA κ b73 ((r (2 * y.toNatClampNeg + 1)) * 5) fb73_141 :: gO q72 (r (2 * y.toNatClampNeg + 1)) 1 b73 :: lA κ q64 ((r (2 * y.toNatClampNeg)) * 5) F65 :: gO q63 (r (2 * y.toNatClampNeg)) 1 q64 :: lA κ q60 ((r (2 * z.toNatClampNeg)) * 5) F61 :: gO q59 (r (2 * z.toNatClampNeg)) 1 q60 :: lA κ b44 ((r (2 * y.toNatClampNeg + 1)) * 5) F49 :: gO g43 (r (2 * y.toNatClampNeg + 1)) (r (2 * y.toNatClampNeg + 1)) b44 :: lA κ b46 ((r (2 * y.toNatClampNeg)) * 5) F50 :: gO g45 (r (2 * y.toNatClampNeg)) (r (2 * y.toNatClampNeg)) b46 :: lA κ b48 ((r (2 * y.toNatClampNeg)) * 5) F51 :: gO g47 (r (2 * y.toNatClampNeg)) (r (2 * y.toNatClampNeg + 1)) b48 :: (q42, .inr (10, [.ref g47, .ref g45, .ref g43, .int S52, .int S53, .int (nI K54), .int G55])) :: mw κ a r f (va_up q 3 t35) (tb a) w) 11 10 g47 b48 (r (2 * y.toNatClampNeg)) (r (2 * y.toNatClampNeg + 1)) F51 (nI y9_141) y9_141 (nI y9_141) y9_141 rfl rfl (mok_shp (i := y.toNatClampNeg) hm (by omega)) rfl rfl (by omega)) ⟨rfl, yk_X7_at⟩ wm_5_237 wm_5_238 wm_5_239 wm_1_7 wm_6_0 ⟨Nat.le_of_ble_eq_true rfl, Nat.le_of_ble_eq_true rfl⟩ ⟨Nat.le_of_ble_eq_true rfl, Nat.le_of_ble_eq_true rfl⟩ rfl rfl rfl rfl hl.1 rfl (Nat.le_of_ble_eq_true rfl) dX10_solve_173 (fun o w' H locs hp hB => ?_)
                    obtain ⟨rfl, hw9⟩ := hp
                    replace hB : Bd κ A s (lA κ b73 ((r (2 * y.toNatClampNeg + 1)) * 5) fb73_141 :: gO q72 (r (2 * y.toNatClampNeg + 1)) 1 b73 :: lA κ q64 ((r (2 * y.toNatClampNeg)) * 5) F65 :: gO q63 (r (2 * y.toNatClampNeg)) 1 q64 :: lA κ q60 ((r (2 * z.toNatClampNeg)) * 5) F61 :: gO q59 (r (2 * z.toNatClampNeg)) 1 q60 :: lA κ b44 ((r (2 * y.toNatClampNeg + 1)) * 5) F49 :: gO g43 (r (2 * y.toNatClampNeg + 1)) (r (2 * y.toNatClampNeg + 1)) b44 :: lA κ b46 ((r (2 * y.toNatClampNeg)) * 5) F50 :: gO g45 (r (2 * y.toNatClampNeg)) (r (2 * y.toNatClampNeg)) b46 :: lA κ b48 ((r (2 * y.toNatClampNeg)) * 5) F51 :: gO g47 (r (2 * y.toNatClampNeg)) (r (2 * y.toNatClampNeg + 1)) b48 :: (q42, .inr (10, [.ref g47, .ref g45, .ref g43, .int S52, .int S53, .int (nI K54), .int G55])) :: mw κ a r f (va_up q 3 t35) (tb a) w) H locs := by rw [hw9] at hB; exact hB
                    refine W.eq (g2 := F0 m 176 ls [.long (F51 (y9_141 * 5 + y9_141)), .long (F65 (y9_141 * 5 + 0)), .int 0, .int (nI y9_141), .ref q72]) rfl ?_
                    refine lv_ldiv hx hb dX10_solve_176 (hf57.2.2 _ (by omega)) ?_
                    refine call_V (n := 3) (k0 := 1) (As := [.int (nI y9_141), .int 0, .long ((F65 (y9_141 * 5 + 0)) / (F51 (y9_141 * 5 + y9_141)))]) (rest := []) hX hB (k_X7_put κ l (lA κ b73 ((r (2 * y.toNatClampNeg + 1)) * 5) fb73_141 :: gO q72 (r (2 * y.toNatClampNeg + 1)) 1 b73 :: lA κ q64 ((r (2 * y.toNatClampNeg)) * 5) F65 :: gO q63 (r (2 * y.toNatClampNeg)) 1 q64 :: lA κ q60 ((r (2 * z.toNatClampNeg)) * 5) F61 :: gO q59 (r (2 * z.toNatClampNeg)) 1 q60 :: lA κ b44 ((r (2 * y.toNatClampNeg + 1)) * 5) F49 :: gO g43 (r (2 * y.toNatClampNeg + 1)) (r (2 * y.toNatClampNeg + 1)) b44 :: lA κ b46 ((r (2 * y.toNatClampNeg)) * 5) F50 :: gO g45 (r (2 * y.toNatClampNeg)) (r (2 * y.toNatClampNeg)) b46 :: lA κ b48 ((r (2 * y.toNatClampNeg)) * 5) F51 :: gO g47 (r (2 * y.toNatClampNeg)) (r (2 * y.toNatClampNeg + 1)) b48 :: (q42, .inr (10, [.ref g47, .ref g45, .ref g43, .int S52, .int S53, .int (nI K54), .int G55])) :: mw κ a r f (va_up q 3 t35) (tb a) w) 1 0 q72 b73 (r (2 * y.toNatClampNeg + 1)) 1 fb73_141 (nI y9_141) y9_141 0 0 ((F65 (y9_141 * 5 + 0)) / (F51 (y9_141 * 5 + y9_141))) rfl rfl ⟨by omega, by omega, by omega, by omega⟩ rfl rfl (by omega)) ⟨rfl, yk_X7_put⟩ wm_6_1 wm_5_222 wm_5_223 wm_1_7 wm_5_224 ⟨Nat.le_of_ble_eq_true rfl, Nat.le_of_ble_eq_true rfl⟩ ⟨Nat.le_of_ble_eq_true rfl, Nat.le_of_ble_eq_true rfl⟩ rfl rfl rfl rfl hl.1 rfl (Nat.le_of_ble_eq_true rfl) dX10_solve_177 (fun o w' H locs hp hB => ?_)
                    obtain ⟨rfl, hw9⟩ := hp
                    replace hB : Bd κ A s (lA κ b73 ((r (2 * y.toNatClampNeg + 1)) * 5) (vp_updL fb73_141 (y9_141 * 5 + 0) ((F65 (y9_141 * 5 + 0)) / (F51 (y9_141 * 5 + y9_141)))) :: gO q72 (r (2 * y.toNatClampNeg + 1)) 1 b73 :: lA κ q64 ((r (2 * y.toNatClampNeg)) * 5) F65 :: gO q63 (r (2 * y.toNatClampNeg)) 1 q64 :: lA κ q60 ((r (2 * z.toNatClampNeg)) * 5) F61 :: gO q59 (r (2 * z.toNatClampNeg)) 1 q60 :: lA κ b44 ((r (2 * y.toNatClampNeg + 1)) * 5) F49 :: gO g43 (r (2 * y.toNatClampNeg + 1)) (r (2 * y.toNatClampNeg + 1)) b44 :: lA κ b46 ((r (2 * y.toNatClampNeg)) * 5) F50 :: gO g45 (r (2 * y.toNatClampNeg)) (r (2 * y.toNatClampNeg)) b46 :: lA κ b48 ((r (2 * y.toNatClampNeg)) * 5) F51 :: gO g47 (r (2 * y.toNatClampNeg)) (r (2 * y.toNatClampNeg + 1)) b48 :: (q42, .inr (10, [.ref g47, .ref g45, .ref g43, .int S52, .int S53, .int (nI K54), .int G55])) :: mw κ a r f (va_up q 3 t35) (tb a) w) H locs := by rw [hw9] at hB; exact hB
                    refine W.eq (g2 := F0 m 180 ls []) rfl ?_
                    refine lv_iinc (v := nI (y9_141 + 1)) (lv' := [(9, .int (nI (y9_141 + 1))), (8, .ref q72), (7, .ref q63), (6, .ref q42), (5, .ref (a (2 + 2 * y.toNatClampNeg))), (0, .ref (a 0)), (1, .int y), (2, .int z), (3, .int u), (4, .int v)]) hx hb dX10_solve_180 hl (k := 0) rfl (nI_add y9_141 1) (by decide) rfl (fun ls hl => ?_)
                    refine lv_goto (tgt := 141) hx hb dX10_solve_183 (by decide) ?_
                    exact ih141 (y9_141 + 1) (vp_updL fb73_141 (y9_141 * 5 + 0) ((F65 (y9_141 * 5 + 0)) / (F51 (y9_141 * 5 + y9_141)))) _ _ (by omega) (by omega) hR hB _ hl
              exact lp141 _ 0 (fun _ => 0) _ _ (by omega) (Nat.lt_succ_self _) hR hB _ hl
          · replace hR := ifn c58 hR
            refine lv_aload_n hx hb dX10_solve_87 rfl (lv_at hl 2 rfl) ?_
            refine call_V (n := 0) (k0 := 7) (As := []) (rest := []) hX hB (k_X10_no κ l (lA κ b44 ((r (2 * y.toNatClampNeg + 1)) * 5) F49 :: gO g43 (r (2 * y.toNatClampNeg + 1)) (r (2 * y.toNatClampNeg + 1)) b44 :: lA κ b46 ((r (2 * y.toNatClampNeg)) * 5) F50 :: gO g45 (r (2 * y.toNatClampNeg)) (r (2 * y.toNatClampNeg)) b46 :: lA κ b48 ((r (2 * y.toNatClampNeg)) * 5) F51 :: gO g47 (r (2 * y.toNatClampNeg)) (r (2 * y.toNatClampNeg + 1)) b48 :: (q42, .inr (10, [.ref g47, .ref g45, .ref g43, .int S52, .int S53, .int (nI K54), .int G55])) :: mw κ a r f (va_up q 3 t35) (tb a) w) 7 (a 0) (a 1) ((va_up q 3 t35) 0) ((va_up q 3 t35) 1) ((va_up q 3 t35) 2) ((va_up q 3 t35) 3) (mw0x (a := a) (r := r) (f := f) (q := (va_up q 3 t35)) (T := tb a) (w := w) rfl)) ⟨rfl, yk_X10_no⟩ wm_6_89 wm_6_91 wp_36 wm_1_6 wm_6_92 ⟨Nat.le_of_ble_eq_true rfl, Nat.le_of_ble_eq_true rfl⟩ ⟨Nat.le_of_ble_eq_true rfl, Nat.le_of_ble_eq_true rfl⟩ (mw0x (a := a) (r := r) (f := f) (q := (va_up q 3 t35)) (T := tb a) (w := w) rfl) rfl rfl rfl hl.1 rfl (Nat.le_of_ble_eq_true rfl) dX10_solve_88 (fun o w' H locs hp hB => ?_)
            obtain ⟨rfl, hw9⟩ := hp
            replace hB : Bd κ A s (lA κ b44 ((r (2 * y.toNatClampNeg + 1)) * 5) F49 :: gO g43 (r (2 * y.toNatClampNeg + 1)) (r (2 * y.toNatClampNeg + 1)) b44 :: lA κ b46 ((r (2 * y.toNatClampNeg)) * 5) F50 :: gO g45 (r (2 * y.toNatClampNeg)) (r (2 * y.toNatClampNeg)) b46 :: lA κ b48 ((r (2 * y.toNatClampNeg)) * 5) F51 :: gO g47 (r (2 * y.toNatClampNeg)) (r (2 * y.toNatClampNeg + 1)) b48 :: (q42, .inr (10, [.ref g47, .ref g45, .ref g43, .int S52, .int S53, .int (nI K54), .int G55])) :: mw κ a r f (va_up (va_up q 3 t35) 1 (((va_up q 3 t35) 1) + 1)) (tb a) w) H locs := by exact Bd_eq (congrArg (List.cons _) (congrArg (List.cons _) (congrArg (List.cons _) (congrArg (List.cons _) (congrArg (List.cons _) (congrArg (List.cons _) (congrArg (List.cons _) (mwQ1x rfl _)))))))) (by rw [hw9] at hB; exact hB)
            refine W.eq (g2 := F0 m 91 ls [.int (-9)]) rfl ?_
            replace hB : Bd κ A s (lA κ b44 ((r (2 * y.toNatClampNeg + 1)) * 5) F49 :: gO g43 (r (2 * y.toNatClampNeg + 1)) (r (2 * y.toNatClampNeg + 1)) b44 :: lA κ b46 ((r (2 * y.toNatClampNeg)) * 5) F50 :: gO g45 (r (2 * y.toNatClampNeg)) (r (2 * y.toNatClampNeg)) b46 :: lA κ b48 ((r (2 * y.toNatClampNeg)) * 5) F51 :: gO g47 (r (2 * y.toNatClampNeg)) (r (2 * y.toNatClampNeg + 1)) b48 :: mw κ a r f (va_up (va_up q 3 t35) 1 (((va_up q 3 t35) 1) + 1)) (tb a) w) H locs := Bd_del 6 hB
            replace hB : Bd κ A s (lA κ b44 ((r (2 * y.toNatClampNeg + 1)) * 5) F49 :: gO g43 (r (2 * y.toNatClampNeg + 1)) (r (2 * y.toNatClampNeg + 1)) b44 :: lA κ b46 ((r (2 * y.toNatClampNeg)) * 5) F50 :: gO g45 (r (2 * y.toNatClampNeg)) (r (2 * y.toNatClampNeg)) b46 :: lA κ b48 ((r (2 * y.toNatClampNeg)) * 5) F51 :: mw κ a r f (va_up (va_up q 3 t35) 1 (((va_up q 3 t35) 1) + 1)) (tb a) w) H locs := Bd_del 5 hB
            replace hB : Bd κ A s (lA κ b44 ((r (2 * y.toNatClampNeg + 1)) * 5) F49 :: gO g43 (r (2 * y.toNatClampNeg + 1)) (r (2 * y.toNatClampNeg + 1)) b44 :: lA κ b46 ((r (2 * y.toNatClampNeg)) * 5) F50 :: gO g45 (r (2 * y.toNatClampNeg)) (r (2 * y.toNatClampNeg)) b46 :: mw κ a r f (va_up (va_up q 3 t35) 1 (((va_up q 3 t35) 1) + 1)) (tb a) w) H locs := Bd_del 4 hB
            replace hB : Bd κ A s (lA κ b44 ((r (2 * y.toNatClampNeg + 1)) * 5) F49 :: gO g43 (r (2 * y.toNatClampNeg + 1)) (r (2 * y.toNatClampNeg + 1)) b44 :: lA κ b46 ((r (2 * y.toNatClampNeg)) * 5) F50 :: mw κ a r f (va_up (va_up q 3 t35) 1 (((va_up q 3 t35) 1) + 1)) (tb a) w) H locs := Bd_del 3 hB
            replace hB : Bd κ A s (lA κ b44 ((r (2 * y.toNatClampNeg + 1)) * 5) F49 :: gO g43 (r (2 * y.toNatClampNeg + 1)) (r (2 * y.toNatClampNeg + 1)) b44 :: mw κ a r f (va_up (va_up q 3 t35) 1 (((va_up q 3 t35) 1) + 1)) (tb a) w) H locs := Bd_del 2 hB
            replace hB : Bd κ A s (lA κ b44 ((r (2 * y.toNatClampNeg + 1)) * 5) F49 :: mw κ a r f (va_up (va_up q 3 t35) 1 (((va_up q 3 t35) 1) + 1)) (tb a) w) H locs := Bd_del 1 hB
            replace hB : Bd κ A s (mw κ a r f (va_up (va_up q 3 t35) 1 (((va_up q 3 t35) 1) + 1)) (tb a) w) H locs := Bd_del 0 hB
            rw [← hQ]
            exact end_i hX hB hA3 rfl rfl (by obtain ⟨rfl, rfl, rfl, rfl⟩ := pr4 hR; exact ⟨a, rfl, rfl, hm, rfl, rfl⟩) (Nat.le_of_ble_eq_true rfl) (Nat.le_of_ble_eq_true rfl) dX10_solve_91
        · rw [neqP (a := r (2 * y.toNatClampNeg)) (b := r (2 * z.toNatClampNeg)) (by omega) (by omega)] at c41
          replace hR := ifn c41 hR
          refine lv_aload_n hx hb dX10_solve_63 rfl (lv_at hl 1 rfl) ?_
          refine call_V (n := 0) (k0 := 0) (As := []) (rest := []) hX hB (k_X10_no κ l (mw κ a r f (va_up q 3 t35) (tb a) w) 0 (a 0) (a 1) ((va_up q 3 t35) 0) ((va_up q 3 t35) 1) ((va_up q 3 t35) 2) ((va_up q 3 t35) 3) (mw0x (a := a) (r := r) (f := f) (q := (va_up q 3 t35)) (T := tb a) (w := w) rfl)) ⟨rfl, yk_X10_no⟩ wm_6_89 wm_6_91 wp_36 wm_1_6 wm_6_92 ⟨Nat.le_of_ble_eq_true rfl, Nat.le_of_ble_eq_true rfl⟩ ⟨Nat.le_of_ble_eq_true rfl, Nat.le_of_ble_eq_true rfl⟩ (mw0x (a := a) (r := r) (f := f) (q := (va_up q 3 t35)) (T := tb a) (w := w) rfl) rfl rfl rfl hl.1 rfl (Nat.le_of_ble_eq_true rfl) dX10_solve_64 (fun o w' H locs hp hB => ?_)
          obtain ⟨rfl, hw9⟩ := hp
          replace hB : Bd κ A s (mw κ a r f (va_up (va_up q 3 t35) 1 (((va_up q 3 t35) 1) + 1)) (tb a) w) H locs := by exact Bd_eq (mwQ1x rfl _) (by rw [hw9] at hB; exact hB)
          refine W.eq (g2 := F0 m 67 ls [.int (-9)]) rfl ?_
          rw [← hQ]
          exact end_i hX hB hA3 rfl rfl (by obtain ⟨rfl, rfl, rfl, rfl⟩ := pr4 hR; exact ⟨a, rfl, rfl, hm, rfl, rfl⟩) (Nat.le_of_ble_eq_true rfl) (Nat.le_of_ble_eq_true rfl) dX10_solve_67
end
