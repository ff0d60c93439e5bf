/-! ===== The reference's object: its cells ===== -/
abbrev tb (a : Nat → Nat) : Nat → Option Nat := fun j => some (a (2 + 2 * j))
def mwE (a : Nat → Nat) (cy : Nat → ClassId) (r : Nat → Nat) (f : Nat → Nat → Int64) (q : Nat → Int32) (T : Nat → Option Nat) (k : Nat) : va_E :=
  if k = 0 then .inr (11, [.ref (a 1), .int (q 0), .int (q 1), .int (q 2), .int (q 3)])
  else if k = 1 then .inl (cy 2, 4, .inr (.inr (.inr (.inr T))))
  else if k % 2 = 0 then .inr (8, [.int (nI (r (k - 2))), .int (nI (r (k - 1))), .ref (a (k + 1))])
  else .inl (cy 0, r (k - 3) * 5, .inr (.inl (f ((k - 3) / 2))))
/-- 0 the object, 1 its tables, 2 + 2 i and 3 + 2 i the grid i -/
def mw (κ : Kt) (a : Nat → Nat) (r : Nat → Nat) (f : Nat → Nat → Int64) (q : Nat → Int32) (T : Nat → Option Nat) (w : va_W) : va_W := (List.range 10).map (fun k => (a k, mwE a κ.2.1 r f q T k)) ++ w
section MWS
variable {κ : Kt} {a r : Nat → Nat} {f f' : Nat → Nat → Int64} {q q' : Nat → Int32} {T T' : Nat → Option Nat} {w : va_W} {i : Nat}
theorem mw_at {k : Nat} (hk : k < 10) {e : va_E} (he : mwE a κ.2.1 r f q T k = e) : (mw κ a r f q T w)[k]? = some (a k, e) := by
  subst he
  unfold mw
  rw [List.getElem?_append_left (by simp; omega)]
  simp [hk]
theorem mw_tl {k : Nat} : (mw κ a r f q T w)[10 + k]? = w[k]? := by
  unfold mw
  rw [List.getElem?_append_right (by simp)]
  simp
theorem mw_set {k : Nat} (hk : k < 10) {e : va_E} (h : ∀ j, j < 10 → (if j = k then e else mwE a κ.2.1 r f q T j) = mwE a κ.2.1 r f' q' T' j) : (mw κ a r f q T w).set k (a k, e) = mw κ a r f' q' T' w := by
  unfold mw
  rw [List.set_append_left _ _ (by simp; omega)]
  congr 1
  apply List.ext_getElem?
  intro j
  simp only [List.getElem?_set, List.length_map, List.length_range, List.getElem?_map, List.getElem?_range]
  by_cases hj : j < 10
  · have h1 := h j hj
    by_cases e1 : k = j
    · subst e1
      simp only [if_true, hj] at h1 ⊢
      simp [h1, List.getElem?_range hj]
    · rw [if_neg (fun h => e1 h.symm)] at h1
      simp [e1, hj, h1]
  · by_cases e1 : k = j
    · subst e1; simp [hj]
    · simp [e1, hj]
theorem mwE_G (i : Nat) {cy : Nat → ClassId} : mwE a cy r f q T (2 + 2 * i) = .inr (8, [.int (nI (r (2 * i))), .int (nI (r (2 * i + 1))), .ref (a (3 + 2 * i))]) := by
  unfold mwE
  rw [if_neg (by omega), if_neg (by omega), if_pos (by omega), show 2 + 2 * i - 2 = 2 * i by omega, show 2 + 2 * i - 1 = 2 * i + 1 by omega, show 2 + 2 * i + 1 = 3 + 2 * i by omega]
theorem mwE_A (i : Nat) {cy : Nat → ClassId} : mwE a cy r f q T (3 + 2 * i) = .inl (cy 0, r (2 * i) * 5, .inr (.inl (f i))) := by
  unfold mwE
  rw [if_neg (by omega), if_neg (by omega), if_neg (by omega), show 3 + 2 * i - 3 = 2 * i by omega, show 2 * i / 2 = i by omega]
theorem mwG (hi : i < 4) : (mw κ a r f q T w)[2 + 2 * i]? = some (gO (a (2 + 2 * i)) (r (2 * i)) (r (2 * i + 1)) (a (3 + 2 * i))) := mw_at (by omega) (mwE_G i)
theorem mwA (hi : i < 4) : (mw κ a r f q T w)[3 + 2 * i]? = some (lA κ (a (3 + 2 * i)) (r (2 * i) * 5) (f i)) := mw_at (by omega) (mwE_A i)
theorem mw0 : (mw κ a r f q T w)[0]? = some (a 0, .inr (11, [.ref (a 1), .int (q 0), .int (q 1), .int (q 2), .int (q 3)])) := mw_at (by decide) rfl
theorem mw1 : (mw κ a r f q T w)[1]? = some (a 1, .inl (κ.2.1 2, 4, .inr (.inr (.inr (.inr T))))) := mw_at (by decide) rfl
theorem mwUL (hi : i < 4) (g : Nat → Int64) : wU κ (mw κ a r f q T w) (3 + 2 * i) (a (3 + 2 * i)) (r (2 * i) * 5) g = mw κ a r (va_up f i g) q T w := by
  refine mw_set (by omega) (fun j hj => ?_)
  by_cases e1 : j = 3 + 2 * i
  · subst e1; rw [if_pos rfl, mwE_A]; simp [va_up]
  · rw [if_neg e1]
    unfold mwE va_up
    repeat' split
    all_goals first | rfl | omega | (simp; omega)
theorem mwQ0 (x : Int32) : (mw κ a r f q T w).set 0 (a 0, .inr (11, [.ref (a 1), .int x, .int (q 1), .int (q 2), .int (q 3)])) = mw κ a r f (va_up q 0 x) T w := by
  refine mw_set (by decide) (fun j hj => ?_)
  unfold mwE va_up
  repeat' split
  all_goals first | rfl | omega
theorem mwQ1 (x : Int32) : (mw κ a r f q T w).set 0 (a 0, .inr (11, [.ref (a 1), .int (q 0), .int x, .int (q 2), .int (q 3)])) = mw κ a r f (va_up q 1 x) T w := by
  refine mw_set (by decide) (fun j hj => ?_)
  unfold mwE va_up
  repeat' split
  all_goals first | rfl | omega
theorem mwQ2 (x : Int32) : (mw κ a r f q T w).set 0 (a 0, .inr (11, [.ref (a 1), .int (q 0), .int (q 1), .int x, .int (q 3)])) = mw κ a r f (va_up q 2 x) T w := by
  refine mw_set (by decide) (fun j hj => ?_)
  unfold mwE va_up
  repeat' split
  all_goals first | rfl | omega
theorem mwQ3 (x : Int32) : (mw κ a r f q T w).set 0 (a 0, .inr (11, [.ref (a 1), .int (q 0), .int (q 1), .int (q 2), .int x])) = mw κ a r f (va_up q 3 x) T w := by
  refine mw_set (by decide) (fun j hj => ?_)
  unfold mwE va_up
  repeat' split
  all_goals first | rfl | omega
theorem mwST (T1 : Nat → Option Nat) : (mw κ a r f q T w).set 1 (a 1, .inl (κ.2.1 2, 4, .inr (.inr (.inr (.inr T1))))) = mw κ a r f q T1 w := by
  refine mw_set (by decide) (fun j hj => ?_)
  unfold mwE
  repeat' split
  all_goals first | rfl | omega
end MWS
section MWB
variable {s : State} {H : Heap} {locs : List Loc} {A : Nat → Prop} {κ : Kt} {a r : Nat → Nat} {f : Nat → Nat → Int64} {q : Nat → Int32} {w : va_W} {t u g b R C : Nat} {F : Nat → Int64}
theorem Bd_del (n : Nat) (hB : Bd κ A s w H locs) : Bd κ A s (w.eraseIdx n) H locs := by
  refine Bd_pick (fun k => if k < n then k else k + 1) (fun i j h => ?_) (fun k x h => ?_) hB
  · repeat' split at h
    all_goals omega
  · rw [List.getElem?_eraseIdx] at h
    by_cases e : k < n
    · rw [if_pos e] at h ⊢; exact h
    · rw [if_neg e] at h ⊢; exact h
/-- a new grid has come to the table t -/
theorem Bd_repl (ht : t < 4) (hB : Bd κ A s (lA κ b (R * 5) F :: gO g R C b :: mw κ a r f q (va_up (tb a) t (some g)) w) H locs) : Bd κ A s (mw κ (va_up (va_up a (2 + 2 * t) g) (3 + 2 * t) b) (va_up (va_up r (2 * t) R) (2 * t + 1) C) (va_up f t F) q (tb (va_up (va_up a (2 + 2 * t) g) (3 + 2 * t) b)) w) H locs := by
  refine Bd_pick (fun k => if k = 2 + 2 * t then 1 else if k = 3 + 2 * t then 0 else k + 2) (fun i j h => ?_) (fun k x h => ?_) hB
  · repeat' split at h
    all_goals omega
  · by_cases hk : k < 10
    · rw [mw_at hk rfl] at h
      by_cases e1 : k = 2 + 2 * t
      · subst e1
        rw [if_pos rfl]
        rw [mwE_G] at h
        show some (gO g R C b) = some x
        rw [← h]
        simp [va_up]
      · by_cases e2 : k = 3 + 2 * t
        · subst e2
          rw [if_neg (by omega), if_pos rfl]
          rw [mwE_A] at h
          show some (lA κ b (R * 5) F) = some x
          rw [← h]
          simp [va_up]
        · rw [if_neg e1, if_neg e2]
          show (mw κ a r f q (va_up (tb a) t (some g)) w)[k]? = some x
          rw [mw_at hk rfl, ← h]
          have hT : va_up (tb a) t (some g) = tb (va_up (va_up a (2 + 2 * t) g) (3 + 2 * t) b) := by
            funext j
            by_cases ej : j = t
            · subst ej; simp [va_up]
            · simp [va_up, ej]
              rw [if_neg (by omega), if_neg (by omega)]
          rw [hT]
          congr 2
          · simp [va_up, e1, e2]
          · unfold mwE
            have z1 : (1 : Nat) ≠ 2 + 2 * t := by omega
            have z2 : (1 : Nat) ≠ 3 + 2 * t := by omega
            by_cases k0 : k = 0
            · rw [if_pos k0, if_pos k0]; simp [va_up, z1, z2]
            · rw [if_neg k0, if_neg k0]
              by_cases k1 : k = 1
              · rw [if_pos k1, if_pos k1]
              · rw [if_neg k1, if_neg k1]
                by_cases k2 : k % 2 = 0
                · rw [if_pos k2, if_pos k2]
                  have z3 : k + 1 ≠ 2 + 2 * t := by omega
                  have z4 : k + 1 ≠ 3 + 2 * t := by omega
                  have z5 : k - 2 ≠ 2 * t + 1 := by omega
                  have z6 : k - 2 ≠ 2 * t := by omega
                  have z7 : k - 1 ≠ 2 * t + 1 := by omega
                  have z8 : k - 1 ≠ 2 * t := by omega
                  simp [va_up, z3, z4, z5, z6, z7, z8]
                · rw [if_neg k2, if_neg k2]
                  have z5 : k - 3 ≠ 2 * t + 1 := by omega
                  have z6 : k - 3 ≠ 2 * t := by omega
                  have z7 : (k - 3) / 2 ≠ t := by omega
                  simp [va_up, z5, z6, z7]
    · obtain ⟨d, rfl⟩ : ∃ d, k = 10 + d := ⟨k - 10, by omega⟩
      rw [mw_tl] at h
      rw [if_neg (by omega), if_neg (by omega)]
      show (mw κ a r f q (va_up (tb a) t (some g)) w)[10 + d]? = some x
      rw [mw_tl]
      exact h
/-- two tables' grids change places -/
def sw2 (t u : Nat) (k : Nat) : Nat := if k = 2 + 2 * t then 2 + 2 * u else if k = 3 + 2 * t then 3 + 2 * u else if k = 2 + 2 * u then 2 + 2 * t else if k = 3 + 2 * u then 3 + 2 * t else k
def swr (t u : Nat) (k : Nat) : Nat := if k / 2 = t then 2 * u + k % 2 else if k / 2 = u then 2 * t + k % 2 else k
def sw1 (t u : Nat) (k : Nat) : Nat := if k = t then u else if k = u then t else k
theorem Bd_swap (ht : t < 4) (hu : u < 4) (hB : Bd κ A s (mw κ a r f q (va_up (va_up (tb a) t (some (a (2 + 2 * u)))) u (some (a (2 + 2 * t)))) w) H locs) : Bd κ A s (mw κ (fun k => a (sw2 t u k)) (fun k => r (swr t u k)) (fun k => f (sw1 t u k)) q (tb (fun k => a (sw2 t u k))) w) H locs := by
  refine Bd_pick (fun k => sw2 t u k) (fun i j h => ?_) (fun k x h => ?_) hB
  · unfold sw2 at h
    repeat' split at h
    all_goals omega
  · by_cases hk : k < 10
    · have hk2 : sw2 t u k < 10 := by unfold sw2; (repeat' split) <;> omega
      rw [mw_at hk rfl] at h
      rw [mw_at hk2 rfl, ← h]
      congr 2
      by_cases k0 : k = 0
      · subst k0
        have e0 : sw2 t u 0 = 0 := by unfold sw2; (repeat' split) <;> omega
        have e1 : sw2 t u 1 = 1 := by unfold sw2; (repeat' split) <;> omega
        simp [mwE, e0, e1]
      · by_cases k1 : k = 1
        · subst k1
          have e1 : sw2 t u 1 = 1 := by unfold sw2; (repeat' split) <;> omega
          have hT : va_up (va_up (tb a) t (some (a (2 + 2 * u)))) u (some (a (2 + 2 * t))) = tb (fun k => a (sw2 t u k)) := by
            funext j
            unfold va_up sw2
            by_cases j1 : j = u
            · subst j1
              by_cases j2 : j = t
              · subst j2; simp
              · rw [if_pos rfl]
                show some (a (2 + 2 * t)) = some (a _)
                rw [if_neg (by omega), if_neg (by omega), if_pos rfl]
            · rw [if_neg j1]
              by_cases j2 : j = t
              · subst j2; simp
              · rw [if_neg j2]
                show some (a (2 + 2 * j)) = some (a _)
                rw [if_neg (by omega), if_neg (by omega), if_neg (by omega), if_neg (by omega)]
          rw [hT]
          simp only [mwE, e1]
          rfl
        · obtain ⟨j, hj⟩ : ∃ j, k = 2 + 2 * j ∨ k = 3 + 2 * j := ⟨(k - 2) / 2, by omega⟩
          rcases hj with rfl | rfl
          · have e1 : sw2 t u (2 + 2 * j) = 2 + 2 * sw1 t u j := by unfold sw2 sw1; (repeat' split) <;> omega
            have e2 : sw2 t u (3 + 2 * j) = 3 + 2 * sw1 t u j := by unfold sw2 sw1; (repeat' split) <;> omega
            have e3 : swr t u (2 * j) = 2 * sw1 t u j := by unfold swr sw1; (repeat' split) <;> omega
            have e4 : swr t u (2 * j + 1) = 2 * sw1 t u j + 1 := by unfold swr sw1; (repeat' split) <;> omega
            rw [e1, mwE_G, mwE_G, e2, e3, e4]
          · have e2 : sw2 t u (3 + 2 * j) = 3 + 2 * sw1 t u j := by unfold sw2 sw1; (repeat' split) <;> omega
            have e3 : swr t u (2 * j) = 2 * sw1 t u j := by unfold swr sw1; (repeat' split) <;> omega
            rw [e2, mwE_A, mwE_A, e3]
    · obtain ⟨d, rfl⟩ : ∃ d, k = 10 + d := ⟨k - 10, by omega⟩
      have e1 : sw2 t u (10 + d) = 10 + d := by unfold sw2; (repeat' split) <;> omega
      rw [mw_tl] at h
      rw [e1, mw_tl]
      exact h
end MWB
/-- what the tables of the reference keep -/
def mok (r : Nat → Nat) (f : Nat → Nat → Int64) : Prop := ∀ i, i < 4 → (1 ≤ r (2 * i) ∧ r (2 * i) ≤ 4 ∧ 1 ≤ r (2 * i + 1) ∧ r (2 * i + 1) ≤ 4) ∧ ∀ k, k < r (2 * i) * 5 → sm (f i k)
section MOK
variable {r : Nat → Nat} {f : Nat → Nat → Int64} {t u i R C : Nat} {F : Nat → Int64}
theorem mok_shp (h : mok r f) (hi : i < 4) : shp (r (2 * i)) (r (2 * i + 1)) := ⟨(h i hi).1.1, (h i hi).1.2.1, (h i hi).1.2.2.1, by have := (h i hi).1.2.2.2; omega⟩
theorem mok_repl (h : mok r f) (hR : 1 ≤ R ∧ R ≤ 4 ∧ 1 ≤ C ∧ C ≤ 4) (hF : ∀ k, k < R * 5 → sm (F k)) : mok (va_up (va_up r (2 * t) R) (2 * t + 1) C) (va_up f t F) := by
  intro j hj
  by_cases e : j = t
  · subst e
    have e1 : va_up (va_up r (2 * j) R) (2 * j + 1) C (2 * j) = R := by unfold va_up; rw [if_neg (by omega), if_pos rfl]
    have e2 : va_up (va_up r (2 * j) R) (2 * j + 1) C (2 * j + 1) = C := by unfold va_up; rw [if_pos rfl]
    have e3 : va_up f j F j = F := by unfold va_up; rw [if_pos rfl]
    rw [e1, e2, e3]
    exact ⟨hR, hF⟩
  · have e1 : va_up (va_up r (2 * t) R) (2 * t + 1) C (2 * j) = r (2 * j) := by unfold va_up; rw [if_neg (by omega), if_neg (by omega)]
    have e2 : va_up (va_up r (2 * t) R) (2 * t + 1) C (2 * j + 1) = r (2 * j + 1) := by unfold va_up; rw [if_neg (by omega), if_neg (by omega)]
    have e3 : va_up f t F j = f j := by unfold va_up; rw [if_neg e]
    rw [e1, e2, e3]
    exact h j hj
theorem mok_f (h : mok r f) (hF : ∀ k, k < r (2 * t) * 5 → sm (F k)) : mok r (va_up f t F) := by
  intro j hj
  by_cases e : j = t
  · subst e
    have e3 : va_up f j F j = F := by unfold va_up; rw [if_pos rfl]
    rw [e3]
    exact ⟨(h j hj).1, hF⟩
  · have e3 : va_up f t F j = f j := by unfold va_up; rw [if_neg e]
    rw [e3]
    exact h j hj
theorem mok_swap (h : mok r f) (ht : t < 4) (hu : u < 4) : mok (fun k => r (swr t u k)) (fun k => f (sw1 t u k)) := by
  intro j hj
  have e3 : swr t u (2 * j) = 2 * sw1 t u j := by unfold swr sw1; (repeat' split) <;> omega
  have e4 : swr t u (2 * j + 1) = 2 * sw1 t u j + 1 := by unfold swr sw1; (repeat' split) <;> omega
  have e5 : sw1 t u j < 4 := by unfold sw1; (repeat' split) <;> omega
  show (1 ≤ r (swr t u (2 * j)) ∧ r (swr t u (2 * j)) ≤ 4 ∧ 1 ≤ r (swr t u (2 * j + 1)) ∧ r (swr t u (2 * j + 1)) ≤ 4) ∧ ∀ k, k < r (swr t u (2 * j)) * 5 → sm (f (sw1 t u j) k)
  rw [e3, e4]
  exact h _ e5
end MOK
theorem sm_ng {x : Int64} (h : sm x) : ng x := by
  have h1 := Int64.le_iff_toInt_le.mp h.1
  have h2 := Int64.le_iff_toInt_le.mp h.2
  refine ⟨Int64.le_iff_toInt_le.mpr ?_, Int64.le_iff_toInt_le.mpr ?_⟩
  · exact Int.le_trans (by decide) h1
  · exact Int.le_trans h2 (by decide)
theorem vp_in_mk {x : Int32} {n : Nat} (h0 : 0 ≤ x) (h1 : x.toNatClampNeg < n) : vp_in x n := fun h => h.elim (fun z => absurd z (Int32.not_lt.mpr h0)) (fun z => absurd h1 (by omega))
