section PWD
variable {r q r1 q1 : Nat → Int32} {f f1 : Nat → Nat → Int64} {r' r1' : Nat → Nat} {f' f1' : Nat → Nat → Int64} {q' : Nat → Int32} {R C i n R2 C2 a b c : Nat} {g G : Nat → Int64} {x x' y z : Int32}
/-- the number that stands there once a row and a column are left out -/
def sq (R C : Nat) (g : Nat → Int64) (y z : Int32) : Nat → Int64 := fun k => if (if y ≤ nI (k / 5) then k / 5 + 1 else k / 5) < R ∧ (if z ≤ nI (k % 5) then k % 5 + 1 else k % 5) < C then g ((if y ≤ nI (k / 5) then k / 5 + 1 else k / 5) * 5 + (if z ≤ nI (k % 5) then k % 5 + 1 else k % 5)) else 0
theorem tv_e {g h : Nat → Int64} (hb : b < 5) (e : g (a * 5 + b) = h (a * 5 + b)) : tv a b c g h = tv a (b + 1) c g h := by
  funext k
  unfold tv
  by_cases e1 : k = a * 5 + b
  · subst e1
    split
    · split
      · rfl
      · exact e
    · split
      · exact e.symm
      · rfl
  · by_cases c1 : (k / 5 < a ∧ k % 5 < c) ∨ (k / 5 = a ∧ k % 5 < b)
    · rw [if_pos c1, if_pos (by omega)]
    · rw [if_neg c1, if_neg (by omega)]
theorem tv00 {g h : Nat → Int64} : tv 0 0 c g h = h := by funext k; unfold tv; rw [if_neg (by omega)]
theorem tv_p {g h : Nat → Int64} {k : Nat} (e : k / 5 < a ∧ k % 5 < c) : tv a 0 c g h k = g k := if_pos (Or.inl e)
theorem tv_n {g h : Nat → Int64} {k : Nat} (e : ¬ (k / 5 < a ∧ k % 5 < c)) : tv a 0 c g h k = h k := if_neg (by omega)
theorem sq_at (hb : b < 5) : sq R C g y z (a * 5 + b) = if (if y ≤ nI a then a + 1 else a) < R ∧ (if z ≤ nI b then b + 1 else b) < C then g ((if y ≤ nI a then a + 1 else a) * 5 + (if z ≤ nI b then b + 1 else b)) else 0 := by
  unfold sq
  rw [show (a * 5 + b) / 5 = a by omega, show (a * 5 + b) % 5 = b by omega]
theorem rsh_in {lb : Nat → (Nat → Int64) → Nat → Int64} (hc : c ≤ 5) : ∀ m b : Nat, b ≤ c → c - b < m → D_X10_shaped_23 R C g c y z lb a m b (tv a b c (sq R C g y z) (fun _ => 0)) = lb (a + 1) (tv (a + 1) 0 c (sq R C g y z) (fun _ => 0)) := by
  intro m
  induction m with
  | zero => intro y _ h; omega
  | succ m ih =>
    intro b hb hm
    rw [D_X10_shaped_23_s]
    by_cases e : c ≤ b
    · rw [if_pos e, show b = c by omega, tv_r]
    · rw [if_neg e]
      have hq := sq_at (R := R) (C := C) (g := g) (y := y) (z := z) (a := a) (show b < 5 by omega)
      by_cases y1 : y ≤ nI a
      · rw [if_pos y1] at hq
        rw [if_pos y1]
        by_cases z1 : z ≤ nI b
        · rw [if_pos z1] at hq
          rw [if_pos z1]
          by_cases e1 : R ≤ a + 1
          · rw [if_pos e1, tv_e (by omega) (hq.trans (if_neg (by omega)))]
            exact ih (b + 1) (by omega) (by omega)
          · rw [if_neg e1]
            by_cases e2 : C ≤ b + 1
            · rw [if_pos e2, tv_e (by omega) (hq.trans (if_neg (by omega)))]
              exact ih (b + 1) (by omega) (by omega)
            · rw [if_neg e2, ← hq.trans (if_pos ⟨by omega, by omega⟩), tv_s (by omega) hc]
              exact ih (b + 1) (by omega) (by omega)
        · rw [if_neg z1] at hq
          rw [if_neg z1]
          by_cases e1 : R ≤ a + 1
          · rw [if_pos e1, tv_e (by omega) (hq.trans (if_neg (by omega)))]
            exact ih (b + 1) (by omega) (by omega)
          · rw [if_neg e1]
            by_cases e2 : C ≤ b
            · rw [if_pos e2, tv_e (by omega) (hq.trans (if_neg (by omega)))]
              exact ih (b + 1) (by omega) (by omega)
            · rw [if_neg e2, ← hq.trans (if_pos ⟨by omega, by omega⟩), tv_s (by omega) hc]
              exact ih (b + 1) (by omega) (by omega)
      · rw [if_neg y1] at hq
        rw [if_neg y1]
        by_cases z1 : z ≤ nI b
        · rw [if_pos z1] at hq
          rw [if_pos z1]
          by_cases e1 : R ≤ a
          · rw [if_pos e1, tv_e (by omega) (hq.trans (if_neg (by omega)))]
            exact ih (b + 1) (by omega) (by omega)
          · rw [if_neg e1]
            by_cases e2 : C ≤ b + 1
            · rw [if_pos e2, tv_e (by omega) (hq.trans (if_neg (by omega)))]
              exact ih (b + 1) (by omega) (by omega)
            · rw [if_neg e2, ← hq.trans (if_pos ⟨by omega, by omega⟩), tv_s (by omega) hc]
              exact ih (b + 1) (by omega) (by omega)
        · rw [if_neg z1] at hq
          rw [if_neg z1]
          by_cases e1 : R ≤ a
          · rw [if_pos e1, tv_e (by omega) (hq.trans (if_neg (by omega)))]
            exact ih (b + 1) (by omega) (by omega)
          · rw [if_neg e1]
            by_cases e2 : C ≤ b
            · rw [if_pos e2, tv_e (by omega) (hq.trans (if_neg (by omega)))]
              exact ih (b + 1) (by omega) (by omega)
            · rw [if_neg e2, ← hq.trans (if_pos ⟨by omega, by omega⟩), tv_s (by omega) hc]
              exact ih (b + 1) (by omega) (by omega)
theorem rsh_l (hc : c ≤ 5) : ∀ m a : Nat, a ≤ n → n - a < m → D_X10_shaped_14 R C g n c y z m a (tv a 0 c (sq R C g y z) (fun _ => 0)) = tv n 0 c (sq R C g y z) (fun _ => 0) := by
  intro m
  induction m with
  | zero => intro y _ h; omega
  | succ m ih =>
    intro a ha hm
    rw [D_X10_shaped_14_s]
    by_cases e : n ≤ a
    · rw [if_pos e, show a = n by omega]
    · rw [if_neg e, rsh_in hc (c + 1 - 0 + 1) 0 (by omega) (by omega)]
      exact ih (a + 1) (by omega) (by omega)
theorem rsh (hc : c ≤ 5) : D_X10_shaped R C g n c y z = tv n 0 c (sq R C g y z) (fun _ => 0) := by
  have e := rsh_l (R := R) (C := C) (g := g) (n := n) (y := y) (z := z) hc (n + 1 - 0 + 1) 0 (by omega) (by omega)
  rw [tv00] at e
  exact e
theorem sq_sm (hC : C ≤ 5) (h : ∀ k, k < R * 5 → sm (g k)) (k : Nat) : sm (sq R C g y z k) := by
  unfold sq
  generalize (if y ≤ nI (k / 5) then k / 5 + 1 else k / 5) = A
  generalize (if z ≤ nI (k % 5) then k % 5 + 1 else k % 5) = B
  by_cases c : A < R ∧ B < C
  · rw [if_pos c]; exact h _ (by omega)
  · rw [if_neg c]; exact sm0
theorem tk_ok (h : Rl r q f r' f' q') (hn : n < 4) (hb2 : 1 ≤ R2 ∧ R2 ≤ 4 ∧ 1 ≤ C2 ∧ C2 ≤ 4) (hG : ∀ k, k < 20 → (if k / 5 < min R2 (r' (2 * n)) ∧ k % 5 < min C2 (r' (2 * n + 1)) then g k else 0) = (if k < R2 * 5 then G k else 0)) (hs : ∀ k, k < R2 * 5 → sm (G k)) (hz : zc C2 (R2 * 5) G) (hx : x = x') : Ok (bnd3 (D_X3_reshape (rs r 4 (r' (2 * n)) (r' (2 * n + 1))) q (va_up f 4 (cp 20 g (f 4))) n (nI R2) (nI C2)) (fun r18 q20 f22 => bnd1 (D_X3_takeOver r18 q20 f22 n 4) (fun f24 => bnd3 (D_X5_tellDone r18 q20 f24 x) (fun x26 q27 f29 => ("", x26, r18, q27, f29))))) (x', pr r' n R2 C2, va_up f' n G, va_up (va_up q' 3 0) 0 ((va_up q' 3 0) 0 + 1)) := by
  have hT := h.1 n hn
  have hb := hT.2.1
  rw [crs hb2.1 hb2.2.1 hb2.2.2.1 (by omega)]
  dsimp only [bnd3, bnd1]
  rw [cto (i := n) (j := 4) (R := R2) (C := C2) (Rj := r' (2 * n)) (Cj := r' (2 * n + 1)) (by omega) rs_R ((rs_R' (by omega)).trans rs_R) rs_C ((rs_C' (by omega)).trans rs_C) hb2.2.1 hb.2.1 (by omega) (by omega)]
  unfold D_X5_tellDone
  dsimp only
  refine ok_do (Rl_set (n := n) (Rl_keep h (r1 := rs r 4 (r' (2 * n)) (r' (2 * n + 1))) (f1 := va_up f 4 (cp 20 g (f 4))) (fun i hi => ro (by omega)) ⟨rfl, rfl, rfl⟩) (fun i _ e => ⟨⟨rs_R' e, rs_C' e⟩, (vu_ne e).trans (vu_ne e)⟩) ⟨⟨rs_R, rs_C, fun k hk => ?_⟩, hb2, hs, hz⟩ ⟨rfl, rfl, rfl⟩) hx
  show va_up (va_up _ n _) n (tv _ _ _ _ _) n k = if k < R2 * 5 then G k else 0
  rw [vu_self, ← hG k hk, vu_self, vu_ne (show 4 ≠ n by omega), vu_self]
  by_cases e : k / 5 < min R2 (r' (2 * n)) ∧ k % 5 < min C2 (r' (2 * n + 1))
  · rw [tv_p e, if_pos e, cpl hk]
  · rw [tv_n e, if_neg e]
    exact if_pos hk
theorem sq99 {k : Nat} (hk : k < 20) : sq R C g 9 9 k = if k / 5 < R ∧ k % 5 < C then g k else 0 := by
  have e1 : ¬ (9 : Int32) ≤ nI (k / 5) := nile (a := 9) (by omega) (by omega)
  have e2 : ¬ (9 : Int32) ≤ nI (k % 5) := nile (a := 9) (by omega) (by omega)
  unfold sq
  rw [if_neg e1, if_neg e2, show k / 5 * 5 + k % 5 = k by omega]
theorem hGw (h1 : R ≤ R2) (h2 : C ≤ C2) {k : Nat} (hk : k < 20) : (if k / 5 < min R2 R ∧ k % 5 < min C2 C then cp (R * 5) g (fun _ => 0) k else 0) = (if k < R2 * 5 then tv R2 0 C2 (sq R C g 9 9) (fun _ => 0) k else 0) := by
  by_cases c : k / 5 < R ∧ k % 5 < C
  · rw [if_pos (by omega), if_pos (show k < R2 * 5 by omega), tv_p (by omega), sq99 hk, if_pos c]
    exact if_pos (by omega)
  · rw [if_neg (by omega)]
    split
    · by_cases c2 : k / 5 < R2 ∧ k % 5 < C2
      · rw [tv_p c2, sq99 hk, if_neg c]
      · rw [tv_n c2]
    · rfl
theorem tvG_s (hC : C ≤ 5) (h : ∀ k, k < R * 5 → sm (g k)) : ∀ k, k < R2 * 5 → sm (tv R2 0 C2 (sq R C g y z) (fun _ => 0) k) := by
  intro k _
  unfold tv
  split
  · exact sq_sm hC h k
  · exact sm0
theorem tvG_z : zc C2 (R2 * 5) (tv R2 0 C2 (sq R C g y z) (fun _ => 0)) := fun k hk e => tv_n (by omega)
theorem widen_eq (h : Rl r q f r' f' q') {y p : Int32} : Ok (D_X5_widen r q f y p) (D_X10_widen r' f' q' y p) := by
  unfold D_X5_widen D_X10_widen
  rcases ntb (r := r) (q := q) (f := f) (p := y) with ⟨n, hn, rfl, h1, h2, h3⟩ | ⟨E, x1, x2, h1, h2⟩
  · rw [h1, h2]
    dsimp only [bnd2, bnd1]
    have hT := h.1 n hn
    have hb := hT.2.1
    rw [if_pos rfl, if_neg one0, th1_0, h3]
    unfold D_X3_countLines
    by_cases hp : p = 0
    · rw [if_pos hp, if_pos hp, hT.1.1, rsh (show r' (2 * n + 1) ≤ 5 by omega)]
      by_cases e : r' (2 * n) + 1 ≤ 4
      · rw [if_pos (show nI (r' (2 * n)) < 4 from nI_lt (b := 4) (by omega) (by omega)), if_pos e, draft h hn]
        dsimp only [bnd3]
        rw [if_pos hp]
        unfold D_X5_widen_j48
        rw [if_pos hp, show rs r 4 (r' (2 * n)) (r' (2 * n + 1)) (2 * n + 1) = nI (r' (2 * n + 1)) from (rs_C' (by omega)).trans hT.1.2.1, s1]
        unfold D_X5_widen_j63
        rw [s1]
        exact tk_ok h hn ⟨by omega, e, hb.2.2.1, hb.2.2.2⟩ (fun k hk => hGw (by omega) (by omega) hk) (tvG_s (by omega) hT.2.2.1) tvG_z rfl
      · rw [if_neg (show ¬ nI (r' (2 * n)) < 4 from nI_nlt (a := r' (2 * n)) (b := 4) (by omega) (by omega)), if_neg e]
        unfold D_X5_tellRefused
        dsimp only [bnd3]
        exact ok_no h
    · rw [if_neg hp, if_neg hp, hT.1.2.1, rsh (show r' (2 * n + 1) + 1 ≤ 5 by omega)]
      by_cases e : r' (2 * n + 1) + 1 ≤ 4
      · rw [if_pos (show nI (r' (2 * n + 1)) < 4 from nI_lt (b := 4) (by omega) (by omega)), if_pos e, draft h hn]
        dsimp only [bnd3]
        rw [if_neg hp]
        unfold D_X5_widen_j48
        rw [if_neg hp, show rs r 4 (r' (2 * n)) (r' (2 * n + 1)) (2 * n) = nI (r' (2 * n)) from (rs_R' (by omega)).trans hT.1.1, s1]
        unfold D_X5_widen_j63
        rw [s1]
        exact tk_ok h hn ⟨hb.1, hb.2.1, by omega, e⟩ (fun k hk => hGw (by omega) (by omega) hk) (tvG_s (by omega) hT.2.2.1) tvG_z rfl
      · rw [if_neg (show ¬ nI (r' (2 * n + 1)) < 4 from nI_nlt (a := r' (2 * n + 1)) (b := 4) (by omega) (by omega)), if_neg e]
        unfold D_X5_tellRefused
        dsimp only [bnd3]
        exact ok_no h
  · rw [h1, h2]
    dsimp only [bnd2, bnd1]
    rw [if_neg x1, if_pos rfl, th1_1, x2]
    exact ok_e1 h
/-- row a has gone down to row y -/
def rr (C a y : Nat) (g : Nat → Int64) : Nat → Int64 := fun k => if k % 5 < C ∧ a ≤ k / 5 ∧ k / 5 < y then g (k + 5) else if k % 5 < C ∧ k / 5 = y then g (a * 5 + k % 5) else g k
/-- column a has gone right to column y -/
def rc (R a y : Nat) (g : Nat → Int64) : Nat → Int64 := fun k => if k / 5 < R ∧ a ≤ k % 5 ∧ k % 5 < y then g (k + 1) else if k / 5 < R ∧ k % 5 = y then g (k / 5 * 5 + a) else g k
theorem rr0 : rr C a a g = g := by
  funext k
  unfold rr
  rw [if_neg (by omega)]
  split
  · congr 1; omega
  · rfl
theorem rc0 : rc R a a g = g := by
  funext k
  unfold rc
  rw [if_neg (by omega)]
  split
  · congr 1; omega
  · rfl
theorem rr_s {y : Nat} (hy : a ≤ y) (hC : C ≤ 5) : xr C y (y + 1) (rr C a y g) = rr C a (y + 1) g := by
  funext k
  unfold xr
  by_cases c0 : k % 5 < C
  · by_cases c1 : k / 5 = y
    · rw [if_pos ⟨c0, c1⟩]
      unfold rr
      rw [show ((y + 1) * 5 + k % 5) % 5 = k % 5 by omega, show ((y + 1) * 5 + k % 5) / 5 = y + 1 by omega, if_neg (by omega), if_neg (by omega), if_pos (by omega)]
      congr 1; omega
    · rw [if_neg (by omega)]
      by_cases c2 : k / 5 = y + 1
      · rw [if_pos ⟨c0, c2⟩]
        unfold rr
        rw [show (y * 5 + k % 5) % 5 = k % 5 by omega, show (y * 5 + k % 5) / 5 = y by omega, if_neg (by omega), if_pos (by omega), if_neg (by omega), if_pos (by omega)]
      · rw [if_neg (by omega)]
        unfold rr
        by_cases c3 : a ≤ k / 5 ∧ k / 5 < y
        · rw [if_pos (by omega), if_pos (by omega)]
        · rw [if_neg (by omega), if_neg (by omega), if_neg (by omega), if_neg (by omega)]
  · rw [if_neg (by omega), if_neg (by omega)]
    unfold rr
    rw [if_neg (by omega), if_neg (by omega), if_neg (by omega), if_neg (by omega)]
theorem rc_s {y : Nat} (hy : a ≤ y) (hy5 : y + 1 < 5) : xc R y (y + 1) (rc R a y g) = rc R a (y + 1) g := by
  funext k
  unfold xc
  by_cases c0 : k / 5 < R
  · by_cases c1 : k % 5 = y
    · rw [if_pos ⟨c0, c1⟩]
      unfold rc
      rw [show (k / 5 * 5 + (y + 1)) % 5 = y + 1 by omega, show (k / 5 * 5 + (y + 1)) / 5 = k / 5 by omega, if_neg (by omega), if_neg (by omega), if_pos (by omega)]
      congr 1; omega
    · rw [if_neg (by omega)]
      by_cases c2 : k % 5 = y + 1
      · rw [if_pos ⟨c0, c2⟩]
        unfold rc
        rw [show (k / 5 * 5 + y) % 5 = y by omega, show (k / 5 * 5 + y) / 5 = k / 5 by omega, if_neg (by omega), if_pos (by omega), if_neg (by omega), if_pos (by omega)]
      · rw [if_neg (by omega)]
        unfold rc
        by_cases c3 : a ≤ k % 5 ∧ k % 5 < y
        · rw [if_pos (by omega), if_pos (by omega)]
        · rw [if_neg (by omega), if_neg (by omega), if_neg (by omega), if_neg (by omega)]
  · rw [if_neg (by omega), if_neg (by omega)]
    unfold rc
    rw [if_neg (by omega), if_neg (by omega), if_neg (by omega), if_neg (by omega)]
theorem sub1 {R : Nat} (h : 1 ≤ R) : nI R - 1 = nI (R - 1) := nI_sub (b := 1) h
theorem drop_r (hn : n < 4) (hR : 1 ≤ R) (hR4 : R ≤ 4) (hC : C ≤ 4) (hrC : r (2 * n + 1) = nI C) : ∀ m y : Nat, a ≤ y → y ≤ R - 1 → R - 1 - y < m → D_X5_drop_48 0 n (nI R) (rs r 4 R C) q m (nI y) (va_up f 4 (cp 20 (rr C a y g) (f 4))) = D_X5_drop_j111 n (nI R) (rs r 4 R C) q (va_up f 4 (cp 20 (rr C a (R - 1) g) (f 4))) (nI (R - 1)) (nI C) := by
  intro m
  induction m with
  | zero => intro y _ _ h; omega
  | succ m ih =>
    intro y ha hy hm
    rw [D_X5_drop_48_s, sub1 hR]
    by_cases e : R - 1 ≤ y
    · rw [if_pos (ile e (by omega)), if_pos rfl, show y = R - 1 by omega]
      unfold D_X5_drop_j95
      rw [if_pos rfl, (rs_C' (by omega)).trans hrC]
    · rw [if_neg (nile e (by omega)), s1]
      dsimp only [bnd1]
      rw [cexR (C := C) rs_C (by omega) (by omega) (by omega), vu_self, vu2, cp_xr (by omega) (by omega), rr_s ha (by omega)]
      exact ih (y + 1) (by omega) (by omega) (by omega)
theorem drop_c {p : Int32} (hp : ¬ p = 0) (hn : n < 4) (hC1 : 1 ≤ C) (hR4 : R ≤ 4) (hC : C ≤ 4) (hrR : r (2 * n) = nI R) : ∀ m y : Nat, a ≤ y → y ≤ C - 1 → C - 1 - y < m → D_X5_drop_48 p n (nI C) (rs r 4 R C) q m (nI y) (va_up f 4 (cp 20 (rc R a y g) (f 4))) = D_X5_drop_j111 n (nI C) (rs r 4 R C) q (va_up f 4 (cp 20 (rc R a (C - 1) g) (f 4))) (nI R) (nI (C - 1)) := by
  intro m
  induction m with
  | zero => intro y _ _ h; omega
  | succ m ih =>
    intro y ha hy hm
    rw [D_X5_drop_48_s, sub1 hC1]
    by_cases e : C - 1 ≤ y
    · rw [if_pos (ile e (by omega)), if_neg hp, show y = C - 1 by omega]
      unfold D_X5_drop_j95
      rw [if_neg hp, (rs_R' (by omega)).trans hrR, sub1 hC1]
    · rw [if_neg (nile e (by omega)), s1]
      dsimp only [bnd1]
      rw [cexC (R := R) hp rs_R hR4 (by omega) (by omega), vu_self, vu2, cp_xc (by omega) (by omega) hR4, rc_s ha (by omega)]
      exact ih (y + 1) (by omega) (by omega) (by omega)
theorem hGr (ha : a < R) (hR4 : R ≤ 4) (h2 : 1 < R) {k : Nat} (hk : k < 20) : (if k / 5 < min (R - 1) R ∧ k % 5 < min C C then rr C a (R - 1) (cp (R * 5) g (fun _ => 0)) k else 0) = (if k < (R - 1) * 5 then tv (R - 1) 0 C (sq R C g (nI a) 9) (fun _ => 0) k else 0) := by
  by_cases c : k / 5 < R - 1 ∧ k % 5 < C
  · rw [if_pos (by omega), if_pos (show k < (R - 1) * 5 by omega), tv_p c]
    have e2 : ¬ (9 : Int32) ≤ nI (k % 5) := nile (a := 9) (by omega) (by omega)
    unfold sq rr cp
    by_cases c1 : a ≤ k / 5
    · rw [if_pos (by omega), if_pos (by omega), if_pos (ile c1 (by omega)), if_neg e2, if_pos (by omega)]
      congr 1; omega
    · rw [if_neg (by omega), if_neg (by omega), if_pos (by omega), if_neg (nile c1 (by omega)), if_neg e2, if_pos (by omega)]
      congr 1; omega
  · rw [if_neg (by omega), tv_n c, ite_self]
theorem hGc (ha : a < C) (hC4 : C ≤ 4) (h2 : 1 < C) {k : Nat} (hk : k < 20) : (if k / 5 < min R R ∧ k % 5 < min (C - 1) C then rc R a (C - 1) (cp (R * 5) g (fun _ => 0)) k else 0) = (if k < R * 5 then tv R 0 (C - 1) (sq R C g 9 (nI a)) (fun _ => 0) k else 0) := by
  by_cases c : k / 5 < R ∧ k % 5 < C - 1
  · rw [if_pos (by omega), if_pos (show k < R * 5 by omega), tv_p c]
    have e2 : ¬ (9 : Int32) ≤ nI (k / 5) := nile (a := 9) (by omega) (by omega)
    unfold sq rc cp
    by_cases c1 : a ≤ k % 5
    · rw [if_pos (by omega), if_pos (by omega), if_neg e2, if_pos (ile c1 (by omega)), if_pos (by omega)]
      congr 1; omega
    · rw [if_neg (by omega), if_neg (by omega), if_pos (by omega), if_neg e2, if_neg (nile c1 (by omega)), if_pos (by omega)]
      congr 1; omega
  · rw [if_neg (by omega), tv_n c, ite_self]
theorem drop_eq (h : Rl r q f r' f' q') {y p z : Int32} : Ok (D_X5_drop r q f y p z) (D_X10_drop r' f' q' y p z) := by
  unfold D_X5_drop D_X10_drop
  rcases ntb (r := r) (q := q) (f := f) (p := y) with ⟨n, hn, rfl, h1, h2, h3⟩ | ⟨E, x1, x2, h1, h2⟩
  · rw [h1]
    dsimp only [bnd2, bnd1]
    have hT := h.1 n hn
    have hb := hT.2.1
    rw [if_pos rfl, th1_1, th1_0, h3]
    rcases hlin h hn (c := p) (k := z) with ⟨a, rfl, a1, a2, a3, a4, a5⟩ | ⟨a3, a4⟩
    · rw [a3, a4, if_neg one0, nx1, if_pos rfl]
      unfold D_X3_countLines
      by_cases hp : p = 0
      · subst hp
        rw [if_pos rfl] at a1
        rw [if_pos rfl, if_pos rfl, hT.1.1, rsh (show r' (2 * n + 1) ≤ 5 by omega)]
        by_cases e : r' (2 * n) - 1 = 0
        · rw [if_neg (show ¬ (1 : Int32) < nI (r' (2 * n)) from nI_nlt (b := r' (2 * n)) (a := 1) (by omega) (by omega)), if_pos e]
          unfold D_X5_tellRefused
          dsimp only [bnd3]
          exact ok_no h
        · rw [if_pos (show (1 : Int32) < nI (r' (2 * n)) from nI_lt (a := 1) (by omega) (by omega)), if_neg e, draft h hn]
          dsimp only [bnd3]
          rw [sub1 hb.1, gapN (by omega) (by omega)]
          have hl := drop_r (q := q) (f := f) (a := a) (g := gb r' f' n) hn hb.1 hb.2.1 hb.2.2.2 hT.1.2.1 (r' (2 * n) - 1 - a + 1) a (by omega) (by omega) (by omega)
          rw [rr0] at hl
          rw [hl]
          unfold D_X5_drop_j111
          rw [sub1 hb.1]
          exact tk_ok h hn ⟨by omega, by omega, hb.2.2.1, hb.2.2.2⟩ (fun k hk => hGr a1 hb.2.1 (by omega) hk) (tvG_s (by omega) hT.2.2.1) tvG_z rfl
      · rw [if_neg hp] at a1
        rw [if_neg hp, if_neg hp, hT.1.2.1, rsh (show r' (2 * n + 1) - 1 ≤ 5 by omega)]
        by_cases e : r' (2 * n + 1) - 1 = 0
        · rw [if_neg (show ¬ (1 : Int32) < nI (r' (2 * n + 1)) from nI_nlt (b := r' (2 * n + 1)) (a := 1) (by omega) (by omega)), if_pos e]
          unfold D_X5_tellRefused
          dsimp only [bnd3]
          exact ok_no h
        · rw [if_pos (show (1 : Int32) < nI (r' (2 * n + 1)) from nI_lt (a := 1) (by omega) (by omega)), if_neg e, draft h hn]
          dsimp only [bnd3]
          rw [sub1 hb.2.2.1, gapN (by omega) (by omega)]
          have hl := drop_c (q := q) (f := f) (a := a) (g := gb r' f' n) hp hn hb.2.2.1 hb.2.1 hb.2.2.2 hT.1.1 (r' (2 * n + 1) - 1 - a + 1) a (by omega) (by omega) (by omega)
          rw [rc0] at hl
          rw [hl]
          unfold D_X5_drop_j111
          rw [sub1 hb.2.2.1]
          exact tk_ok h hn ⟨hb.1, hb.2.1, by omega, by omega⟩ (fun k hk => hGc a1 hb.2.2.2 (by omega) hk) (tvG_s (by omega) hT.2.2.1) tvG_z rfl
    · rw [a3, a4, if_pos rfl, nx0, if_neg e_ne]
      exact ok_e1 h
  · rw [h1]
    dsimp only [bnd2, bnd1]
    rw [if_neg x1, (isT_0 h2).2.2, if_pos rfl, th1_1, x2]
    exact ok_e1 h
end PWD
