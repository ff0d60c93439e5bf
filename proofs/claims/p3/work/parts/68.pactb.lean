section PST
variable {r q r1 q1 : Nat → Int32} {f f1 : Nat → Nat → Int64} {r' r1' : Nat → Nat} {f' f1' : Nat → Nat → Int64} {q' : Nat → Int32} {R C i n : Nat} {g : Nat → Int64} {x x' : Int32}
theorem wt_sm {x : Int64} (h : -9223372036854775807 ≤ x.toInt) : wt 20 x ↔ sm x := by
  have hn : (-x).toInt = -x.toInt := by
    have := Int64.toInt_lt x
    rw [Int64.toInt_neg]
    exact Int.bmod_eq_of_le (by omega) (by omega)
  unfold wt ab sm
  by_cases c : 0 < x
  · rw [if_pos c]
    have c := Int64.lt_iff_toInt_lt.mp c
    rw [show (0 : Int64).toInt = 0 from rfl] at c
    simp only [Int64.le_iff_toInt_le]
    rw [show (20 : Int64).toInt = 20 from rfl, show (-20 : Int64).toInt = -20 from rfl]
    omega
  · rw [if_neg c]
    have c : ¬ (0 : Int64).toInt < x.toInt := fun z => c (Int64.lt_iff_toInt_lt.mpr z)
    rw [show (0 : Int64).toInt = 0 from rfl] at c
    simp only [Int64.le_iff_toInt_le]
    rw [show (20 : Int64).toInt = 20 from rfl, show (-20 : Int64).toInt = -20 from rfl, hn]
    omega
theorem sm_lo {x : Int64} (h : sm x) : -9223372036854775807 ≤ x.toInt := by
  have := ng_int (sm_ng h)
  omega
theorem sm_int {x : Int64} (h : sm x) : -20 ≤ x.toInt ∧ x.toInt ≤ 20 := ⟨Int64.le_iff_toInt_le.mp h.1, Int64.le_iff_toInt_le.mp h.2⟩
theorem wts_all {R C : Nat} {w : Nat → Int64} (hC : C ≤ 5) (hb : ∀ k, k < R * 5 → -9223372036854775807 ≤ (w k).toInt) (hz : ∀ k, k < R * 5 → C ≤ k % 5 → sm (w k)) : (∀ a b, a < R → b < C → wt 20 (w (a * 5 + b))) ↔ ∀ k, k < R * 5 → sm (w k) := by
  constructor
  · intro h k hk
    by_cases e : C ≤ k % 5
    · exact hz k hk e
    · have h1 := h (k / 5) (k % 5) (by omega) (by omega)
      rw [show k / 5 * 5 + k % 5 = k by omega] at h1
      exact (wt_sm (hb k hk)).mp h1
  · intro h a b ha hbb
    exact (wt_sm (hb _ (by omega))).mpr (h _ (by omega))
/-- the draft is looked at -/
theorem ciw_sm (h1 : r (2 * i) = nI R) (h2 : r (2 * i + 1) = nI C) (hR : R ≤ 4) (hC : C ≤ 5) (hb : ∀ k, k < R * 5 → -9223372036854775807 ≤ (f i k).toInt) (hz : zc C (R * 5) (f i)) : ((∀ k, k < R * 5 → sm (f i k)) ∧ D_X3_isWithin r q f i 20 = 1) ∨ (¬ (∀ k, k < R * 5 → sm (f i k)) ∧ D_X3_isWithin r q f i 20 = 0) := by
  have hA := wts_all (w := f i) hC hb (fun k hk e => by rw [hz k hk e]; exact sm0)
  rcases ciw (r := r) (q := q) (f := f) (i := i) (p := 20) h1 h2 hR hC with ⟨a1, a2⟩ | ⟨⟨a, b, a1, a2, a3⟩, a4⟩
  · exact Or.inl ⟨hA.mp (fun a b ha hb => a1 a b ha hb), a2⟩
  · exact Or.inr ⟨fun e => a3 (hA.mpr e a b a1 a2), a4⟩
/-- the table as the draft begins with -/
abbrev gb (r' : Nat → Nat) (f' : Nat → Nat → Int64) (n : Nat) : Nat → Int64 := cp (r' (2 * n) * 5) (f' n) (fun _ => 0)
theorem draft (h : Rl r q f r' f' q') (hn : n < 4) : D_X3_becomeLike r q f 4 n = (rs r 4 (r' (2 * n)) (r' (2 * n + 1)), q, va_up f 4 (cp 20 (gb r' f' n) (f 4))) := by
  rw [cbl (h.1 n hn).1.1 (h.1 n hn).1.2.1]
  congr 3
  funext k
  unfold cp
  by_cases e : k < 20
  · rw [if_pos e, if_pos e]; exact (h.1 n hn).1.2.2 k e
  · rw [if_neg e, if_neg e]
theorem gb_z (h : Rl r q f r' f' q') (hn : n < 4) : zo (r' (2 * n)) (r' (2 * n + 1)) (gb r' f' n) := cp_zo (h.1 n hn).2.2.2
theorem gb_s (h : Rl r q f r' f' q') (hn : n < 4) : ∀ k, k < r' (2 * n) * 5 → sm (gb r' f' n k) := fun k hk => by
  show sm (cp _ _ _ k)
  unfold cp
  rw [if_pos hk]
  exact (h.1 n hn).2.2.1 k hk
theorem d4 (h : Rl r q f r' f' q') (hn : n < 4) (hz : zo (r' (2 * n)) (r' (2 * n + 1)) g) {k : Nat} (hk : k < 20) : (va_up f 4 (cp 20 g (f 4))) 4 k = g k := by rw [vu_self, cpl hk]
theorem d4R (h : Rl r q f r' f' q') (hn : n < 4) (hz : zo (r' (2 * n)) (r' (2 * n + 1)) g) : (rs r 4 (r' (2 * n)) (r' (2 * n + 1))) (2 * n) = nI (r' (2 * n)) := (rs_R' (by omega)).trans (h.1 n hn).1.1
theorem d4C (h : Rl r q f r' f' q') (hn : n < 4) (hz : zo (r' (2 * n)) (r' (2 * n + 1)) g) : (rs r 4 (r' (2 * n)) (r' (2 * n + 1))) (2 * n + 1) = nI (r' (2 * n + 1)) := (rs_C' (by omega)).trans (h.1 n hn).1.2.1
theorem Rl_4 (h : Rl r q f r' f' q') (hn : n < 4) (hz : zo (r' (2 * n)) (r' (2 * n + 1)) g) : Rl (rs r 4 (r' (2 * n)) (r' (2 * n + 1))) q (va_up f 4 (cp 20 g (f 4))) r' f' q' := Rl_keep h (fun i hi => ro (by omega)) ⟨rfl, rfl, rfl⟩
theorem fin_yes (h : Rl r q f r' f' q') (hn : n < 4) (hz : zo (r' (2 * n)) (r' (2 * n + 1)) g) (hs : ∀ k, k < r' (2 * n) * 5 → sm (g k)) : Ok (bnd4 (D_X5_settleChange (rs r 4 (r' (2 * n)) (r' (2 * n + 1))) q (va_up f 4 (cp 20 g (f 4))) n) (fun x r q f => ("", x, r, q, f))) (bnd4 (D_X10_changed r' f' (va_up q' 3 0) (nI n) (r' (2 * n)) (r' (2 * n + 1)) g) (fun x r f q => (x, r, f, q))) := by
  have hT := h.1 n hn
  have hT4 := (Rl_4 h hn hz).1 n hn
  have hb := hT.2.1
  unfold D_X5_settleChange D_X10_changed D_X5_tellDone
  dsimp only [bnd1, bnd3, bnd4]
  rcases ciw_sm (q := q) (r := rs r 4 (r' (2 * n)) (r' (2 * n + 1))) (f := va_up f 4 (cp 20 g (f 4))) (i := 4) rs_R rs_C hb.2.1 (by omega) (fun k hk => by rw [d4 h hn hz (by omega)]; exact sm_lo (hs k hk)) (fun k hk e => by rw [d4 h hn hz (by omega)]; exact hz k (by omega) (Or.inr e)) with ⟨_, w2⟩ | ⟨w1, w2⟩
  · have hz4 : zc (r' (2 * n + 1)) 20 ((va_up f 4 (cp 20 g (f 4))) 4) := fun k hk e => by rw [d4 h hn hz hk]; exact hz k hk (Or.inr e)
    have hzn : zc (r' (2 * n + 1)) 20 ((va_up f 4 (cp 20 g (f 4))) n) := by rw [vu_ne (by omega)]; exact tb_z hT
    rw [w2, if_neg one0, ccu (d4R h hn hz) (d4C h hn hz) hb.2.1 (by omega) hzn hz4, cbl (R := r' (2 * n)) (C := r' (2 * n + 1)) rs_R rs_C, nI_clamp (show n < 2 ^ 31 by omega), rul]
    dsimp only
    have hR : Rl (rs (rs r 4 (r' (2 * n)) (r' (2 * n + 1))) n (r' (2 * n)) (r' (2 * n + 1))) q (va_up (va_up f 4 (cp 20 g (f 4))) n (cp 20 ((va_up f 4 (cp 20 g (f 4))) 4) ((va_up f 4 (cp 20 g (f 4))) n))) (pr r' n (r' (2 * n)) (r' (2 * n + 1))) (va_up f' n g) q' := by
      refine Rl_set (Rl_4 h hn hz) (fun i _ e => ro e) ⟨⟨rs_R, rs_C, fun k hk => ?_⟩, hb, hs, fun k hk e => hz k (by omega) (Or.inr e)⟩ ⟨rfl, rfl, rfl⟩
      rw [vu_self, cpl hk, d4 h hn hz hk]
      unfold cp
      split
      · rfl
      · exact hz k hk (Or.inl (by omega))
    refine ok_do hR ?_
    refine congrArg nI (cnt_congr (fun k hk => ?_))
    unfold neb
    rw [d4 h hn hz (by omega), vu_ne (by omega), tb_v hT hk]
    by_cases e : g k = f' n k
    · rw [e]
    · rw [decide_eq_false e, decide_eq_false (fun z => e z.symm)]
  · exact absurd (fun k hk => by rw [d4 h hn hz (by omega)]; exact hs k hk) w1
theorem fin_no (h : Rl r q f r' f' q') (hn : n < 4) (hz : zo (r' (2 * n)) (r' (2 * n + 1)) g) (hs : ¬ ∀ k, k < r' (2 * n) * 5 → sm (g k)) (hlo : ∀ k, k < r' (2 * n) * 5 → -9223372036854775807 ≤ (g k).toInt) : Ok (bnd4 (D_X5_settleChange (rs r 4 (r' (2 * n)) (r' (2 * n + 1))) q (va_up f 4 (cp 20 g (f 4))) n) (fun x r q f => ("", x, r, q, f))) (-9, r', f', va_up (va_up q' 3 0) 1 ((va_up q' 3 0) 1 + 1)) := by
  have hb := (h.1 n hn).2.1
  unfold D_X5_settleChange D_X5_tellRefused
  dsimp only [bnd1, bnd3, bnd4]
  rcases ciw_sm (q := q) (r := rs r 4 (r' (2 * n)) (r' (2 * n + 1))) (f := va_up f 4 (cp 20 g (f 4))) (i := 4) rs_R rs_C hb.2.1 (by omega) (fun k hk => by rw [d4 h hn hz (by omega)]; exact hlo k hk) (fun k hk e => by rw [d4 h hn hz (by omega)]; exact hz k (by omega) (Or.inr e)) with ⟨w1, _⟩ | ⟨_, w2⟩
  · exact absurd (fun k hk => by rw [← d4 h hn hz (by omega)]; exact w1 k hk) hs
  · rw [w2, if_pos rfl]
    exact ok_no (Rl_4 h hn hz)
theorem zo_tc {a : Nat} {w : Nat → Int64} (hz : zo R C w) (ha : a < C) : zo R C (tc R a w) := by
  intro k hk e
  unfold tc
  rw [if_neg (by omega)]; exact hz k hk e
theorem cp_tc {a : Nat} {w u : Nat → Int64} (hR : R ≤ 4) : tc R a (cp 20 w u) = cp 20 (tc R a w) u := by
  funext k
  unfold tc cp
  by_cases e : k < 20
  · simp only [if_pos e]
  · rw [if_neg e, if_neg (by omega), if_neg e]
theorem sm_tc {a : Nat} {w : Nat → Int64} (h : ∀ k, k < R * 5 → sm (w k)) : ∀ k, k < R * 5 → sm (tc R a w k) := by
  intro k hk
  unfold tc
  split
  · exact sm_neg (h k hk)
  · exact h k hk
theorem rtu {y : Int32} {z : Int32} {t : Int32} {a : Nat} (hn : n < 4) (ha : z.toNatClampNeg = a) (ha5 : a < 5) : ∀ m k : Nat, k ≤ r' (2 * n) → r' (2 * n) - k < m → ∀ w : Nat → Int64, D_X10_turn_42 r' f' q' (nI n) z t m k (tc k a w) = bnd4 (D_X10_changed r' f' (va_up q' 3 t) (nI n) (r' (2 * n)) (r' (2 * n + 1)) (tc (r' (2 * n)) a w)) (fun x r f q => (x, r, f, q)) := by
  intro m
  induction m with
  | zero => intro k _ h; omega
  | succ m ih =>
    intro k hk hm w
    rw [D_X10_turn_42_s, nI_clamp (show n < 2 ^ 31 by omega), ha]
    by_cases e : r' (2 * n) ≤ k
    · rw [if_pos e, show k = r' (2 * n) by omega]
    · rw [if_neg e, tc_step ha5]
      exact ih (k + 1) (by omega) (by omega) w
theorem exchange_eq (h : Rl r q f r' f' q') {y p z u : Int32} : Ok (D_X5_exchange r q f y p z u) (D_X10_exchange r' f' q' y p z u) := by
  have hidx : ∀ (n : Nat) (a b c : Int32), Ok (D_X5_exchange_j33 r q f a b c n 0) (0, r', f', va_up q' 3 1) := by
    intro n a b c
    unfold D_X5_exchange_j33
    dsimp only [bnd1]
    rw [nx0, if_neg e_ne]
    exact ok_e1 h
  unfold D_X5_exchange D_X10_exchange
  rcases ntb (r := r) (q := q) (f := f) (p := y) with ⟨n, hn, rfl, h1, h2, h3⟩ | ⟨E, x1, x2, h1, h2⟩
  · rw [h1]
    dsimp only [bnd2, bnd1]
    rw [if_pos rfl, th1_1, th1_0]
    rcases hlin h hn (c := p) (k := z) with ⟨a, rfl, a1, a2, a3, a4, a5⟩ | ⟨a3, a4⟩
    · rw [a3, a4, if_neg one0, if_neg one0]
      rcases hlin h hn (c := p) (k := u) with ⟨b, rfl, b1, b2, b3, b4, b5⟩ | ⟨b3, b4⟩
      · rw [b3, b4, if_neg one0, if_neg one0, a5, b5, h3, rcp]
        unfold D_X5_exchange_j33
        dsimp only [bnd1, bnd3]
        rw [nx1, if_pos rfl, draft h hn]
        dsimp only
        have hb := (h.1 n hn).2.1
        by_cases hp : p = 0
        · subst hp
          rw [if_pos rfl] at a1 b1
          rw [if_pos rfl, cexR (C := r' (2 * n + 1)) rs_C (by omega) a2 b2, vu_self, vu2, cp_xr a2 b2]
          exact fin_yes h hn (zo_xr a1 b1 (gb_z h hn)) (sm_xr a1 b1 (gb_s h hn))
        · rw [if_neg hp] at a1 b1
          rw [if_neg hp, cexC (R := r' (2 * n)) hp rs_R hb.2.1 (by omega) (by omega), vu_self, vu2, cp_xc (by omega) (by omega) hb.2.1]
          exact fin_yes h hn (zo_xc a1 b1 (gb_z h hn)) (sm_xc (by omega) (by omega) (gb_s h hn))
      · rw [b3, b4, if_pos rfl, if_pos rfl]
        exact hidx n _ _ _
    · rw [a3, a4, if_pos rfl, if_pos rfl]
      exact hidx n _ _ _
  · rw [h1]
    dsimp only [bnd2, bnd1]
    rw [if_neg x1, (isT_0 h2).2.2, if_pos rfl, th1_1, x2]
    exact ok_e1 h
theorem turn_eq (h : Rl r q f r' f' q') {y p z : Int32} : Ok (D_X5_turn r q f y p z) (D_X10_turn r' f' q' y p z) := by
  unfold D_X5_turn D_X10_turn
  rcases ntb (r := r) (q := q) (f := f) (p := y) with ⟨n, hn, rfl, h1, h2, h3⟩ | ⟨E, x1, x2, h1, h2⟩
  · rw [h1]
    dsimp only [bnd2, bnd1]
    rw [if_pos rfl, th1_1, th1_0]
    rcases hlin h hn (c := p) (k := z) with ⟨a, rfl, a1, a2, a3, a4, a5⟩ | ⟨a3, a4⟩
    · rw [a3, a4, if_neg one0, nx1, if_pos rfl, draft h hn, a5, h3, rcp]
      dsimp only [bnd3]
      have hb := (h.1 n hn).2.1
      by_cases hp : p = 0
      · subst hp
        rw [if_pos rfl] at a1
        rw [if_pos rfl, ctuR (C := r' (2 * n + 1)) rs_C (by omega) a2, vu_self, vu2, cp_tr a2]
        exact fin_yes h hn (zo_tr a1 (gb_z h hn)) (sm_tr (gb_s h hn))
      · rw [if_neg hp] at a1
        rw [if_neg hp, ctuC (R := r' (2 * n)) hp rs_R hb.2.1 (by omega), vu_self, vu2, cp_tc hb.2.1]
        have e := rtu (r' := r') (f' := f') (q' := q') (n := n) (y := 0) (z := nI a) (t := (0 : Int32)) hn a5 (by omega) (r' (2 * n) + 1 - 0 + 1) 0 (by omega) (by omega) (gb r' f' n)
        rw [tc0] at e
        rw [e]
        exact fin_yes h hn (zo_tc (gb_z h hn) a1) (sm_tc (gb_s h hn))
    · rw [a3, a4, if_pos rfl, nx0, if_neg e_ne]
      exact ok_e1 h
  · rw [h1]
    dsimp only [bnd2, bnd1]
    rw [if_neg x1, (isT_0 h2).2.2, if_pos rfl, th1_1, x2]
    exact ok_e1 h
theorem ar_lo3 {a b : Nat} {t : Int64} {w : Nat → Int64} (hb : b < R) (hw : ∀ k, k < R * 5 → sm (w k)) (ht : sm t) : ∀ k, k < R * 5 → -9223372036854775807 ≤ (ar C a b t w k).toInt := by
  intro k hk
  unfold ar
  split
  · have h1 := hw k hk
    have h2 := hw (b * 5 + k % 5) (by omega)
    obtain ⟨e1, e2⟩ := mad_int (t := t) (sm_ng h1) (sm_ng h2) (by have := sm_int ht; omega) (by have := sm_int ht; omega)
    rw [e1]
    have := sm_int h1
    omega
  · exact sm_lo (hw k hk)
theorem ac_lo3 {a b : Nat} {t : Int64} {w : Nat → Int64} (hb : b < 5) (hw : ∀ k, k < R * 5 → sm (w k)) (ht : sm t) : ∀ k, k < R * 5 → -9223372036854775807 ≤ (ac R a b t w k).toInt := by
  intro k hk
  unfold ac
  split
  · have h1 := hw k hk
    have h2 := hw (k / 5 * 5 + b) (by omega)
    obtain ⟨e1, e2⟩ := mad_int (t := t) (sm_ng h1) (sm_ng h2) (by have := sm_int ht; omega) (by have := sm_int ht; omega)
    rw [e1]
    have := sm_int h1
    omega
  · exact sm_lo (hw k hk)
theorem fin_eq {t : Int32} (h : Rl r q f r' f' q') (hn : n < 4) (hz : zo (r' (2 * n)) (r' (2 * n + 1)) g) (hlo : ∀ k, k < r' (2 * n) * 5 → -9223372036854775807 ≤ (g k).toInt) : Ok (bnd4 (D_X5_settleChange (rs r 4 (r' (2 * n)) (r' (2 * n + 1))) q (va_up f 4 (cp 20 g (f 4))) n) (fun x r q f => ("", x, r, q, f))) (if D_X7_isLet (r' (2 * n)) (r' (2 * n + 1)) g = 0 then (-9, r', f', va_up (va_up q' 3 0) 1 ((va_up q' 3 0) 1 + 1)) else bnd4 (D_X10_changed r' f' (va_up q' 3 0) (nI n) (r' (2 * n)) (r' (2 * n + 1)) g) (fun x r f q => (x, r, f, q))) := by
  rcases ril (R := r' (2 * n)) (C := r' (2 * n + 1)) (f := g) with ⟨a1, a2⟩ | ⟨⟨k, a1, a2⟩, a3⟩
  · rw [a2, if_neg one0]
    exact fin_yes h hn hz a1
  · rw [a3, if_pos rfl]
    exact fin_no h hn hz (fun e => a2 (e k a1)) hlo
theorem nI_inj {a b : Nat} (ha : a < 2 ^ 31) (hb : b < 2 ^ 31) (h : nI a = nI b) : a = b := by
  have e := congrArg Int32.toNatClampNeg h
  rwa [nI_clamp ha, nI_clamp hb] at e
theorem add_eq (h : Rl r q f r' f' q') {y p z u v : Int32} : Ok (D_X5_add r q f y p z u v) (D_X10_add r' f' q' y p z u v) := by
  have hidx : ∀ (n : Nat) (a b c d : Int32), Ok (D_X5_add_j33 r q f a b c d n 0) (0, r', f', va_up q' 3 1) := by
    intro n a b c d
    unfold D_X5_add_j33
    dsimp only [bnd1]
    rw [nx0, if_neg e_ne]
    exact ok_e1 h
  have harg : ∀ (n : Nat) (a b c d : Int32), Ok (D_X5_add_j61 r q f a b c d n 0) (0, r', f', va_up q' 3 2) := by
    intro n a b c d
    unfold D_X5_add_j61
    dsimp only [bnd1]
    rw [ia0, if_neg e_ne2]
    exact ok_e2 h
  unfold D_X5_add D_X10_add
  rcases ntb (r := r) (q := q) (f := f) (p := y) with ⟨n, hn, rfl, h1, h2, h3⟩ | ⟨E, x1, x2, h1, h2⟩
  · rw [h1]
    dsimp only [bnd2, bnd1]
    rw [if_pos rfl, th2_11, th2_10, th2_01, th2_00]
    dsimp only
    rw [ite_self, ite_self, ite_self]
    rcases hlin h hn (c := p) (k := z) with ⟨a, rfl, a1, a2, a3, a4, a5⟩ | ⟨a3, a4⟩
    · rw [a3, a4, if_neg one0, if_neg one0]
      rcases hlin h hn (c := p) (k := u) with ⟨b, rfl, b1, b2, b3, b4, b5⟩ | ⟨b3, b4⟩
      · rw [b3, b4, if_neg one0, if_neg one0, a5, b5, h3, rcp]
        unfold D_X5_add_j33
        dsimp only [bnd1, bnd3]
        rw [nx1, if_pos rfl]
        by_cases hab : nI a = nI b
        · rw [if_pos hab, if_pos hab]
          exact harg n _ _ _ _
        · rw [if_neg hab, if_neg hab]
          by_cases v1 : v < -20
          · rw [if_pos v1, if_pos v1]
            exact harg n _ _ _ _
          · rw [if_neg v1, if_neg v1]
            by_cases v2 : v ≤ 20
            · have v3 : ¬ 20 < v := Int32.not_lt.mpr v2
              have hne : a ≠ b := fun e => hab (by rw [e])
              have hv := sm_i v1 v3
              rw [if_neg v3, if_pos v2]
              unfold D_X5_add_j61
              dsimp only [bnd1, bnd3]
              rw [ia1, if_pos rfl, draft h hn]
              dsimp only
              have hb := (h.1 n hn).2.1
              by_cases hp : p = 0
              · subst hp
                rw [if_pos rfl] at a1 b1
                rw [if_pos rfl, caddR (C := r' (2 * n + 1)) rs_C (by omega) a2 b2 hne, vu_self, vu2, cp_ar a2 b2]
                exact fin_eq (t := 0) h hn (zo_ar a1 (gb_z h hn)) (ar_lo3 b1 (gb_s h hn) hv)
              · rw [if_neg hp] at a1 b1
                rw [if_neg hp, caddC (R := r' (2 * n)) hp rs_R hb.2.1 (by omega) (by omega) hne, vu_self, vu2, cp_ac (by omega) (by omega) hb.2.1]
                exact fin_eq (t := 0) h hn (zo_ac a1 (gb_z h hn)) (ac_lo3 (by omega) (gb_s h hn) hv)
            · have v3 : 20 < v := Int32.not_le.mp v2
              rw [if_pos v3, if_neg v2]
              exact harg n _ _ _ _
      · rw [b3, b4, if_pos rfl, if_pos rfl]
        exact hidx n _ _ _ _
    · rw [a3, a4, if_pos rfl, if_pos rfl]
      exact hidx n _ _ _ _
  · rw [h1]
    dsimp only [bnd2, bnd1]
    rw [if_neg x1, (isT_0 h2).2.2, if_pos rfl, th2_10, th2_11, ite_self, ite_self, ite_self, x2]
    exact ok_e1 h
end PST
