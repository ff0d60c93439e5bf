section PF4
variable {r q r1 q1 : Nat → Int32} {f f1 : Nat → Nat → Int64} {r' : Nat → Nat} {f' : Nat → Nat → Int64} {q' Q : Nat → Int32} {R C K x y : Nat} {G w v u : Nat → Int64} {s t : Int32}
/-- by the steps to the diagonal -/
theorem sdia (h : Rl r q f r' f' q') (hR3 : r' 0 ≤ 3) (hC3 : r' 1 ≤ 3) (hF : Sd (r' 0) (r' 1) w v u) (hJ : Jd (r' 0) (r' 1) (cp (r' 0 * 5) (f' 0) (fun _ => 0)) K w v u) (hK : Rk (r' 0) (r' 1) w K) (hB : ∀ a b, K ≤ a → a < r' 0 → K ≤ b → b < r' 1 → w (a * 5 + b) = 0) : ∃ r2 f2, D_X5_isSoundBySteps (rs (rs (rs r 8 (r' 0) (r' 1)) 9 (r' 0) (r' 0)) 10 (r' 1) (r' 1)) (va_up q 1 0) (ds f w v u) 0 = (1, r2, va_up q 1 0, f2) ∧ Rl r2 (va_up q 1 0) f2 r' f' q' := by
  have hT := h.1 0 (by decide)
  have hb : 1 ≤ r' 0 ∧ r' 0 ≤ 4 ∧ 1 ≤ r' 1 ∧ r' 1 ≤ 4 := hT.2.1
  have hR1 : Rl (rs (rs (rs r 8 (r' 0) (r' 1)) 9 (r' 0) (r' 0)) 10 (r' 1) (r' 1)) (va_up q 1 0) (ds f w v u) r' f' q' := Rl_dwalk h
  have hT1 := hR1.1 0 (by decide)
  have t1 : (rs (rs (rs r 8 (r' 0) (r' 1)) 9 (r' 0) (r' 0)) 10 (r' 1) (r' 1)) (2 * 0) = nI (r' 0) := hT1.1.1
  have t2 : (rs (rs (rs r 8 (r' 0) (r' 1)) 9 (r' 0) (r' 0)) 10 (r' 1) (r' 1)) (2 * 0 + 1) = nI (r' 1) := hT1.1.2.1
  have h8 : (rs (rs (rs r 8 (r' 0) (r' 1)) 9 (r' 0) (r' 0)) 10 (r' 1) (r' 1)) (2 * 8) = nI (r' 0) := (rs_R' (by decide)).trans ((rs_R' (by decide)).trans rs_R)
  have h8c : (rs (rs (rs r 8 (r' 0) (r' 1)) 9 (r' 0) (r' 0)) 10 (r' 1) (r' 1)) (2 * 8 + 1) = nI (r' 1) := (rs_C' (by decide)).trans ((rs_C' (by decide)).trans rs_C)
  have h9 : (rs (rs (rs r 8 (r' 0) (r' 1)) 9 (r' 0) (r' 0)) 10 (r' 1) (r' 1)) (2 * 9) = nI (r' 0) := (rs_R' (by decide)).trans rs_R
  have h9c : (rs (rs (rs r 8 (r' 0) (r' 1)) 9 (r' 0) (r' 0)) 10 (r' 1) (r' 1)) (2 * 9 + 1) = nI (r' 0) := (rs_C' (by decide)).trans rs_C
  have h10c : (rs (rs (rs r 8 (r' 0) (r' 1)) 9 (r' 0) (r' 0)) 10 (r' 1) (r' 1)) (2 * 10 + 1) = nI (r' 1) := rs_C
  generalize rs (rs (rs r 8 (r' 0) (r' 1)) 9 (r' 0) (r' 0)) 10 (r' 1) (r' 1) = r1 at hR1 hT1 t1 t2 h8 h8c h9 h9c h10c ⊢
  obtain ⟨j1, j2, j3⟩ := hJ
  unfold D_X5_isSoundBySteps
  rw [cbp (Rj := r' 0) (Cj := r' 0) (Ck := r' 1) (by decide) (by decide) h9 h9c t2 hb.1 hb.2.1 hb.2.2.1 (by omega) hb.2.1, bnd3_e]
  have hX : ∀ a m, a < r' 0 → m < r' 1 → pd (r' 0) (r' 0) 0 (r' 1) (ds f w v u 9) (ds f w v u 0) (zf 20 (ds f w v u 4)) (a * 5 + m) = dot (r' 0) v (cp (r' 0 * 5) (f' 0) (fun _ => 0)) a m := fun a m ha hm => by
    rw [pd_p (by omega), show (a * 5 + m) / 5 = a by omega, show (a * 5 + m) % 5 = m by omega]
    exact dot_cg _ (fun k hk => by rw [ds9, cpl (by omega)]) (fun k hk => hT1.1.2.2 (k * 5 + m) (by omega))
  generalize pd (r' 0) (r' 0) 0 (r' 1) (ds f w v u 9) (ds f w v u 0) (zf 20 (ds f w v u 4)) = X at hX ⊢
  rw [cbp (Rj := r' 0) (Cj := r' 1) (Ck := r' 1) (by decide) (by decide) rs_R rs_C ((rs_C' (by decide)).trans h10c) hb.1 hb.2.1 hb.2.2.1 (by omega) hb.2.2.2, bnd3_e, bnd1_e]
  have hY : ∀ k, k < 20 → pd (r' 1) (r' 0) 0 (r' 1) (va_up (ds f w v u) 4 X 4) (va_up (ds f w v u) 4 X 10) (zf 20 (va_up (ds f w v u) 4 X 5)) k = w k := fun k hk => by
    by_cases e : k / 5 < r' 0 ∧ k % 5 < r' 1
    · have hd := j2 (k / 5) (k % 5) e.1 e.2
      rw [show k / 5 * 5 + k % 5 = k by omega] at hd
      rw [pd_p e, ← hd]
      refine dot_cg _ (fun m hm => ?_) (fun m hm => ?_)
      · rw [vu_self, hX _ m e.1 hm, pz_b (by omega)]
      · rw [vu_ne (show 10 ≠ 4 by decide), ds10, cpl (by omega)]
    · rw [pd_n e, hF.2.1 k hk (by omega)]
      unfold zf
      rw [if_pos hk]
  generalize pd (r' 1) (r' 0) 0 (r' 1) (va_up (ds f w v u) 4 X 4) (va_up (ds f w v u) 4 X 10) (zf 20 (va_up (ds f w v u) 4 X 5)) = Y at hY ⊢
  have hR2 : Rl (rs (rs r1 4 (r' 0) (r' 1)) 5 (r' 0) (r' 1)) (va_up q 1 0) (va_up (va_up (ds f w v u) 4 X) 5 Y) r' f' q' := Rl_keep (Rl_keep hR1 (fun i hi => ro (by omega)) ⟨rfl, rfl, rfl⟩) (fun i hi => ro (by omega)) ⟨rfl, rfl, rfl⟩
  have hT2 := hR2.1 0 (by decide)
  have k1 : (rs (rs r1 4 (r' 0) (r' 1)) 5 (r' 0) (r' 1)) (2 * 0) = nI (r' 0) := hT2.1.1
  have k2 : (rs (rs r1 4 (r' 0) (r' 1)) 5 (r' 0) (r' 1)) (2 * 0 + 1) = nI (r' 1) := hT2.1.2.1
  have f8 : ∀ k, k < 20 → va_up (va_up (ds f w v u) 4 X) 5 Y 8 k = w k := fun k hk => by
    rw [vu_ne (show 8 ≠ 5 by decide), vu_ne (show 8 ≠ 4 by decide), ds8, cpl hk]
  have z5 : zc (r' 1) 20 (va_up (va_up (ds f w v u) 4 X) 5 Y 5) := fun k hk e => by rw [vu_self, hY k hk]; exact hF.2.1 k hk (Or.inr e)
  have z8 : zc (r' 1) 20 (va_up (va_up (ds f w v u) 4 X) 5 Y 8) := fun k hk e => by rw [f8 k hk]; exact hF.2.1 k hk (Or.inr e)
  rcases cisl (r := rs (rs r1 4 (r' 0) (r' 1)) 5 (r' 0) (r' 1)) (q := va_up q 1 0) (f := va_up (va_up (ds f w v u) 4 X) 5 Y) (i := 5) (j := 8) (R := r' 0) (C := r' 1) (Rj := r' 0) (Cj := r' 1) rs_R rs_C ((rs_R' (by decide)).trans ((rs_R' (by decide)).trans h8)) ((rs_C' (by decide)).trans ((rs_C' (by decide)).trans h8c)) hb.2.1 (by omega) hb.2.1 (by omega) z5 z8 with ⟨c1, _⟩ | ⟨_, c2⟩
  · rw [c1, if_neg one0, k1, show gap (nI (r' 0)) 0 = r' 0 - 0 from gapN (b := 0) (by omega) (by omega)]
    have hZ : Zq (mxi (r' 0) (r' 1) (f' 0)) (mxi (r' 0) (r' 1) w) := by rw [mxi_cp (by omega)] at j1; exact j1
    have hbq : ∀ j, j < r' 0 * 5 → Bq 20 (f' 0 j) := tb_b hT
    exact ⟨_, _, sd54 (G := f' 0) hb.1 hR3 hC3 k1 k2 (fun k hk => tb_v hT2 hk) hbq f8 (diag_div hb.1 hb.2.2.1 hR3 hC3 hbq hZ j3 hK hB).1 (r' 0 - 0 + 1) 0 (by omega) (by omega), hR2⟩
  · refine absurd ⟨rfl, rfl, fun k hk => ?_⟩ c2
    rw [vu_self, f8 k (by omega)]
    exact hY k (by omega)
/-- the way to the diagonal, of the class -/
noncomputable def sdw (r q : Nat → Int32) (f : Nat → Nat → Int64) : Int32 × (Nat → Int32) × (Nat → Int32) × (Nat → Nat → Int64) := bnd3 (D_X1_walk r q f 0) (fun r2 q2 f2 => if q2 1 = 0 then bnd4 (D_X5_isSoundBySteps r2 q2 f2 0) (fun x r3 q3 f3 => if x = 0 then (0, r3, q3, f3) else (1, r3, q3, f3)) else (1, r2, q2, f2))
theorem sdw_1 (h : Rl r q f r' f' q') (hR3 : r' 0 ≤ 3) (hC3 : r' 1 ≤ 3) : ∃ r2 q2 f2, sdw r q f = (1, r2, q2, f2) := by
  have hT := h.1 0 (by decide)
  have hb : 1 ≤ r' 0 ∧ r' 0 ≤ 4 ∧ 1 ≤ r' 1 ∧ r' 1 ≤ 4 := hT.2.1
  have hCT : CT r f 0 (r' 0) (r' 1) (f' 0) := hT.1
  have hSw : Sw (r' 0) (f' 0) := sw_of hT
  have hzc : zc (r' 1) (r' 0 * 5) (f' 0) := hT.2.2.2
  obtain ⟨G', j1, j2, K, w3, v3, u3, w4, v4, u4, hG', e4, e5, e6⟩ := dwalk_eqJ (q := q) (jd_all (g := cp (r' 0 * 5) (f' 0) (fun _ => 0)) hR3 hC3) (Jd_0 hR3 hC3) hCT (by decide) (by decide) (by decide) hb.1 hb.2.1 hb.2.2.1 hb.2.2.2 hSw hzc
  unfold sdw
  rw [e4, bnd3_e]
  rcases hG' with rfl | rfl
  · obtain ⟨rfl, rfl, rfl, hSd, hK, hJ, hB⟩ := e6 rfl
    obtain ⟨r2, f2, k1, _⟩ := sdia h hR3 hC3 hSd hJ hK hB
    rw [if_pos (show va_up q 1 0 1 = 0 from vu_self), k1, bnd4_e, if_neg one0]
    exact ⟨_, _, _, rfl⟩
  · rw [if_neg (show ¬ va_up q 1 1 1 = 0 by rw [vu_self]; decide)]
    exact ⟨_, _, _, rfl⟩
/-- the ways of the row steps and to the diagonal, of the class -/
noncomputable def srw (r q : Nat → Int32) (f : Nat → Nat → Int64) : Int32 × (Nat → Int32) × (Nat → Int32) × (Nat → Nat → Int64) := bnd3 (D_X4_walk r q f 0) (fun r1 q1 f1 => if q1 0 = 0 then bnd4 (D_X5_isSoundByRowSteps r1 q1 f1 0) (fun x r2 q2 f2 => if x = 0 then (0, r2, q2, f2) else sdw r2 q2 f2) else sdw r1 q1 f1)
theorem srw_1 (h : Rl r q f r' f' q') (hR3 : r' 0 ≤ 3) (hC3 : r' 1 ≤ 3) : ∃ r2 q2 f2, srw r q f = (1, r2, q2, f2) := by
  have hT := h.1 0 (by decide)
  have hb : 1 ≤ r' 0 ∧ r' 0 ≤ 4 ∧ 1 ≤ r' 1 ∧ r' 1 ≤ 4 := hT.2.1
  have hCT : CT r f 0 (r' 0) (r' 1) (f' 0) := hT.1
  have hng : ∀ k, k < r' 0 * 5 → ng (f' 0 k) := fun k hk => sm_ng (hT.2.2.1 k hk)
  have hzc : zc (r' 1) (r' 0 * 5) (f' 0) := hT.2.2.2
  obtain ⟨G', s1, w1, v1, w2, v2, hG, e1, e2, e3⟩ := walk_eqJ (q := q) (jr_all (g := cp (r' 0 * 5) (f' 0) (fun _ => 0)) hb.1 hR3 hC3) (Jr_0 hb.1 hR3 hC3) hCT (by decide) (by decide) hb.1 hb.2.1 hb.2.2.1 (by omega) hng hzc
  unfold srw
  rw [e1, bnd3_e]
  rcases hG with rfl | rfl
  · obtain ⟨rfl, rfl, hSf, x1, y1, k1, k2, k3, k4⟩ := e3 rfl
    obtain ⟨r2, f2, l1, l2⟩ := srow h hR3 hC3 hSf k4 k1 k2 k3
    rw [if_pos (show va_up q 0 0 0 = 0 from vu_self), l1, bnd4_e, if_neg one0]
    exact sdw_1 l2 hR3 hC3
  · rw [if_neg (show ¬ va_up q 0 1 0 = 0 by rw [vu_self]; decide)]
    exact sdw_1 (Rl_walk h) hR3 hC3
/-- the class is sound -/
theorem first_1 (h : Rl r q f r' f' q') : ∃ r2 q2 f2, D_X5_isFirstSound r q f = (1, r2, q2, f2) := by
  have hT := h.1 0 (by decide)
  have hb : 1 ≤ r' 0 ∧ r' 0 ≤ 4 ∧ 1 ≤ r' 1 ∧ r' 1 ≤ 4 := hT.2.1
  have t1 : r (2 * 0) = nI (r' 0) := hT.1.1
  have t2 : r (2 * 0 + 1) = nI (r' 1) := hT.1.2.1
  unfold D_X5_isFirstSound
  rw [t1, t2]
  by_cases c1 : 3 < r' 0
  · rw [if_pos (show (3 : Int32) < nI (r' 0) from nI_lt (a := 3) c1 (by omega))]
    exact ⟨_, _, _, rfl⟩
  · rw [if_neg (show ¬ (3 : Int32) < nI (r' 0) from nI_nlt (a := 3) (by omega) (by omega))]
    by_cases c2 : r' 1 ≤ 3
    · rw [if_pos (show nI (r' 1) ≤ (3 : Int32) from ile (b := 3) c2 (by omega))]
      obtain ⟨r2, q2, f2, e⟩ := srw_1 h (by omega) c2
      by_cases c3 : r' 0 = r' 1
      · rw [if_pos (congrArg nI c3), bnd1_e, bnd1_e]
        have hv : ∀ k, k < r' 0 * 5 → f 0 k = f' 0 k := fun k hk => tb_v hT hk
        have e1 : D_X0_byFirstRow r q f 0 = dtn (r' 0) (f' 0) := bfr_dt (i := 0) t1 (t2.trans (congrArg nI c3.symm)) hb.1 hb.2.1 hv
        have e2 : D_X0_bySequences_4 r q f 0 0 0 = dtn (r' 0) (f' 0) := (seq_eq (i := 0) (C := r' 0) t1 (t2.trans (congrArg nI c3.symm)) hb.2.1 (by omega) hv).trans (seq_dt hb.1 (by omega))
        rw [e1, e2, if_pos (lgE.mpr rfl)]
        exact ⟨r2, q2, f2, e⟩
      · rw [if_neg (fun z => c3 (nI_inj (by omega) (by omega) z))]
        exact ⟨r2, q2, f2, e⟩
    · rw [if_neg (show ¬ nI (r' 1) ≤ (3 : Int32) from nile (b := 3) c2 (by omega))]
      exact ⟨_, _, _, rfl⟩
/-- the end of the reference's look -/
noncomputable def sne (r : Nat → Nat) (f : Nat → Nat → Int64) : Int32 := if (r (2 * 0)) = (r (2 * 0 + 1)) then (if (lg_cmp (mnv (f 0) (r (2 * 0 + 1)) (r (2 * 0)) (2 ^ (r (2 * 0)) - 1) (2 ^ (r (2 * 0 + 1)) - 1)) (bsv (r (2 * 0)) (r (2 * 0 + 1)) (f 0) 4 0 0)) = 0 then 1 else 0) else 1
theorem sne_1 (h1 : 1 ≤ r' 0) (h2 : r' 0 ≤ 3) : sne r' f' = 1 := by
  unfold sne
  by_cases c : r' (2 * 0) = r' (2 * 0 + 1)
  · rw [if_pos c, ← c]
    have e1 : mnv (f' 0) (r' (2 * 0)) (r' (2 * 0)) (2 ^ r' (2 * 0) - 1) (2 ^ r' (2 * 0) - 1) = dtn (r' (2 * 0)) (f' 0) := mn_dt h1 (Nat.le_trans h2 (by decide)) (f' 0)
    have e2 : bsv (r' (2 * 0)) (r' (2 * 0)) (f' 0) 4 0 0 = dtn (r' (2 * 0)) (f' 0) := seq_dt h1 h2
    rw [e1, e2, if_pos (lgE.mpr rfl)]
  · rw [if_neg c]
/-- the reference: great -/
theorem sn_g {F11 F12 F13 : Nat → Int64} {n : Nat} {y4 : Int64} (h1 : 1 ≤ r' 0) (h2 : r' 0 ≤ 3) : D_X10_isSoundNow_42 r' f' F11 F12 F13 K 1 (n + 1) x y4 1 = 1 := by
  rw [D_X10_isSoundNow_42_s, if_neg one0, if_neg (show ¬ (1 : Int32) &&& 1 = 0 by decide)]
  exact sne_1 h1 h2
/-- the reference: by the steps -/
theorem sn_l (hb : 1 ≤ r' 0 ∧ r' 0 ≤ 3 ∧ 1 ≤ r' 1 ∧ r' 1 ≤ 3) (hD : ∀ k, k ≤ min (r' 0) (r' 1) → (D_X7_divisor (r' 0) (r' 1) (f' 0) (nI k)).toInt = dlt (mxi (r' 0) (r' 1) w) k) (hK : D_X7_rank (r' 0) (r' 1) (f' 0) = nI K) (hP : Pz (r' 0) (r' 1) (cp (r' 0 * 5) (f' 0) (fun _ => 0)) w v u) (hz : zo (r' 0) (r' 1) w) : ∀ n k : Nat, k ≤ min (r' 0) (r' 1) → min (r' 0) (r' 1) - k < n → D_X10_isSoundNow_42 r' f' u v w K 0 n k (D_X7_divisor (r' 0) (r' 1) (f' 0) (nI k)) 1 = 1 := by
  have hfin : bnd1 (D_X7_rank (r' (2 * 0)) (r' (2 * 0 + 1)) (f' 0)) (fun x151 => if nI K = x151 then bnd1 (D_X7_product (r' (2 * 0)) (r' (2 * 0)) v (r' (2 * 0)) (r' (2 * 0 + 1)) (f' 0)) (fun F159 => bnd1 (D_X7_product (r' (2 * 0)) (r' (2 * 0 + 1)) F159 (r' (2 * 0 + 1)) (r' (2 * 0 + 1)) u) (fun F163 => bnd1 (D_X7_isSame (r' (2 * 0)) (r' (2 * 0 + 1)) F163 (r' (2 * 0)) (r' (2 * 0 + 1)) w) (fun x165 => if x165 = 0 then (if ((1 : Int32) &&& 0) = 0 then 0 else sne r' f') else (if ((1 : Int32) &&& 1) = 0 then 0 else sne r' f')))) else (if ((1 : Int32) &&& 0) = 0 then 0 else sne r' f')) = 1 := by
    have hK' : D_X7_rank (r' (2 * 0)) (r' (2 * 0 + 1)) (f' 0) = nI K := hK
    have h5 : r' (2 * 0 + 1) ≤ 5 := Nat.le_trans hb.2.2.2 (by decide)
    rw [hK', bnd1_e, if_pos rfl, bnd1_e, bnd1_e, bnd1_e, rpd h5, rpd h5]
    rcases ris (R := r' (2 * 0)) (C := r' (2 * 0 + 1)) (f := pd (r' (2 * 0 + 1)) (r' (2 * 0)) 0 (r' (2 * 0 + 1)) (pd (r' (2 * 0)) (r' (2 * 0)) 0 (r' (2 * 0 + 1)) v (f' 0) (fun _ => 0)) u (fun _ => 0)) (Ro := r' (2 * 0)) (Co := r' (2 * 0 + 1)) (fo := w) with ⟨c, _⟩ | ⟨_, c⟩
    · rw [c, if_neg one0, if_neg (show ¬ (1 : Int32) &&& 1 = 0 by decide)]
      exact sne_1 hb.1 hb.2.1
    · refine absurd ⟨rfl, rfl, fun k hk => ?_⟩ c
      have hk' : k < r' 0 * 5 := hk
      by_cases e : k / 5 < r' (2 * 0) ∧ k % 5 < r' (2 * 0 + 1)
      · have e' : k / 5 < r' 0 ∧ k % 5 < r' 1 := e
        have hd := hP (k / 5) (k % 5) e'.1 e'.2
        rw [show k / 5 * 5 + k % 5 = k by omega] at hd
        rw [pd_p e, ← hd]
        refine dot_cg _ (fun m hm => ?_) (fun m _ => rfl)
        have hm' : m < r' 1 := hm
        have e2 : (k / 5 * 5 + m) / 5 < r' (2 * 0) ∧ (k / 5 * 5 + m) % 5 < r' (2 * 0 + 1) := by
          show (k / 5 * 5 + m) / 5 < r' 0 ∧ (k / 5 * 5 + m) % 5 < r' 1
          omega
        rw [pz_b (by omega), pd_p e2, show (k / 5 * 5 + m) / 5 = k / 5 by omega, show (k / 5 * 5 + m) % 5 = m by omega]
        refine dot_cg _ (fun _ _ => rfl) (fun j hj => ?_)
        have hj' : j < r' 0 := hj
        unfold cp
        rw [if_pos (by omega)]
      · have e' : ¬ (k / 5 < r' 0 ∧ k % 5 < r' 1) := e
        rw [pd_n e, hz k (by omega) (by omega)]
  intro n
  induction n with
  | zero => intro k _ h; omega
  | succ n ih =>
    intro k hk hn
    rw [D_X10_isSoundNow_42_s, if_pos rfl]
    by_cases e1 : r' (2 * 0) ≤ k
    · rw [if_pos e1]
      exact hfin
    · rw [if_neg e1]
      by_cases e2 : r' (2 * 0 + 1) ≤ k
      · rw [if_pos e2]
        exact hfin
      · have e1' : ¬ r' 0 ≤ k := e1
        have e2' : ¬ r' 1 ≤ k := e2
        have hm : D_X7_divisor (r' 0) (r' 1) (f' 0) (nI k) * w (k * 5 + k) = D_X7_divisor (r' 0) (r' 1) (f' 0) (nI (k + 1)) := by
          refine mul_eq ?_
          rw [hD k hk, hD (k + 1) (by omega)]
          show _ = dlt (mxi (r' 0) (r' 1) w) k * mxi (r' 0) (r' 1) w k k
          rw [mxi_p ⟨by omega, by omega⟩]
        rw [if_neg e2, bnd1_e, hm]
        show (if lg_cmp (D_X7_divisor (r' 0) (r' 1) (f' 0) (nI (k + 1))) (D_X7_divisor (r' 0) (r' 1) (f' 0) (nI (k + 1))) = 0 then D_X10_isSoundNow_42 r' f' u v w K 0 n (k + 1) (D_X7_divisor (r' 0) (r' 1) (f' 0) (nI (k + 1))) (1 &&& 1) else D_X10_isSoundNow_42 r' f' u v w K 0 n (k + 1) (D_X7_divisor (r' 0) (r' 1) (f' 0) (nI (k + 1))) (1 &&& 0)) = 1
        rw [if_pos (lgE.mpr rfl), show (1 : Int32) &&& 1 = 1 by decide]
        exact ih (k + 1) (by omega) (by omega)
/-- the reference is sound -/
theorem now_1 (h : Rl r q f r' f' q') : D_X10_isSoundNow r' f' Q = 1 := by
  have hT := h.1 0 (by decide)
  have hb : 1 ≤ r' 0 ∧ r' 0 ≤ 4 ∧ 1 ≤ r' 1 ∧ r' 1 ≤ 4 := hT.2.1
  have hCT : CT r f 0 (r' 0) (r' 1) (f' 0) := hT.1
  have hSw : Sw (r' 0) (f' 0) := sw_of hT
  have hzc : zc (r' 1) (r' 0 * 5) (f' 0) := hT.2.2.2
  have hbq : ∀ j, j < r' 0 * 5 → Bq 20 (f' 0 j) := tb_b hT
  unfold D_X10_isSoundNow
  by_cases c1 : 3 < r' (2 * 0)
  · rw [if_pos c1]
  · have c1' : ¬ 3 < r' 0 := c1
    rw [if_neg c1]
    by_cases c2 : r' (2 * 0 + 1) ≤ 3
    · have hC3 : r' 1 ≤ 3 := c2
      have hR3 : r' 0 ≤ 3 := by omega
      obtain ⟨G', j1, j2, K, w3, v3, u3, w4, v4, u4, hG', e4, e5, e6⟩ := dwalk_eqJ (q := q) (jd_all (g := cp (r' 0 * 5) (f' 0) (fun _ => 0)) hR3 hC3) (Jd_0 hR3 hC3) hCT (by decide) (by decide) (by decide) hb.1 hb.2.1 hb.2.2.1 hb.2.2.2 hSw hzc
      have e5' : D_X9_init (r' (2 * 0)) (r' (2 * 0 + 1)) (f' 0) = (u4, v4, w4, j1, j2, K, G') := e5
      rw [if_pos c2, e5']
      dsimp only [bnd7]
      rcases hG' with rfl | rfl
      · obtain ⟨rfl, rfl, rfl, hSd, hK, hJ, hB⟩ := e6 rfl
        have hZ : Zq (mxi (r' 0) (r' 1) (f' 0)) (mxi (r' 0) (r' 1) w4) := by
          have := hJ.1
          rw [mxi_cp (by omega)] at this
          exact this
        obtain ⟨d1, d2⟩ := diag_div hb.1 hb.2.2.1 hR3 hC3 hbq hZ hJ.2.2 hK hB
        have hk := sn_l (r' := r') (f' := f') ⟨hb.1, hR3, hb.2.2.1, hC3⟩ d1 (rko d2 (by have := hK.1; have := hK.2.1; omega)) hJ.2.1 hSd.2.1 (r' 0 + 1 - 0 + 1) 0 (Nat.zero_le _) (by omega)
        have hd0 : D_X7_divisor (r' 0) (r' 1) (f' 0) (nI 0) = 1 := by
          unfold D_X7_divisor
          exact if_pos rfl
        rw [hd0] at hk
        exact hk
      · exact sn_g hb.1 hR3
    · rw [if_neg c2]
theorem an_isSound (h : Rl r q f r' f' q') : (D_X5_isSound r q f).1 = (D_X10_isSound r' f' q').1 := by
  obtain ⟨r2, q2, f2, e⟩ := first_1 h
  unfold D_X5_isSound D_X10_isSound
  rw [e, bnd4_e, now_1 h, bnd1_e, if_neg one0]
end PF4
