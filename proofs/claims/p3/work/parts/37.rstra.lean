theorem fitz {x : Int32} (h : x = 0 ∨ x = 1) : fits .boolean (.int x) = true := by rcases h with rfl | rfl <;> rfl
theorem or_b1 {x : Int32} (h : x = 0 ∨ x = 1) : x ||| 1 = 0 ∨ x ||| 1 = 1 := by rcases h with rfl | rfl <;> decide
theorem or_b0 {x : Int32} (h : x = 0 ∨ x = 1) : x ||| 0 = 0 ∨ x ||| 0 = 1 := by rcases h with rfl | rfl <;> decide
theorem or_z {x : Int32} (h : x ||| 0 = 0) : x = 0 := by rwa [Int32.or_zero] at h
section ILS
variable {u v t1 t2 : Int64} {x : Int32}
theorem il_1 (hn1 : ng u) (hn2 : ng v) (c1 : ¬ lg_cmp v 0 = 0) (c2 : ¬ lg_cmp u 0 = 0) (e1 : t1 = ab u) (e2 : t2 = ab v) (d : ¬ 0 ≤ lg_cmp t1 t2) : (1 : Int32) = 0 ∧ (u = 0 ∨ ¬ v = 0 ∧ na v ≤ na u) ∨ (1 : Int32) = 1 ∧ ¬ u = 0 ∧ (v = 0 ∨ na u < na v) := by
  subst e1; subst e2
  exact Or.inr ⟨rfl, fun e => c2 (lg0.mpr e), Or.inr ((ab_lt hn1 hn2).mp (Int32.not_le.mp d))⟩
theorem il_2 (c1 : lg_cmp v 0 = 0) (c2 : ¬ lg_cmp u 0 = 0) : (1 : Int32) = 0 ∧ (u = 0 ∨ ¬ v = 0 ∧ na v ≤ na u) ∨ (1 : Int32) = 1 ∧ ¬ u = 0 ∧ (v = 0 ∨ na u < na v) := Or.inr ⟨rfl, fun e => c2 (lg0.mpr e), Or.inl (lg0.mp c1)⟩
theorem il_3 (c1 : lg_cmp v 0 = 0) (c2 : lg_cmp u 0 = 0) : (0 : Int32) = 0 ∧ (u = 0 ∨ ¬ v = 0 ∧ na v ≤ na u) ∨ (0 : Int32) = 1 ∧ ¬ u = 0 ∧ (v = 0 ∨ na u < na v) := Or.inl ⟨rfl, Or.inl (lg0.mp c2)⟩
theorem il_4 (c1 : ¬ lg_cmp v 0 = 0) (c2 : lg_cmp u 0 = 0) : (0 : Int32) = 0 ∧ (u = 0 ∨ ¬ v = 0 ∧ na v ≤ na u) ∨ (0 : Int32) = 1 ∧ ¬ u = 0 ∧ (v = 0 ∨ na u < na v) := Or.inl ⟨rfl, Or.inl (lg0.mp c2)⟩
theorem il_5 (hn1 : ng u) (hn2 : ng v) (c1 : ¬ lg_cmp v 0 = 0) (c2 : ¬ lg_cmp u 0 = 0) (e1 : t1 = ab u) (e2 : t2 = ab v) (d : 0 ≤ lg_cmp t1 t2) : (0 : Int32) = 0 ∧ (u = 0 ∨ ¬ v = 0 ∧ na v ≤ na u) ∨ (0 : Int32) = 1 ∧ ¬ u = 0 ∧ (v = 0 ∨ na u < na v) := by
  subst e1; subst e2
  refine Or.inl ⟨rfl, Or.inr ⟨fun e => c1 (lg0.mpr e), ?_⟩⟩
  have := mt (ab_lt hn1 hn2).mpr (Int32.not_lt.mpr d)
  omega
end ILS
theorem ng_xc {R i j : Nat} {f : Nat → Int64} (hi : i < 5) (hj : j < 5) (h : ∀ k, k < R * 5 → ng (f k)) : ∀ k, k < R * 5 → ng (xc R i j f k) := by
  intro k hk
  unfold xc
  split
  · exact h _ (by omega)
  · split
    · exact h _ (by omega)
    · exact h k hk
def B1f (R C t r : Nat) (f F : Nat → Int64) : Prop := (∀ k, k < R * 5 → ng (F k)) ∧ (∀ j, j < C → F (t * 5 + j) = f (r * 5 + j)) ∧ (∀ k, k < t → F (k * 5 + k) = f (k * 5 + k)) ∧ (r = t → F = f)
def B2f (R t r c0 : Nat) (f F : Nat → Int64) : Prop := (∀ k, k < R * 5 → ng (F k)) ∧ F (t * 5 + t) = f (r * 5 + c0) ∧ (∀ k, k < t → F (k * 5 + k) = f (k * 5 + k)) ∧ (r = t → c0 = t → F = f)
/-- what 'bring' says -/
def BRf (R t r c0 : Nat) (f F : Nat → Int64) : Prop := (∀ k, k < R * 5 → ng (F k)) ∧ 0 < (F (t * 5 + t)).toInt ∧ na (F (t * 5 + t)) = na (f (r * 5 + c0)) ∧ (∀ k, k < t → F (k * 5 + k) = f (k * 5 + k)) ∧ (r = t → c0 = t → 0 < (f (t * 5 + t)).toInt → F = f)
section BRS
variable {R C t r c0 i : Nat} {f F F1 f0 : Nat → Int64} {G G1 G0 : Int32}
theorem B1_0 (h : ∀ k, k < R * 5 → ng (f k)) (e : r = t) : B1f R C t r f f := ⟨h, fun j _ => by rw [e], fun _ _ => rfl, fun _ => rfl⟩
theorem B1_1 (h : ∀ k, k < R * 5 → ng (f k)) (ht : t < r ∧ R ≤ 4) (hr : r < R) (hC : C ≤ 5) : B1f R C t r f (xr C r t f) := by
  refine ⟨ng_xr hr (by omega) h, fun j hj => ?_, fun k hk => ?_, fun e => by omega⟩
  · unfold xr
    rw [if_neg (by omega), if_pos (by omega)]
    congr 1
    omega
  · unfold xr
    rw [if_neg (by omega), if_neg (by omega)]
theorem B2_0 (h : B1f R C t r f F) (ht : t < C) (e : c0 = t) : B2f R t r c0 f F := ⟨h.1, by rw [h.2.1 t ht, e], h.2.2.1, fun a _ => h.2.2.2 a⟩
theorem B2_1 (h : B1f R C t r f F) (ht : t < R) (hc : t < c0) (hcC : c0 < C) (hr : t ≤ r) (hC : C ≤ 5) : B2f R t r c0 f (xc R c0 t F) := by
  refine ⟨ng_xc (by omega) (by omega) h.1, ?_, fun k hk => ?_, fun _ e => by omega⟩
  · rw [← h.2.1 c0 hcC]
    unfold xc
    rw [if_neg (by omega), if_pos (by omega)]
    congr 1
    omega
  · rw [← h.2.2.1 k hk]
    unfold xc
    rw [if_neg (by omega), if_neg (by omega)]
theorem BR_0 (h : B2f R t r c0 f F) (hnz : ¬ f (r * 5 + c0) = 0) (c : 0 ≤ lg_cmp (F (t * 5 + t)) 0) : BRf R t r c0 f F := ⟨h.1, pos_of c (by rw [h.2.1]; exact hnz), by rw [h.2.1], h.2.2.1, fun a b _ => h.2.2.2 a b⟩
theorem BR_1 (h : B2f R t r c0 f F) (ht : t < R ∧ t < C) (hC : C ≤ 5) (c : ¬ 0 ≤ lg_cmp (F (t * 5 + t)) 0) : BRf R t r c0 f (tr C t F) := by
  have hn := h.1 (t * 5 + t) (by omega)
  refine ⟨ng_tr h.1, ?_, ?_, fun k hk => ?_, fun a b z => ?_⟩
  · rw [tr_r (by omega) hC]
    exact pos_neg hn c
  · rw [tr_r (by omega) hC, na_neg hn, h.2.1]
  · rw [← h.2.2.1 k hk]
    unfold tr
    rw [if_neg (by omega)]
  · have e := h.2.2.2 a b
    rw [e] at c
    refine absurd ((lg_cmp_ge _ _).mpr (Int64.le_iff_toInt_le.mpr ?_)) c
    rw [show (0 : Int64).toInt = 0 from rfl]
    omega
/-- the rows below are taken off up to row i -/
def T1f (R C t : Nat) (f : Nat → Int64) (i : Nat) (F : Nat → Int64) (G : Int32) : Prop := (G = 0 ∨ G = 1) ∧ (∀ k, k ≤ t → ∀ j, j < 5 → F (k * 5 + j) = f (k * 5 + j)) ∧ (G = 0 → (∀ k, k < R * 5 → ng (F k)) ∧ ∀ a, t < a → a < i → 0 ≤ (F (a * 5 + t)).toInt ∧ (F (a * 5 + t)).toInt < (f (t * 5 + t)).toInt ∨ ¬ 0 < (f (t * 5 + t)).toInt)
theorem T1_0 (h : ∀ k, k < R * 5 → ng (f k)) (hg : G = 0 ∨ G = 1) : T1f R C t f (t + 1) f G := ⟨hg, fun _ _ _ _ => rfl, fun _ => ⟨h, fun a h1 h2 => absurd h2 (by omega)⟩⟩
theorem T1_pv (h : T1f R C t f i F G) (hp : 0 < (f (t * 5 + t)).toInt) (ht : t < 5 := by omega) : ¬ F (t * 5 + t) = 0 := by
  rw [h.2.1 t (Nat.le_refl _) t ht]
  intro e
  rw [e] at hp
  exact absurd hp (by decide)
theorem T1_s (hC : C ≤ 5) (ht : t < C) (hi : t + 1 ≤ i) (hiR : i < R) (h : T1f R C t f i F G) (hb : G1 = 0 ∨ G1 = 1) (hn : G1 = 0 → G = 0 ∧ ∀ k, k < R * 5 → ng (ar C i t (-(fdv (F (i * 5 + t)) (F (t * 5 + t)))) F k)) : T1f R C t f (i + 1) (ar C i t (-(fdv (F (i * 5 + t)) (F (t * 5 + t)))) F) G1 := by
  refine ⟨hb, fun k hk j hj => ?_, fun hg => ⟨(hn hg).2, fun a h1 h2 => ?_⟩⟩
  · rw [← h.2.1 k hk j hj]
    unfold ar
    rw [if_neg (by omega)]
  · by_cases hp : 0 < (f (t * 5 + t)).toInt
    · refine Or.inl ?_
      have hpF := h.2.1 t (Nat.le_refl _) t (by omega)
      by_cases e : a = i
      · subst e
        have e1 : ar C a t (-(fdv (F (a * 5 + t)) (F (t * 5 + t)))) F (a * 5 + t) = rmf (F (a * 5 + t)) (F (t * 5 + t)) := by
          unfold ar rmf
          rw [if_pos (by omega), show (a * 5 + t) % 5 = t by omega]
        rw [e1, hpF]
        exact rmf_int hp
      · have e1 : ar C i t (-(fdv (F (i * 5 + t)) (F (t * 5 + t)))) F (a * 5 + t) = F (a * 5 + t) := by
          unfold ar
          rw [if_neg (by omega)]
        rw [e1]
        exact (((h.2.2 (hn hg).1).2 a h1 (by omega))).resolve_right (fun z => z hp)
    · exact Or.inr hp
theorem T1_g (h : T1f R C t f i F G) (hg : ¬ G = 0) {n : Nat} : T1f R C t f n F G := ⟨h.1, h.2.1, fun z => absurd z hg⟩
/-- then the columns, up to column j -/
def T2f (R t : Nat) (F0 : Nat → Int64) (G0 : Int32) (j : Nat) (F : Nat → Int64) (G : Int32) : Prop := (G = 0 ∨ G = 1) ∧ (G = 0 → G0 = 0 ∧ ∀ k, k < R * 5 → ng (F k)) ∧ (∀ a, F (a * 5 + t) = F0 (a * 5 + t)) ∧ (∀ k, k < t → F (k * 5 + k) = F0 (k * 5 + k)) ∧ ∀ b, t < b → b < 5 → F (t * 5 + b) = if b < j then rmf (F0 (t * 5 + b)) (F0 (t * 5 + t)) else F0 (t * 5 + b)
theorem T2_0 (h : T1f R C t f i F G) : T2f R t F G (t + 1) F G := ⟨h.1, fun hg => ⟨hg, (h.2.2 hg).1⟩, fun _ => rfl, fun _ _ => rfl, fun b h1 _ => by rw [if_neg (by omega)]⟩
theorem T2_pv {n : Nat} (h : T1f R C t f i F G) (h2 : T2f R t F G n F1 G1) (hp : 0 < (f (t * 5 + t)).toInt) (ht : t < 5 := by omega) : ¬ F1 (t * 5 + t) = 0 := by
  rw [h2.2.2.1 t]
  exact T1_pv h hp ht
theorem T2_s {j : Nat} (hC : C ≤ 5) (htR : t < R) (hj : t + 1 ≤ j ∧ j < C) (h : T2f R t f0 G0 j F G) (hb : G1 = 0 ∨ G1 = 1) (hn : G1 = 0 → G = 0 ∧ ∀ k, k < R * 5 → ng (ac R j t (-(fdv (F (t * 5 + j)) (F (t * 5 + t)))) F k)) : T2f R t f0 G0 (j + 1) (ac R j t (-(fdv (F (t * 5 + j)) (F (t * 5 + t)))) F) G1 := by
  obtain ⟨h1, h2, h3, h4, h5⟩ := h
  refine ⟨hb, fun hg => ⟨(h2 (hn hg).1).1, (hn hg).2⟩, fun a => ?_, fun k hk => ?_, fun b b1 b2 => ?_⟩
  · rw [← h3 a]
    unfold ac
    rw [if_neg (by omega)]
  · rw [← h4 k hk]
    unfold ac
    rw [if_neg (by omega)]
  · by_cases e : b = j
    · subst e
      have e5 := h5 b b1 b2
      rw [if_neg (by omega)] at e5
      rw [if_pos (by omega), ← e5, ← h3 t]
      unfold ac rmf
      rw [if_pos (by omega), show (t * 5 + b) / 5 = t by omega]
    · have e1 : ac R j t (-(fdv (F (t * 5 + j)) (F (t * 5 + t)))) F (t * 5 + b) = F (t * 5 + b) := by
        unfold ac
        rw [if_neg (by omega)]
      rw [e1, h5 b b1 b2]
      by_cases b3 : b < j
      · rw [if_pos b3, if_pos (by omega)]
      · rw [if_neg b3, if_neg (by omega)]
/-- what takeOff says -/
def TKf (R C t : Nat) (f F : Nat → Int64) (G : Int32) : Prop := (G = 0 ∨ G = 1) ∧ F (t * 5 + t) = f (t * 5 + t) ∧ (∀ k, k < t → F (k * 5 + k) = f (k * 5 + k)) ∧ (G = 0 → (∀ k, k < R * 5 → ng (F k)) ∧ (∀ a, t < a → a < R → 0 ≤ (F (a * 5 + t)).toInt ∧ (F (a * 5 + t)).toInt < (f (t * 5 + t)).toInt) ∧ ∀ b, t < b → b < C → F (t * 5 + b) = rmf (f (t * 5 + b)) (f (t * 5 + t)))
theorem TK_0 {j : Nat} (hp : 0 < (f (t * 5 + t)).toInt) (ht : t < C) (hC : C ≤ 5) (h : T1f R C t f R F G) (h2 : T2f R t F G j F1 G1) (hj : j = C) : TKf R C t f F1 G1 := by
  obtain ⟨a1, a2, a3⟩ := h
  obtain ⟨b1, b2, b3, b4, b5⟩ := h2
  refine ⟨b1, by rw [b3 t, a2 t (Nat.le_refl _) t (by omega)], fun k hk => by rw [b4 k hk, a2 k (by omega) k (by omega)], fun hg => ⟨(b2 hg).2, fun a h3 h4 => ?_, fun b h3 h4 => ?_⟩⟩
  · rw [b3 a]
    exact ((a3 (b2 hg).1).2 a h3 h4).resolve_right (fun z => z hp)
  · rw [b5 b h3 (by omega), if_pos (by omega), a2 t (Nat.le_refl _) b (by omega), a2 t (Nat.le_refl _) t (by omega)]
theorem TK_1 {j : Nat} (ht : t < C) (hC : C ≤ 5) (h : T1f R C t f R F G) (h2 : T2f R t F G j F1 G1) (hg : ¬ G1 = 0) : TKf R C t f F1 G1 := by
  obtain ⟨a1, a2, a3⟩ := h
  obtain ⟨b1, b2, b3, b4, b5⟩ := h2
  exact ⟨b1, by rw [b3 t, a2 t (Nat.le_refl _) t (by omega)], fun k hk => by rw [b4 k hk, a2 k (by omega) k (by omega)], fun z => absurd z hg⟩
end BRS

noncomputable def D_X9_isLess (R : Nat) (C : Nat) (f1 : Nat → Int64) (f2 : Nat → Int64) (f3 : Nat → Int64) (i1 : Int32) (i2 : Int32) (i3 : Int32) (i4 : Int32) (u : Int64) (v : Int64) : Int32 := (if (lg_cmp v 0) = 0 then (if (lg_cmp u 0) = 0 then 0 else 1) else (if (lg_cmp u 0) = 0 then 0 else nm ((if 0 < u then u else -u) : Int64) (fun (t3 : Int64) => nm ((if 0 < v then v else -v) : Int64) (fun (t4 : Int64) => (if 0 ≤ (lg_cmp t3 t4) then 0 else 1)))))
theorem D_X9_isLess_s {R : Nat} {C : Nat} {f1 : Nat → Int64} {f2 : Nat → Int64} {f3 : Nat → Int64} {i1 : Int32} {i2 : Int32} {i3 : Int32} {i4 : Int32} {u : Int64} {v : Int64} : D_X9_isLess R C f1 f2 f3 i1 i2 i3 i4 u v = (if (lg_cmp v 0) = 0 then (if (lg_cmp u 0) = 0 then 0 else 1) else (if (lg_cmp u 0) = 0 then 0 else nm ((if 0 < u then u else -u) : Int64) (fun (t3 : Int64) => nm ((if 0 < v then v else -v) : Int64) (fun (t4 : Int64) => (if 0 ≤ (lg_cmp t3 t4) then 0 else 1))))) := rfl
set_option maxHeartbeats 4000000 in
set_option maxRecDepth 100000 in
theorem k_X9_isLess (κ : Kt) (l : Launch) (w : va_W) (s_0 g_r b_r g_l b_l g_w b_w R C : Nat) (f1 f2 f3 : Nat → Int64) (i1 i2 i3 i4 : Int32) (u : Int64) (v : Int64) (hs : shp R C) (hC4 : C ≤ 4) (hn1 : ng u) (hn2 : ng v) (o_x : Int32) (hR : D_X9_isLess R C f1 f2 f3 i1 i2 i3 i4 u v = o_x) : CM κ l yX9_isLess cX9_isLess 5 (some .boolean) 1 21 0 0 [.ref s_0, .long u, .long v] (lA κ b_r (C * 5) f1 :: gO g_r C C b_r :: lA κ b_l (R * 5) f2 :: gO g_l R R b_l :: lA κ b_w (R * 5) f3 :: gO g_w R C b_w :: (s_0, .inr (10, [.ref g_w, .ref g_l, .ref g_r, .int i1, .int i2, .int i3, .int i4])) :: w) (fun o w' => o = some (.int o_x) ∧ (o_x = 0 ∧ (u = 0 ∨ ¬ v = 0 ∧ na v ≤ na u) ∨ o_x = 1 ∧ ¬ u = 0 ∧ (v = 0 ∨ na u < na v)) ∧ w' = lA κ b_r (C * 5) f1 :: gO g_r C C b_r :: lA κ b_l (R * 5) f2 :: gO g_l R R b_l :: lA κ b_w (R * 5) f3 :: gO g_w R C b_w :: (s_0, .inr (10, [.ref g_w, .ref g_l, .ref g_r, .int i1, .int i2, .int i3, .int i4])) :: w) := by
  have hs0 := hs
  obtain ⟨hs1, hs2, hs3, hs4⟩ := hs0
  refine CM_begin (plainFor_of_name (by decide)) (Nat.le_of_ble_eq_true rfl) ?_
  intro p e s m args below meth c A Q hX hnm hA3 hQ hB ls hl
  have hx := hX.1.1
  have hb := hX.1.2.1
  have hl : lv_has ls 5 [(0, .ref s_0), (1, .long u), (3, .long v)] := hl
  replace hR := (D_X9_isLess_s).symm.trans hR
  refine lv_lload_n hx hb dX9_isLess_0 rfl (lv_at hl 2 rfl) ?_
  refine lv_lconst (v := 0) hx hb dX9_isLess_1 (by decide) ?_
  refine W.lcmp hx hb dX9_isLess_2 ?_
  refine lv_if_ne (tgt := 20) hx hb dX9_isLess_3 (by decide) (fun c1 => ?_) (fun c1 => ?_)
  · replace hR := ifn c1 hR
    refine lv_lload_n hx hb dX9_isLess_20 rfl (lv_at hl 1 rfl) ?_
    refine lv_lconst (v := 0) hx hb dX9_isLess_21 (by decide) ?_
    refine W.lcmp hx hb dX9_isLess_22 ?_
    refine lv_if_eq (tgt := 42) hx hb dX9_isLess_23 (by decide) (fun c2 => ?_) (fun c2 => ?_)
    · replace hR := ifp c2 hR
      refine lv_iconst (v := 0) hx hb dX9_isLess_42 (by decide) ?_
      rw [← hQ]
      exact end_i hX hB hA3 rfl rfl (by obtain rfl := hR; exact ⟨rfl, (by first | exact il_1 hn1 hn2 (by assumption) (by assumption) (by assumption) (by assumption) (by assumption) | exact il_2 (by assumption) (by assumption) | exact il_3 (by assumption) (by assumption) | exact il_4 (by assumption) (by assumption) | exact il_5 hn1 hn2 (by assumption) (by assumption) (by assumption) (by assumption) (by assumption)), rfl⟩) (Nat.le_of_ble_eq_true rfl) (Nat.le_of_ble_eq_true rfl) dX9_isLess_43
    · replace hR := ifn c2 hR
      refine lv_lload_n hx hb dX9_isLess_26 rfl (lv_at hl 1 rfl) ?_
      refine va_mabs_long hx hb (by rw [hX.1.2.2.1]; exact hl.1.symm) hX.1.2.2.2.1 (hX.1.2.2.2.2 _ wm_6_193) (hX.1.2.2.2.2 _ wm_1_237) (hX.1.2.2.2.2 _ wm_1_14) (hX.1.2.2.2.2 _ wm_1_238) (Nat.le_of_ble_eq_true rfl) (Nat.le_of_ble_eq_true rfl) (Nat.le_of_ble_eq_true rfl) (Nat.le_of_ble_eq_true rfl) dX9_isLess_27 ?_
      refine lv_topl (fun t3 et3 => ?_)
      replace hR := nm_use et3 hR
      refine lv_lload_n hx hb dX9_isLess_30 rfl (lv_at hl 2 rfl) ?_
      refine va_mabs_long hx hb (by rw [hX.1.2.2.1]; exact hl.1.symm) hX.1.2.2.2.1 (hX.1.2.2.2.2 _ wm_6_193) (hX.1.2.2.2.2 _ wm_1_237) (hX.1.2.2.2.2 _ wm_1_14) (hX.1.2.2.2.2 _ wm_1_238) (Nat.le_of_ble_eq_true rfl) (Nat.le_of_ble_eq_true rfl) (Nat.le_of_ble_eq_true rfl) (Nat.le_of_ble_eq_true rfl) dX9_isLess_31 ?_
      refine lv_topl (fun t4 et4 => ?_)
      replace hR := nm_use et4 hR
      refine W.lcmp hx hb dX9_isLess_34 ?_
      refine lv_if_ge (tgt := 42) hx hb dX9_isLess_35 (by decide) (fun c5 => ?_) (fun c5 => ?_)
      · replace hR := ifp c5 hR
        refine lv_iconst (v := 0) hx hb dX9_isLess_42 (by decide) ?_
        rw [← hQ]
        exact end_i hX hB hA3 rfl rfl (by obtain rfl := hR; exact ⟨rfl, (by first | exact il_1 hn1 hn2 (by assumption) (by assumption) (by assumption) (by assumption) (by assumption) | exact il_2 (by assumption) (by assumption) | exact il_3 (by assumption) (by assumption) | exact il_4 (by assumption) (by assumption) | exact il_5 hn1 hn2 (by assumption) (by assumption) (by assumption) (by assumption) (by assumption)), rfl⟩) (Nat.le_of_ble_eq_true rfl) (Nat.le_of_ble_eq_true rfl) dX9_isLess_43
      · replace hR := ifn c5 hR
        refine lv_iconst (v := 1) hx hb dX9_isLess_38 (by decide) ?_
        refine lv_goto (tgt := 43) hx hb dX9_isLess_39 (by decide) ?_
        rw [← hQ]
        exact end_i hX hB hA3 rfl rfl (by obtain rfl := hR; exact ⟨rfl, (by first | exact il_1 hn1 hn2 (by assumption) (by assumption) (by assumption) (by assumption) (by assumption) | exact il_2 (by assumption) (by assumption) | exact il_3 (by assumption) (by assumption) | exact il_4 (by assumption) (by assumption) | exact il_5 hn1 hn2 (by assumption) (by assumption) (by assumption) (by assumption) (by assumption)), rfl⟩) (Nat.le_of_ble_eq_true rfl) (Nat.le_of_ble_eq_true rfl) dX9_isLess_43
  · replace hR := ifp c1 hR
    refine lv_lload_n hx hb dX9_isLess_6 rfl (lv_at hl 1 rfl) ?_
    refine lv_lconst (v := 0) hx hb dX9_isLess_7 (by decide) ?_
    refine W.lcmp hx hb dX9_isLess_8 ?_
    refine lv_if_eq (tgt := 16) hx hb dX9_isLess_9 (by decide) (fun c6 => ?_) (fun c6 => ?_)
    · replace hR := ifp c6 hR
      refine lv_iconst (v := 0) hx hb dX9_isLess_16 (by decide) ?_
      refine lv_goto (tgt := 43) hx hb dX9_isLess_17 (by decide) ?_
      rw [← hQ]
      exact end_i hX hB hA3 rfl rfl (by obtain rfl := hR; exact ⟨rfl, (by first | exact il_1 hn1 hn2 (by assumption) (by assumption) (by assumption) (by assumption) (by assumption) | exact il_2 (by assumption) (by assumption) | exact il_3 (by assumption) (by assumption) | exact il_4 (by assumption) (by assumption) | exact il_5 hn1 hn2 (by assumption) (by assumption) (by assumption) (by assumption) (by assumption)), rfl⟩) (Nat.le_of_ble_eq_true rfl) (Nat.le_of_ble_eq_true rfl) dX9_isLess_43
    · replace hR := ifn c6 hR
      refine lv_iconst (v := 1) hx hb dX9_isLess_12 (by decide) ?_
      refine lv_goto (tgt := 43) hx hb dX9_isLess_13 (by decide) ?_
      rw [← hQ]
      exact end_i hX hB hA3 rfl rfl (by obtain rfl := hR; exact ⟨rfl, (by first | exact il_1 hn1 hn2 (by assumption) (by assumption) (by assumption) (by assumption) (by assumption) | exact il_2 (by assumption) (by assumption) | exact il_3 (by assumption) (by assumption) | exact il_4 (by assumption) (by assumption) | exact il_5 hn1 hn2 (by assumption) (by assumption) (by assumption) (by assumption) (by assumption)), rfl⟩) (Nat.le_of_ble_eq_true rfl) (Nat.le_of_ble_eq_true rfl) dX9_isLess_43
noncomputable def D_X9_look (R : Nat) (C : Nat) (f1 : Nat → Int64) (f2 : Nat → Int64) (f3 : Nat → Int64) (i1 : Int32) (i2 : Int32) (i3 : Int32) (i4 : Int32) : Int32 := bnd1 (D_X7_isGreat R C f3) (fun (x1 : Int32) => (if x1 = 0 then bnd1 (D_X7_isGreat R R f2) (fun (x6 : Int32) => (if x6 = 0 then bnd1 (D_X7_isGreat C C f1) (fun (x11 : Int32) => (if x11 = 0 then i4 ||| 0 else i4 ||| 1)) else i4 ||| 1)) else i4 ||| 1))
theorem D_X9_look_s {R : Nat} {C : Nat} {f1 : Nat → Int64} {f2 : Nat → Int64} {f3 : Nat → Int64} {i1 : Int32} {i2 : Int32} {i3 : Int32} {i4 : Int32} : D_X9_look R C f1 f2 f3 i1 i2 i3 i4 = bnd1 (D_X7_isGreat R C f3) (fun (x1 : Int32) => (if x1 = 0 then bnd1 (D_X7_isGreat R R f2) (fun (x6 : Int32) => (if x6 = 0 then bnd1 (D_X7_isGreat C C f1) (fun (x11 : Int32) => (if x11 = 0 then i4 ||| 0 else i4 ||| 1)) else i4 ||| 1)) else i4 ||| 1)) := rfl
set_option maxHeartbeats 4000000 in
set_option maxRecDepth 100000 in
theorem k_X9_look (κ : Kt) (l : Launch) (w : va_W) (s_0 g_r b_r g_l b_l g_w b_w R C : Nat) (f1 f2 f3 : Nat → Int64) (i1 i2 i3 i4 : Int32) (hs : shp R C) (hC4 : C ≤ 4) (hgb : i4 = 0 ∨ i4 = 1) (o_G1 : Int32) (hR : D_X9_look R C f1 f2 f3 i1 i2 i3 i4 = o_G1) : CM κ l yX9_look cX9_look 1 (none) 1 25 0 0 [.ref s_0] (lA κ b_r (C * 5) f1 :: gO g_r C C b_r :: lA κ b_l (R * 5) f2 :: gO g_l R R b_l :: lA κ b_w (R * 5) f3 :: gO g_w R C b_w :: (s_0, .inr (10, [.ref g_w, .ref g_l, .ref g_r, .int i1, .int i2, .int i3, .int i4])) :: w) (fun o w' => o = none ∧ (o_G1 = 0 ∨ o_G1 = 1) ∧ (o_G1 = 0 → i4 = 0 ∧ ∀ k, k < R * 5 → ng (f3 k)) ∧ w' = lA κ b_r (C * 5) f1 :: gO g_r C C b_r :: lA κ b_l (R * 5) f2 :: gO g_l R R b_l :: lA κ b_w (R * 5) f3 :: gO g_w R C b_w :: (s_0, .inr (10, [.ref g_w, .ref g_l, .ref g_r, .int i1, .int i2, .int i3, .int o_G1])) :: w) := by
  have hs0 := hs
  obtain ⟨hs1, hs2, hs3, hs4⟩ := hs0
  refine CM_begin (plainFor_of_name (by decide)) (Nat.le_of_ble_eq_true rfl) ?_
  intro p e s m args below meth c A Q hX hnm hA3 hQ hB ls hl
  have hx := hX.1.1
  have hb := hX.1.2.1
  have hl : lv_has ls 1 [(0, .ref s_0)] := hl
  replace hR := (D_X9_look_s).symm.trans hR
  refine lv_aload_n hx hb dX9_look_0 rfl (lv_at hl 0 rfl) ?_
  refine lv_dup hx hb dX9_look_1 rfl ?_
  refine gf (k0 := 6) hX hB rfl rfl in9 6 (by decide) wm_6_233 rfl rfl dX9_look_2 ?_
  refine lv_aload_n hx hb dX9_look_5 rfl (lv_at hl 0 rfl) ?_
  refine gf (k0 := 6) hX hB rfl rfl in9 0 (by decide) wm_6_221 rfl rfl dX9_look_6 ?_
  obtain ⟨x1, hd2⟩ := ex1 (D_X7_isGreat R C f3)
  replace hR := bnd1_use hd2 hR
  refine call_V (n := 0) (k0 := 5) (As := []) (rest := [.int i4, .ref s_0]) hX hB (k_X7_isGreat κ l (lA κ b_r (C * 5) f1 :: gO g_r C C b_r :: lA κ b_l (R * 5) f2 :: gO g_l R R b_l :: lA κ b_w (R * 5) f3 :: gO g_w R C b_w :: (s_0, .inr (10, [.ref g_w, .ref g_l, .ref g_r, .int i1, .int i2, .int i3, .int i4])) :: w) 5 4 g_w b_w R C f3 rfl rfl hs x1 hd2) ⟨rfl, by decide, by decide, by decide +kernel⟩ wm_6_211 wm_6_154 wm_6_155 wm_1_7 wm_6_156 ⟨Nat.le_of_ble_eq_true rfl, Nat.le_of_ble_eq_true rfl⟩ ⟨Nat.le_of_ble_eq_true rfl, Nat.le_of_ble_eq_true rfl⟩ rfl rfl rfl rfl hl.1 rfl (Nat.le_of_ble_eq_true rfl) dX9_look_9 (fun o w' H locs hp hB => ?_)
  obtain ⟨rfl, hf3, hf4, hw9⟩ := hp
  replace hB : Bd κ A s (lA κ b_r (C * 5) f1 :: gO g_r C C b_r :: lA κ b_l (R * 5) f2 :: gO g_l R R b_l :: lA κ b_w (R * 5) f3 :: gO g_w R C b_w :: (s_0, .inr (10, [.ref g_w, .ref g_l, .ref g_r, .int i1, .int i2, .int i3, .int i4])) :: w) H locs := by rw [hw9] at hB; exact hB
  rcases hf3 with rfl | rfl
  · replace hR := ifp rfl hR
    refine W.eq (g2 := F0 m 12 ls [.int 0, .int i4, .ref s_0]) rfl ?_
    refine lv_if_ne (tgt := 35) hx hb dX9_look_12 (by decide) (fun c5 => False.elim (by revert c5; decide)) (fun _ => ?_)
    refine lv_aload_n hx hb dX9_look_15 rfl (lv_at hl 0 rfl) ?_
    refine gf (k0 := 6) hX hB rfl rfl in9 1 (by decide) wm_6_223 rfl rfl dX9_look_16 ?_
    obtain ⟨x6, hd7⟩ := ex1 (D_X7_isGreat R R f2)
    replace hR := bnd1_use hd7 hR
    refine call_V (n := 0) (k0 := 3) (As := []) (rest := [.int i4, .ref s_0]) hX hB (k_X7_isGreat κ l (lA κ b_r (C * 5) f1 :: gO g_r C C b_r :: lA κ b_l (R * 5) f2 :: gO g_l R R b_l :: lA κ b_w (R * 5) f3 :: gO g_w R C b_w :: (s_0, .inr (10, [.ref g_w, .ref g_l, .ref g_r, .int i1, .int i2, .int i3, .int i4])) :: w) 3 2 g_l b_l R R f2 rfl rfl ⟨by omega, by omega, by omega, by omega⟩ x6 hd7) ⟨rfl, by decide, by decide, by decide +kernel⟩ wm_6_211 wm_6_154 wm_6_155 wm_1_7 wm_6_156 ⟨Nat.le_of_ble_eq_true rfl, Nat.le_of_ble_eq_true rfl⟩ ⟨Nat.le_of_ble_eq_true rfl, Nat.le_of_ble_eq_true rfl⟩ rfl rfl rfl rfl hl.1 rfl (Nat.le_of_ble_eq_true rfl) dX9_look_19 (fun o w' H locs hp hB => ?_)
    obtain ⟨rfl, hf8, hf9, hw9⟩ := hp
    replace hB : Bd κ A s (lA κ b_r (C * 5) f1 :: gO g_r C C b_r :: lA κ b_l (R * 5) f2 :: gO g_l R R b_l :: lA κ b_w (R * 5) f3 :: gO g_w R C b_w :: (s_0, .inr (10, [.ref g_w, .ref g_l, .ref g_r, .int i1, .int i2, .int i3, .int i4])) :: w) H locs := by rw [hw9] at hB; exact hB
    rcases hf8 with rfl | rfl
    · replace hR := ifp rfl hR
      refine W.eq (g2 := F0 m 22 ls [.int 0, .int i4, .ref s_0]) rfl ?_
      refine lv_if_ne (tgt := 35) hx hb dX9_look_22 (by decide) (fun c10 => False.elim (by revert c10; decide)) (fun _ => ?_)
      refine lv_aload_n hx hb dX9_look_25 rfl (lv_at hl 0 rfl) ?_
      refine gf (k0 := 6) hX hB rfl rfl in9 2 (by decide) wm_6_225 rfl rfl dX9_look_26 ?_
      obtain ⟨x11, hd12⟩ := ex1 (D_X7_isGreat C C f1)
      replace hR := bnd1_use hd12 hR
      refine call_V (n := 0) (k0 := 1) (As := []) (rest := [.int i4, .ref s_0]) hX hB (k_X7_isGreat κ l (lA κ b_r (C * 5) f1 :: gO g_r C C b_r :: lA κ b_l (R * 5) f2 :: gO g_l R R b_l :: lA κ b_w (R * 5) f3 :: gO g_w R C b_w :: (s_0, .inr (10, [.ref g_w, .ref g_l, .ref g_r, .int i1, .int i2, .int i3, .int i4])) :: w) 1 0 g_r b_r C C f1 rfl rfl ⟨by omega, by omega, by omega, by omega⟩ x11 hd12) ⟨rfl, by decide, by decide, by decide +kernel⟩ wm_6_211 wm_6_154 wm_6_155 wm_1_7 wm_6_156 ⟨Nat.le_of_ble_eq_true rfl, Nat.le_of_ble_eq_true rfl⟩ ⟨Nat.le_of_ble_eq_true rfl, Nat.le_of_ble_eq_true rfl⟩ rfl rfl rfl rfl hl.1 rfl (Nat.le_of_ble_eq_true rfl) dX9_look_29 (fun o w' H locs hp hB => ?_)
      obtain ⟨rfl, hf13, hf14, hw9⟩ := hp
      replace hB : Bd κ A s (lA κ b_r (C * 5) f1 :: gO g_r C C b_r :: lA κ b_l (R * 5) f2 :: gO g_l R R b_l :: lA κ b_w (R * 5) f3 :: gO g_w R C b_w :: (s_0, .inr (10, [.ref g_w, .ref g_l, .ref g_r, .int i1, .int i2, .int i3, .int i4])) :: w) H locs := by rw [hw9] at hB; exact hB
      rcases hf13 with rfl | rfl
      · replace hR := ifp rfl hR
        refine W.eq (g2 := F0 m 32 ls [.int 0, .int i4, .ref s_0]) rfl ?_
        refine lv_if_eq (tgt := 39) hx hb dX9_look_32 (by decide) (fun _ => ?_) (fun c15 => False.elim (by revert c15; decide))
        refine lv_iconst (v := 0) hx hb dX9_look_39 (by decide) ?_
        refine lv_ior hx hb dX9_look_40 ?_
        refine pf (ty := .boolean) (k0 := 6) hX hB rfl rfl in9 tyX9_ok nmX9 6 (by decide) wm_6_233 rfl rfl rfl (nbz (by first | exact or_b1 hgb | exact or_b0 hgb)) (fitz (by first | exact or_b1 hgb | exact or_b0 hgb)) (Nat.le_of_ble_eq_true rfl) (w1 := lA κ b_r (C * 5) f1 :: gO g_r C C b_r :: lA κ b_l (R * 5) f2 :: gO g_l R R b_l :: lA κ b_w (R * 5) f3 :: gO g_w R C b_w :: (s_0, .inr (10, [.ref g_w, .ref g_l, .ref g_r, .int i1, .int i2, .int i3, .int (i4 ||| 0)])) :: w) rfl dX9_look_41 (fun H locs hB => ?_)
        rw [← hQ]
        exact end_v hX hB hA3 rfl (by obtain rfl := hR; exact ⟨rfl, (by first | exact or_b1 hgb | exact or_b0 hgb), (fun h => ⟨(or_z h), hf4 rfl⟩), rfl⟩) (Nat.le_of_ble_eq_true rfl) (Nat.le_of_ble_eq_true rfl) dX9_look_44
      · replace hR := ifn (by decide) hR
        refine W.eq (g2 := F0 m 32 ls [.int 1, .int i4, .ref s_0]) rfl ?_
        refine lv_if_eq (tgt := 39) hx hb dX9_look_32 (by decide) (fun c16 => False.elim (by revert c16; decide)) (fun _ => ?_)
        refine lv_iconst (v := 1) hx hb dX9_look_35 (by decide) ?_
        refine lv_goto (tgt := 40) hx hb dX9_look_36 (by decide) ?_
        refine lv_ior hx hb dX9_look_40 ?_
        refine pf (ty := .boolean) (k0 := 6) hX hB rfl rfl in9 tyX9_ok nmX9 6 (by decide) wm_6_233 rfl rfl rfl (nbz (by first | exact or_b1 hgb | exact or_b0 hgb)) (fitz (by first | exact or_b1 hgb | exact or_b0 hgb)) (Nat.le_of_ble_eq_true rfl) (w1 := lA κ b_r (C * 5) f1 :: gO g_r C C b_r :: lA κ b_l (R * 5) f2 :: gO g_l R R b_l :: lA κ b_w (R * 5) f3 :: gO g_w R C b_w :: (s_0, .inr (10, [.ref g_w, .ref g_l, .ref g_r, .int i1, .int i2, .int i3, .int (i4 ||| 1)])) :: w) rfl dX9_look_41 (fun H locs hB => ?_)
        rw [← hQ]
        exact end_v hX hB hA3 rfl (by obtain rfl := hR; exact ⟨rfl, (by first | exact or_b1 hgb | exact or_b0 hgb), (fun h => absurd h (or1 _)), rfl⟩) (Nat.le_of_ble_eq_true rfl) (Nat.le_of_ble_eq_true rfl) dX9_look_44
    · replace hR := ifn (by decide) hR
      refine W.eq (g2 := F0 m 22 ls [.int 1, .int i4, .ref s_0]) rfl ?_
      refine lv_if_ne (tgt := 35) hx hb dX9_look_22 (by decide) (fun _ => ?_) (fun c17 => False.elim (by revert c17; decide))
      refine lv_iconst (v := 1) hx hb dX9_look_35 (by decide) ?_
      refine lv_goto (tgt := 40) hx hb dX9_look_36 (by decide) ?_
      refine lv_ior hx hb dX9_look_40 ?_
      refine pf (ty := .boolean) (k0 := 6) hX hB rfl rfl in9 tyX9_ok nmX9 6 (by decide) wm_6_233 rfl rfl rfl (nbz (by first | exact or_b1 hgb | exact or_b0 hgb)) (fitz (by first | exact or_b1 hgb | exact or_b0 hgb)) (Nat.le_of_ble_eq_true rfl) (w1 := lA κ b_r (C * 5) f1 :: gO g_r C C b_r :: lA κ b_l (R * 5) f2 :: gO g_l R R b_l :: lA κ b_w (R * 5) f3 :: gO g_w R C b_w :: (s_0, .inr (10, [.ref g_w, .ref g_l, .ref g_r, .int i1, .int i2, .int i3, .int (i4 ||| 1)])) :: w) rfl dX9_look_41 (fun H locs hB => ?_)
      rw [← hQ]
      exact end_v hX hB hA3 rfl (by obtain rfl := hR; exact ⟨rfl, (by first | exact or_b1 hgb | exact or_b0 hgb), (fun h => absurd h (or1 _)), rfl⟩) (Nat.le_of_ble_eq_true rfl) (Nat.le_of_ble_eq_true rfl) dX9_look_44
  · replace hR := ifn (by decide) hR
    refine W.eq (g2 := F0 m 12 ls [.int 1, .int i4, .ref s_0]) rfl ?_
    refine lv_if_ne (tgt := 35) hx hb dX9_look_12 (by decide) (fun _ => ?_) (fun c18 => False.elim (by revert c18; decide))
    refine lv_iconst (v := 1) hx hb dX9_look_35 (by decide) ?_
    refine lv_goto (tgt := 40) hx hb dX9_look_36 (by decide) ?_
    refine lv_ior hx hb dX9_look_40 ?_
    refine pf (ty := .boolean) (k0 := 6) hX hB rfl rfl in9 tyX9_ok nmX9 6 (by decide) wm_6_233 rfl rfl rfl (nbz (by first | exact or_b1 hgb | exact or_b0 hgb)) (fitz (by first | exact or_b1 hgb | exact or_b0 hgb)) (Nat.le_of_ble_eq_true rfl) (w1 := lA κ b_r (C * 5) f1 :: gO g_r C C b_r :: lA κ b_l (R * 5) f2 :: gO g_l R R b_l :: lA κ b_w (R * 5) f3 :: gO g_w R C b_w :: (s_0, .inr (10, [.ref g_w, .ref g_l, .ref g_r, .int i1, .int i2, .int i3, .int (i4 ||| 1)])) :: w) rfl dX9_look_41 (fun H locs hB => ?_)
    rw [← hQ]
    exact end_v hX hB hA3 rfl (by obtain rfl := hR; exact ⟨rfl, (by first | exact or_b1 hgb | exact or_b0 hgb), (fun h => absurd h (or1 _)), rfl⟩) (Nat.le_of_ble_eq_true rfl) (Nat.le_of_ble_eq_true rfl) dX9_look_44
noncomputable def D_X9_bring_j64 (R : Nat) (C : Nat) (t : Nat) (f2_32 : Nat → Int64) (i1_32 : Int32) (f1_64 : Nat → Int64) (f3_64 : Nat → Int64) (i2_64 : Int32) : (Nat → Int64) × (Nat → Int64) × (Nat → Int64) × Int32 × Int32 := (if 0 ≤ (lg_cmp (f3_64 (t * 5 + t)) 0) then (f1_64, f2_32, f3_64, i1_32, i2_64) else (f1_64, tr R t f2_32, tr C t f3_64, -i1_32, i2_64))
theorem D_X9_bring_j64_s {R : Nat} {C : Nat} {t : Nat} {f2_32 : Nat → Int64} {i1_32 : Int32} {f1_64 : Nat → Int64} {f3_64 : Nat → Int64} {i2_64 : Int32} : D_X9_bring_j64 R C t f2_32 i1_32 f1_64 f3_64 i2_64 = (if 0 ≤ (lg_cmp (f3_64 (t * 5 + t)) 0) then (f1_64, f2_32, f3_64, i1_32, i2_64) else (f1_64, tr R t f2_32, tr C t f3_64, -i1_32, i2_64)) := rfl
noncomputable def D_X9_bring_j32 (R : Nat) (C : Nat) (f1 : Nat → Int64) (i2 : Int32) (t : Nat) (c0 : Nat) (f2_32 : Nat → Int64) (f3_32 : Nat → Int64) (i1_32 : Int32) : (Nat → Int64) × (Nat → Int64) × (Nat → Int64) × Int32 × Int32 := (if c0 = t then (D_X9_bring_j64 R C t f2_32 i1_32 f1 f3_32 i2) else (D_X9_bring_j64 R C t f2_32 i1_32 (xc C c0 t f1) (xc R c0 t f3_32) (-i2)))
theorem D_X9_bring_j32_s {R : Nat} {C : Nat} {f1 : Nat → Int64} {i2 : Int32} {t : Nat} {c0 : Nat} {f2_32 : Nat → Int64} {f3_32 : Nat → Int64} {i1_32 : Int32} : D_X9_bring_j32 R C f1 i2 t c0 f2_32 f3_32 i1_32 = (if c0 = t then (D_X9_bring_j64 R C t f2_32 i1_32 f1 f3_32 i2) else (D_X9_bring_j64 R C t f2_32 i1_32 (xc C c0 t f1) (xc R c0 t f3_32) (-i2))) := rfl
noncomputable def D_X9_bring (R : Nat) (C : Nat) (f1 : Nat → Int64) (f2 : Nat → Int64) (f3 : Nat → Int64) (i1 : Int32) (i2 : Int32) (i3 : Int32) (i4 : Int32) (t : Nat) (r : Nat) (c0 : Nat) : (Nat → Int64) × (Nat → Int64) × (Nat → Int64) × Int32 × Int32 := (if r = t then (D_X9_bring_j32 R C f1 i2 t c0 f2 f3 i1) else (D_X9_bring_j32 R C f1 i2 t c0 (xr R r t f2) (xr C r t f3) (-i1)))
theorem D_X9_bring_s {R : Nat} {C : Nat} {f1 : Nat → Int64} {f2 : Nat → Int64} {f3 : Nat → Int64} {i1 : Int32} {i2 : Int32} {i3 : Int32} {i4 : Int32} {t : Nat} {r : Nat} {c0 : Nat} : D_X9_bring R C f1 f2 f3 i1 i2 i3 i4 t r c0 = (if r = t then (D_X9_bring_j32 R C f1 i2 t c0 f2 f3 i1) else (D_X9_bring_j32 R C f1 i2 t c0 (xr R r t f2) (xr C r t f3) (-i1))) := rfl
set_option maxHeartbeats 4000000 in
set_option maxRecDepth 100000 in
theorem k_X9_bring (κ : Kt) (l : Launch) (w : va_W) (s_0 g_r b_r g_l b_l g_w b_w R C : Nat) (f1 f2 f3 : Nat → Int64) (i1 i2 i3 i4 : Int32) (xt : Int32) (t : Nat) (xr : Int32) (r : Nat) (xc0 : Int32) (c0 : Nat) (hs : shp R C) (hC4 : C ≤ 4) (hxt : xt = nI t) (hxr : xr = nI r) (hxc0 : xc0 = nI c0) (ht : t ≤ r ∧ r < R ∧ t ≤ c0 ∧ c0 < C) (hng : ∀ k, k < R * 5 → ng (f3 k)) (hnz : ¬ f3 (r * 5 + c0) = 0) (o_F1 : Nat → Int64) (o_F2 : Nat → Int64) (o_F3 : Nat → Int64) (o_S1 : Int32) (o_S2 : Int32) (hR : D_X9_bring R C f1 f2 f3 i1 i2 i3 i4 t r c0 = (o_F1, o_F2, o_F3, o_S1, o_S2)) : CM κ l yX9_bring cX9_bring 4 (none) 2 49 0 0 [.ref s_0, .int xt, .int xr, .int xc0] (lA κ b_r (C * 5) f1 :: gO g_r C C b_r :: lA κ b_l (R * 5) f2 :: gO g_l R R b_l :: lA κ b_w (R * 5) f3 :: gO g_w R C b_w :: (s_0, .inr (10, [.ref g_w, .ref g_l, .ref g_r, .int i1, .int i2, .int i3, .int i4])) :: w) (fun o w' => o = none ∧ (BRf R t r c0 f3 o_F3) ∧ w' = lA κ b_r (C * 5) o_F1 :: gO g_r C C b_r :: lA κ b_l (R * 5) o_F2 :: gO g_l R R b_l :: lA κ b_w (R * 5) o_F3 :: gO g_w R C b_w :: (s_0, .inr (10, [.ref g_w, .ref g_l, .ref g_r, .int o_S1, .int o_S2, .int i3, .int i4])) :: w) := by
  have hs0 := hs
  obtain ⟨hs1, hs2, hs3, hs4⟩ := hs0
  subst hxt
  subst hxr
  subst hxc0
  refine CM_begin (plainFor_of_name (by decide)) (Nat.le_of_ble_eq_true rfl) ?_
  intro p e s m args below meth c A Q hX hnm hA3 hQ hB ls hl
  have hx := hX.1.1
  have hb := hX.1.2.1
  have hl : lv_has ls 4 [(0, .ref s_0), (1, .int (nI t)), (2, .int (nI r)), (3, .int (nI c0))] := hl
  obtain ⟨ht1, ht2, ht3, ht4⟩ := ht
  replace hR := (D_X9_bring_s).symm.trans hR
  refine lv_iload_n hx hb dX9_bring_0 rfl (lv_at hl 2 rfl) ?_
  refine lv_iload_n hx hb dX9_bring_1 rfl (lv_at hl 1 rfl) ?_
  have jn32 : ∀ (f2_32 : Nat → Int64) (f3_32 : Nat → Int64) (i1_32 : Int32) (H : Heap) (locs : List Loc), (B1f R C t r f3 f3_32) → D_X9_bring_j32 R C f1 i2 t c0 f2_32 f3_32 i1_32 = (o_F1, o_F2, o_F3, o_S1, o_S2) → Bd κ A s (lA κ b_r (C * 5) f1 :: gO g_r C C b_r :: lA κ b_l (R * 5) f2_32 :: gO g_l R R b_l :: lA κ b_w (R * 5) f3_32 :: gO g_w R C b_w :: (s_0, .inr (10, [.ref g_w, .ref g_l, .ref g_r, .int i1_32, .int i2, .int i3, .int i4])) :: w) H locs → ∀ ls : Array Slot, lv_has ls 4 [(0, .ref s_0), (1, .int (nI t)), (2, .int (nI r)), (3, .int (nI c0))] → W p l e (Rm 2 49 0 0) s m args below meth c H locs (0) (0) Q (F0 m 32 ls []) := by
    intro f2_32 f3_32 i1_32 H locs hB1 hR hB ls hl
    replace hR := (D_X9_bring_j32_s).symm.trans hR
    refine lv_iload_n hx hb dX9_bring_32 rfl (lv_at hl 3 rfl) ?_
    refine lv_iload_n hx hb dX9_bring_33 rfl (lv_at hl 1 rfl) ?_
    have jn64 : ∀ (f1_64 : Nat → Int64) (f3_64 : Nat → Int64) (i2_64 : Int32) (H : Heap) (locs : List Loc), (B2f R t r c0 f3 f3_64) → D_X9_bring_j64 R C t f2_32 i1_32 f1_64 f3_64 i2_64 = (o_F1, o_F2, o_F3, o_S1, o_S2) → Bd κ A s (lA κ b_r (C * 5) f1_64 :: gO g_r C C b_r :: lA κ b_l (R * 5) f2_32 :: gO g_l R R b_l :: lA κ b_w (R * 5) f3_64 :: gO g_w R C b_w :: (s_0, .inr (10, [.ref g_w, .ref g_l, .ref g_r, .int i1_32, .int i2_64, .int i3, .int i4])) :: w) H locs → ∀ ls : Array Slot, lv_has ls 4 [(0, .ref s_0), (1, .int (nI t)), (2, .int (nI r)), (3, .int (nI c0))] → W p l e (Rm 2 49 0 0) s m args below meth c H locs (0) (0) Q (F0 m 64 ls []) := by
      intro f1_64 f3_64 i2_64 H locs hB2 hR hB ls hl
      replace hR := (D_X9_bring_j64_s).symm.trans hR
      refine lv_aload_n hx hb dX9_bring_64 rfl (lv_at hl 0 rfl) ?_
      refine gf (k0 := 6) hX hB rfl rfl in9 0 (by decide) wm_6_221 rfl rfl dX9_bring_65 ?_
      refine lv_iload_n hx hb dX9_bring_68 rfl (lv_at hl 1 rfl) ?_
      refine lv_iload_n hx hb dX9_bring_69 rfl (lv_at hl 1 rfl) ?_
      refine call_V (n := 2) (k0 := 5) (As := [.int (nI t), .int (nI t)]) (rest := []) hX hB (k_X7_at κ l (lA κ b_r (C * 5) f1_64 :: gO g_r C C b_r :: lA κ b_l (R * 5) f2_32 :: gO g_l R R b_l :: lA κ b_w (R * 5) f3_64 :: gO g_w R C b_w :: (s_0, .inr (10, [.ref g_w, .ref g_l, .ref g_r, .int i1_32, .int i2_64, .int i3, .int i4])) :: w) 5 4 g_w b_w R C f3_64 (nI t) t (nI t) t rfl rfl hs rfl rfl (by omega)) ⟨rfl, by decide, by decide, by decide +kernel⟩ wm_6_188 wm_5_238 wm_5_239 wm_1_7 wm_6_0 ⟨Nat.le_of_ble_eq_true rfl, Nat.le_of_ble_eq_true rfl⟩ ⟨Nat.le_of_ble_eq_true rfl, Nat.le_of_ble_eq_true rfl⟩ rfl rfl rfl rfl hl.1 rfl (Nat.le_of_ble_eq_true rfl) dX9_bring_70 (fun o w' H locs hp hB => ?_)
      obtain ⟨rfl, hw9⟩ := hp
      replace hB : Bd κ A s (lA κ b_r (C * 5) f1_64 :: gO g_r C C b_r :: lA κ b_l (R * 5) f2_32 :: gO g_l R R b_l :: lA κ b_w (R * 5) f3_64 :: gO g_w R C b_w :: (s_0, .inr (10, [.ref g_w, .ref g_l, .ref g_r, .int i1_32, .int i2_64, .int i3, .int i4])) :: w) H locs := by rw [hw9] at hB; exact hB
      refine W.eq (g2 := F0 m 73 ls [.long (f3_64 (t * 5 + t))]) rfl ?_
      refine lv_lconst (v := 0) hx hb dX9_bring_73 (by decide) ?_
      refine W.lcmp hx hb dX9_bring_74 ?_
      refine lv_if_ge (tgt := 103) hx hb dX9_bring_75 (by decide) (fun c3 => ?_) (fun c3 => ?_)
      · replace hR := ifp c3 hR
        rw [← hQ]
        exact end_v hX hB hA3 rfl (by obtain ⟨rfl, rfl, rfl, rfl, rfl⟩ := pr5 hR; exact ⟨rfl, (BR_0 hB2 hnz (by assumption)), rfl⟩) (Nat.le_of_ble_eq_true rfl) (Nat.le_of_ble_eq_true rfl) dX9_bring_103
      · replace hR := ifn c3 hR
        refine lv_aload_n hx hb dX9_bring_78 rfl (lv_at hl 0 rfl) ?_
        refine gf (k0 := 6) hX hB rfl rfl in9 0 (by decide) wm_6_221 rfl rfl dX9_bring_79 ?_
        refine lv_iload_n hx hb dX9_bring_82 rfl (lv_at hl 1 rfl) ?_
        refine call_V (n := 1) (k0 := 5) (As := [.int (nI t)]) (rest := []) hX hB (k_X7_turnRow κ l (lA κ b_r (C * 5) f1_64 :: gO g_r C C b_r :: lA κ b_l (R * 5) f2_32 :: gO g_l R R b_l :: lA κ b_w (R * 5) f3_64 :: gO g_w R C b_w :: (s_0, .inr (10, [.ref g_w, .ref g_l, .ref g_r, .int i1_32, .int i2_64, .int i3, .int i4])) :: w) 5 4 g_w b_w R C f3_64 (nI t) t rfl rfl hs rfl (by omega)) ⟨rfl, by decide, by decide, by decide +kernel⟩ wm_6_200 wm_6_68 wm_6_69 wm_1_7 wm_6_70 ⟨Nat.le_of_ble_eq_true rfl, Nat.le_of_ble_eq_true rfl⟩ ⟨Nat.le_of_ble_eq_true rfl, Nat.le_of_ble_eq_true rfl⟩ rfl rfl rfl rfl hl.1 rfl (Nat.le_of_ble_eq_true rfl) dX9_bring_83 (fun o w' H locs hp hB => ?_)
        obtain ⟨rfl, hw9⟩ := hp
        replace hB : Bd κ A s (lA κ b_r (C * 5) f1_64 :: gO g_r C C b_r :: lA κ b_l (R * 5) f2_32 :: gO g_l R R b_l :: lA κ b_w (R * 5) (tr C t f3_64) :: gO g_w R C b_w :: (s_0, .inr (10, [.ref g_w, .ref g_l, .ref g_r, .int i1_32, .int i2_64, .int i3, .int i4])) :: w) H locs := by rw [hw9] at hB; exact hB
        refine W.eq (g2 := F0 m 86 ls []) rfl ?_
        refine lv_aload_n hx hb dX9_bring_86 rfl (lv_at hl 0 rfl) ?_
        refine gf (k0 := 6) hX hB rfl rfl in9 1 (by decide) wm_6_223 rfl rfl dX9_bring_87 ?_
        refine lv_iload_n hx hb dX9_bring_90 rfl (lv_at hl 1 rfl) ?_
        refine call_V (n := 1) (k0 := 3) (As := [.int (nI t)]) (rest := []) hX hB (k_X7_turnRow κ l (lA κ b_r (C * 5) f1_64 :: gO g_r C C b_r :: lA κ b_l (R * 5) f2_32 :: gO g_l R R b_l :: lA κ b_w (R * 5) (tr C t f3_64) :: gO g_w R C b_w :: (s_0, .inr (10, [.ref g_w, .ref g_l, .ref g_r, .int i1_32, .int i2_64, .int i3, .int i4])) :: w) 3 2 g_l b_l R R f2_32 (nI t) t rfl rfl ⟨by omega, by omega, by omega, by omega⟩ rfl (by omega)) ⟨rfl, by decide, by decide, by decide +kernel⟩ wm_6_200 wm_6_68 wm_6_69 wm_1_7 wm_6_70 ⟨Nat.le_of_ble_eq_true rfl, Nat.le_of_ble_eq_true rfl⟩ ⟨Nat.le_of_ble_eq_true rfl, Nat.le_of_ble_eq_true rfl⟩ rfl rfl rfl rfl hl.1 rfl (Nat.le_of_ble_eq_true rfl) dX9_bring_91 (fun o w' H locs hp hB => ?_)
        obtain ⟨rfl, hw9⟩ := hp
        replace hB : Bd κ A s (lA κ b_r (C * 5) f1_64 :: gO g_r C C b_r :: lA κ b_l (R * 5) (tr R t f2_32) :: gO g_l R R b_l :: lA κ b_w (R * 5) (tr C t f3_64) :: gO g_w R C b_w :: (s_0, .inr (10, [.ref g_w, .ref g_l, .ref g_r, .int i1_32, .int i2_64, .int i3, .int i4])) :: w) H locs := by rw [hw9] at hB; exact hB
        refine W.eq (g2 := F0 m 94 ls []) rfl ?_
        refine lv_aload_n hx hb dX9_bring_94 rfl (lv_at hl 0 rfl) ?_
        refine lv_aload_n hx hb dX9_bring_95 rfl (lv_at hl 0 rfl) ?_
        refine gf (k0 := 6) hX hB rfl rfl in9 3 (by decide) wm_6_227 rfl rfl dX9_bring_96 ?_
        refine lv_ineg hx hb dX9_bring_99 ?_
        refine pf (ty := .int) (k0 := 6) hX hB rfl rfl in9 tyX9_ok nmX9 3 (by decide) wm_6_227 rfl rfl rfl rfl rfl (Nat.le_of_ble_eq_true rfl) (w1 := lA κ b_r (C * 5) f1_64 :: gO g_r C C b_r :: lA κ b_l (R * 5) (tr R t f2_32) :: gO g_l R R b_l :: lA κ b_w (R * 5) (tr C t f3_64) :: gO g_w R C b_w :: (s_0, .inr (10, [.ref g_w, .ref g_l, .ref g_r, .int (-i1_32), .int i2_64, .int i3, .int i4])) :: w) rfl dX9_bring_100 (fun H locs hB => ?_)
        rw [← hQ]
        exact end_v hX hB hA3 rfl (by obtain ⟨rfl, rfl, rfl, rfl, rfl⟩ := pr5 hR; exact ⟨rfl, (BR_1 hB2 (by omega) hs4 (by assumption)), rfl⟩) (Nat.le_of_ble_eq_true rfl) (Nat.le_of_ble_eq_true rfl) dX9_bring_103
    refine lv_icmp_eq (tgt := 64) hx hb dX9_bring_34 (by decide) (fun c4 => ?_) (fun c4 => ?_)
    · rw [neqP (a := c0) (b := t) (by omega) (by omega)] at c4
      replace hR := ifp c4 hR
      exact jn64 f1 f3_32 i2 _ _ (B2_0 hB1 (by omega) (by omega)) hR hB _ hl
    · rw [neqP (a := c0) (b := t) (by omega) (by omega)] at c4
      replace hR := ifn c4 hR
      refine lv_aload_n hx hb dX9_bring_37 rfl (lv_at hl 0 rfl) ?_
      refine gf (k0 := 6) hX hB rfl rfl in9 0 (by decide) wm_6_221 rfl rfl dX9_bring_38 ?_
      refine lv_iload_n hx hb dX9_bring_41 rfl (lv_at hl 3 rfl) ?_
      refine lv_iload_n hx hb dX9_bring_42 rfl (lv_at hl 1 rfl) ?_
      refine call_V (n := 2) (k0 := 5) (As := [.int (nI c0), .int (nI t)]) (rest := []) hX hB (k_X7_exchangeColumns κ l (lA κ b_r (C * 5) f1 :: gO g_r C C b_r :: lA κ b_l (R * 5) f2_32 :: gO g_l R R b_l :: lA κ b_w (R * 5) f3_32 :: gO g_w R C b_w :: (s_0, .inr (10, [.ref g_w, .ref g_l, .ref g_r, .int i1_32, .int i2, .int i3, .int i4])) :: w) 5 4 g_w b_w R C f3_32 (nI c0) c0 (nI t) t rfl rfl hs rfl rfl (by omega) (by omega)) ⟨rfl, by decide, by decide, by decide +kernel⟩ wm_6_199 wm_6_47 wm_6_48 wm_1_7 wm_6_49 ⟨Nat.le_of_ble_eq_true rfl, Nat.le_of_ble_eq_true rfl⟩ ⟨Nat.le_of_ble_eq_true rfl, Nat.le_of_ble_eq_true rfl⟩ rfl rfl rfl rfl hl.1 rfl (Nat.le_of_ble_eq_true rfl) dX9_bring_43 (fun o w' H locs hp hB => ?_)
      obtain ⟨rfl, hw9⟩ := hp
      replace hB : Bd κ A s (lA κ b_r (C * 5) f1 :: gO g_r C C b_r :: lA κ b_l (R * 5) f2_32 :: gO g_l R R b_l :: lA κ b_w (R * 5) (xc R c0 t f3_32) :: gO g_w R C b_w :: (s_0, .inr (10, [.ref g_w, .ref g_l, .ref g_r, .int i1_32, .int i2, .int i3, .int i4])) :: w) H locs := by rw [hw9] at hB; exact hB
      refine W.eq (g2 := F0 m 46 ls []) rfl ?_
      refine lv_aload_n hx hb dX9_bring_46 rfl (lv_at hl 0 rfl) ?_
      refine gf (k0 := 6) hX hB rfl rfl in9 2 (by decide) wm_6_225 rfl rfl dX9_bring_47 ?_
      refine lv_iload_n hx hb dX9_bring_50 rfl (lv_at hl 3 rfl) ?_
      refine lv_iload_n hx hb dX9_bring_51 rfl (lv_at hl 1 rfl) ?_
      refine call_V (n := 2) (k0 := 1) (As := [.int (nI c0), .int (nI t)]) (rest := []) hX hB (k_X7_exchangeColumns κ l (lA κ b_r (C * 5) f1 :: gO g_r C C b_r :: lA κ b_l (R * 5) f2_32 :: gO g_l R R b_l :: lA κ b_w (R * 5) (xc R c0 t f3_32) :: gO g_w R C b_w :: (s_0, .inr (10, [.ref g_w, .ref g_l, .ref g_r, .int i1_32, .int i2, .int i3, .int i4])) :: w) 1 0 g_r b_r C C f1 (nI c0) c0 (nI t) t rfl rfl ⟨by omega, by omega, by omega, by omega⟩ rfl rfl (by omega) (by omega)) ⟨rfl, by decide, by decide, by decide +kernel⟩ wm_6_199 wm_6_47 wm_6_48 wm_1_7 wm_6_49 ⟨Nat.le_of_ble_eq_true rfl, Nat.le_of_ble_eq_true rfl⟩ ⟨Nat.le_of_ble_eq_true rfl, Nat.le_of_ble_eq_true rfl⟩ rfl rfl rfl rfl hl.1 rfl (Nat.le_of_ble_eq_true rfl) dX9_bring_52 (fun o w' H locs hp hB => ?_)
      obtain ⟨rfl, hw9⟩ := hp
      replace hB : Bd κ A s (lA κ b_r (C * 5) (xc C c0 t f1) :: gO g_r C C b_r :: lA κ b_l (R * 5) f2_32 :: gO g_l R R b_l :: lA κ b_w (R * 5) (xc R c0 t f3_32) :: gO g_w R C b_w :: (s_0, .inr (10, [.ref g_w, .ref g_l, .ref g_r, .int i1_32, .int i2, .int i3, .int i4])) :: w) H locs := by rw [hw9] at hB; exact hB
      refine W.eq (g2 := F0 m 55 ls []) rfl ?_
      refine lv_aload_n hx hb dX9_bring_55 rfl (lv_at hl 0 rfl) ?_
      refine lv_aload_n hx hb dX9_bring_56 rfl (lv_at hl 0 rfl) ?_
      refine gf (k0 := 6) hX hB rfl rfl in9 4 (by decide) wm_6_229 rfl rfl dX9_bring_57 ?_
      refine lv_ineg hx hb dX9_bring_60 ?_
      refine pf (ty := .int) (k0 := 6) hX hB rfl rfl in9 tyX9_ok nmX9 4 (by decide) wm_6_229 rfl rfl rfl rfl rfl (Nat.le_of_ble_eq_true rfl) (w1 := lA κ b_r (C * 5) (xc C c0 t f1) :: gO g_r C C b_r :: lA κ b_l (R * 5) f2_32 :: gO g_l R R b_l :: lA κ b_w (R * 5) (xc R c0 t f3_32) :: gO g_w R C b_w :: (s_0, .inr (10, [.ref g_w, .ref g_l, .ref g_r, .int i1_32, .int (-i2), .int i3, .int i4])) :: w) rfl dX9_bring_61 (fun H locs hB => ?_)
      exact jn64 (xc C c0 t f1) (xc R c0 t f3_32) (-i2) _ _ (B2_1 hB1 (by omega) (by omega) (by omega) (by omega) hs4) hR hB _ hl
  refine lv_icmp_eq (tgt := 32) hx hb dX9_bring_2 (by decide) (fun c5 => ?_) (fun c5 => ?_)
  · rw [neqP (a := r) (b := t) (by omega) (by omega)] at c5
    replace hR := ifp c5 hR
    exact jn32 f2 f3 i1 _ _ (B1_0 hng (by omega)) hR hB _ hl
  · rw [neqP (a := r) (b := t) (by omega) (by omega)] at c5
    replace hR := ifn c5 hR
    refine lv_aload_n hx hb dX9_bring_5 rfl (lv_at hl 0 rfl) ?_
    refine gf (k0 := 6) hX hB rfl rfl in9 0 (by decide) wm_6_221 rfl rfl dX9_bring_6 ?_
    refine lv_iload_n hx hb dX9_bring_9 rfl (lv_at hl 2 rfl) ?_
    refine lv_iload_n hx hb dX9_bring_10 rfl (lv_at hl 1 rfl) ?_
    refine call_V (n := 2) (k0 := 5) (As := [.int (nI r), .int (nI t)]) (rest := []) hX hB (k_X7_exchangeRows κ l (lA κ b_r (C * 5) f1 :: gO g_r C C b_r :: lA κ b_l (R * 5) f2 :: gO g_l R R b_l :: lA κ b_w (R * 5) f3 :: gO g_w R C b_w :: (s_0, .inr (10, [.ref g_w, .ref g_l, .ref g_r, .int i1, .int i2, .int i3, .int i4])) :: w) 5 4 g_w b_w R C f3 (nI r) r (nI t) t rfl rfl hs rfl rfl (by omega) (by omega)) ⟨rfl, by decide, by decide, by decide +kernel⟩ wm_6_198 wm_6_52 wm_6_53 wm_1_7 wm_6_54 ⟨Nat.le_of_ble_eq_true rfl, Nat.le_of_ble_eq_true rfl⟩ ⟨Nat.le_of_ble_eq_true rfl, Nat.le_of_ble_eq_true rfl⟩ rfl rfl rfl rfl hl.1 rfl (Nat.le_of_ble_eq_true rfl) dX9_bring_11 (fun o w' H locs hp hB => ?_)
    obtain ⟨rfl, hw9⟩ := hp
    replace hB : Bd κ A s (lA κ b_r (C * 5) f1 :: gO g_r C C b_r :: lA κ b_l (R * 5) f2 :: gO g_l R R b_l :: lA κ b_w (R * 5) (xr C r t f3) :: gO g_w R C b_w :: (s_0, .inr (10, [.ref g_w, .ref g_l, .ref g_r, .int i1, .int i2, .int i3, .int i4])) :: w) H locs := by rw [hw9] at hB; exact hB
    refine W.eq (g2 := F0 m 14 ls []) rfl ?_
    refine lv_aload_n hx hb dX9_bring_14 rfl (lv_at hl 0 rfl) ?_
    refine gf (k0 := 6) hX hB rfl rfl in9 1 (by decide) wm_6_223 rfl rfl dX9_bring_15 ?_
    refine lv_iload_n hx hb dX9_bring_18 rfl (lv_at hl 2 rfl) ?_
    refine lv_iload_n hx hb dX9_bring_19 rfl (lv_at hl 1 rfl) ?_
    refine call_V (n := 2) (k0 := 3) (As := [.int (nI r), .int (nI t)]) (rest := []) hX hB (k_X7_exchangeRows κ l (lA κ b_r (C * 5) f1 :: gO g_r C C b_r :: lA κ b_l (R * 5) f2 :: gO g_l R R b_l :: lA κ b_w (R * 5) (xr C r t f3) :: gO g_w R C b_w :: (s_0, .inr (10, [.ref g_w, .ref g_l, .ref g_r, .int i1, .int i2, .int i3, .int i4])) :: w) 3 2 g_l b_l R R f2 (nI r) r (nI t) t rfl rfl ⟨by omega, by omega, by omega, by omega⟩ rfl rfl (by omega) (by omega)) ⟨rfl, by decide, by decide, by decide +kernel⟩ wm_6_198 wm_6_52 wm_6_53 wm_1_7 wm_6_54 ⟨Nat.le_of_ble_eq_true rfl, Nat.le_of_ble_eq_true rfl⟩ ⟨Nat.le_of_ble_eq_true rfl, Nat.le_of_ble_eq_true rfl⟩ rfl rfl rfl rfl hl.1 rfl (Nat.le_of_ble_eq_true rfl) dX9_bring_20 (fun o w' H locs hp hB => ?_)
    obtain ⟨rfl, hw9⟩ := hp
    replace hB : Bd κ A s (lA κ b_r (C * 5) f1 :: gO g_r C C b_r :: lA κ b_l (R * 5) (xr R r t f2) :: gO g_l R R b_l :: lA κ b_w (R * 5) (xr C r t f3) :: gO g_w R C b_w :: (s_0, .inr (10, [.ref g_w, .ref g_l, .ref g_r, .int i1, .int i2, .int i3, .int i4])) :: w) H locs := by rw [hw9] at hB; exact hB
    refine W.eq (g2 := F0 m 23 ls []) rfl ?_
    refine lv_aload_n hx hb dX9_bring_23 rfl (lv_at hl 0 rfl) ?_
    refine lv_aload_n hx hb dX9_bring_24 rfl (lv_at hl 0 rfl) ?_
    refine gf (k0 := 6) hX hB rfl rfl in9 3 (by decide) wm_6_227 rfl rfl dX9_bring_25 ?_
    refine lv_ineg hx hb dX9_bring_28 ?_
    refine pf (ty := .int) (k0 := 6) hX hB rfl rfl in9 tyX9_ok nmX9 3 (by decide) wm_6_227 rfl rfl rfl rfl rfl (Nat.le_of_ble_eq_true rfl) (w1 := lA κ b_r (C * 5) f1 :: gO g_r C C b_r :: lA κ b_l (R * 5) (xr R r t f2) :: gO g_l R R b_l :: lA κ b_w (R * 5) (xr C r t f3) :: gO g_w R C b_w :: (s_0, .inr (10, [.ref g_w, .ref g_l, .ref g_r, .int (-i1), .int i2, .int i3, .int i4])) :: w) rfl dX9_bring_29 (fun H locs hB => ?_)
    exact jn32 (xr R r t f2) (xr C r t f3) (-i1) _ _ (B1_1 hng (by omega) (by omega) hs4) hR hB _ hl
noncomputable def D_X9_takeOff_80 (R : Nat) (C : Nat) (i1 : Int32) (i2 : Int32) (i3 : Int32) (t : Nat) (f2_4 : Nat → Int64) (nn : Nat) : Nat → (Nat → Int64) → (Nat → Int64) → Int32 → (Nat → Int64) × (Nat → Int64) × (Nat → Int64) × Int32 := @Nat.rec (fun _ => Nat → (Nat → Int64) → (Nat → Int64) → Int32 → (Nat → Int64) × (Nat → Int64) × (Nat → Int64) × Int32) (fun _ _ _ _ => default) (fun _ lb80 (y2_80 : Nat) (f1_80 : Nat → Int64) (f3_80 : Nat → Int64) (i4_80 : Int32) => (if C ≤ y2_80 then (f1_80, f2_4, f3_80, i4_80) else (if i4_80 = 0 then bnd1 (D_X9_look R C (ac C y2_80 t (-(fdv (f3_80 (t * 5 + y2_80)) (f3_80 (t * 5 + t)))) f1_80) f2_4 (ac R y2_80 t (-(fdv (f3_80 (t * 5 + y2_80)) (f3_80 (t * 5 + t)))) f3_80) i1 i2 i3 i4_80) (fun (G95 : Int32) => (lb80 (y2_80 + 1) (ac C y2_80 t (-(fdv (f3_80 (t * 5 + y2_80)) (f3_80 (t * 5 + t)))) f1_80) (ac R y2_80 t (-(fdv (f3_80 (t * 5 + y2_80)) (f3_80 (t * 5 + t)))) f3_80) G95)) else (f1_80, f2_4, f3_80, i4_80)))) nn
theorem D_X9_takeOff_80_s {R : Nat} {C : Nat} {i1 : Int32} {i2 : Int32} {i3 : Int32} {t : Nat} {f2_4 : Nat → Int64} {nn : Nat} {y2_80 : Nat} {f1_80 : Nat → Int64} {f3_80 : Nat → Int64} {i4_80 : Int32} : D_X9_takeOff_80 R C i1 i2 i3 t f2_4 (nn + 1) y2_80 f1_80 f3_80 i4_80 = (if C ≤ y2_80 then (f1_80, f2_4, f3_80, i4_80) else (if i4_80 = 0 then bnd1 (D_X9_look R C (ac C y2_80 t (-(fdv (f3_80 (t * 5 + y2_80)) (f3_80 (t * 5 + t)))) f1_80) f2_4 (ac R y2_80 t (-(fdv (f3_80 (t * 5 + y2_80)) (f3_80 (t * 5 + t)))) f3_80) i1 i2 i3 i4_80) (fun (G95 : Int32) => ((D_X9_takeOff_80 R C i1 i2 i3 t f2_4 nn) (y2_80 + 1) (ac C y2_80 t (-(fdv (f3_80 (t * 5 + y2_80)) (f3_80 (t * 5 + t)))) f1_80) (ac R y2_80 t (-(fdv (f3_80 (t * 5 + y2_80)) (f3_80 (t * 5 + t)))) f3_80) G95)) else (f1_80, f2_4, f3_80, i4_80))) := rfl
noncomputable def D_X9_takeOff_j76 (R : Nat) (C : Nat) (f1 : Nat → Int64) (i1 : Int32) (i2 : Int32) (i3 : Int32) (t : Nat) (f2_4 : Nat → Int64) (f3_4 : Nat → Int64) (i4_4 : Int32) : (Nat → Int64) × (Nat → Int64) × (Nat → Int64) × Int32 := (D_X9_takeOff_80 R C i1 i2 i3 t f2_4 (C + 1 - (t + 1) + 1) (t + 1) f1 f3_4 i4_4)
theorem D_X9_takeOff_j76_s {R : Nat} {C : Nat} {f1 : Nat → Int64} {i1 : Int32} {i2 : Int32} {i3 : Int32} {t : Nat} {f2_4 : Nat → Int64} {f3_4 : Nat → Int64} {i4_4 : Int32} : D_X9_takeOff_j76 R C f1 i1 i2 i3 t f2_4 f3_4 i4_4 = (D_X9_takeOff_80 R C i1 i2 i3 t f2_4 (C + 1 - (t + 1) + 1) (t + 1) f1 f3_4 i4_4) := rfl
noncomputable def D_X9_takeOff_4 (R : Nat) (C : Nat) (f1 : Nat → Int64) (i1 : Int32) (i2 : Int32) (i3 : Int32) (t : Nat) (nn : Nat) : Nat → (Nat → Int64) → (Nat → Int64) → Int32 → (Nat → Int64) × (Nat → Int64) × (Nat → Int64) × Int32 := @Nat.rec (fun _ => Nat → (Nat → Int64) → (Nat → Int64) → Int32 → (Nat → Int64) × (Nat → Int64) × (Nat → Int64) × Int32) (fun _ _ _ _ => default) (fun _ lb4 (y2_4 : Nat) (f2_4 : Nat → Int64) (f3_4 : Nat → Int64) (i4_4 : Int32) => (if R ≤ y2_4 then (D_X9_takeOff_j76 R C f1 i1 i2 i3 t f2_4 f3_4 i4_4) else (if i4_4 = 0 then bnd1 (D_X9_look R C f1 (ar R y2_4 t (-(fdv (f3_4 (y2_4 * 5 + t)) (f3_4 (t * 5 + t)))) f2_4) (ar C y2_4 t (-(fdv (f3_4 (y2_4 * 5 + t)) (f3_4 (t * 5 + t)))) f3_4) i1 i2 i3 i4_4) (fun (G102 : Int32) => (lb4 (y2_4 + 1) (ar R y2_4 t (-(fdv (f3_4 (y2_4 * 5 + t)) (f3_4 (t * 5 + t)))) f2_4) (ar C y2_4 t (-(fdv (f3_4 (y2_4 * 5 + t)) (f3_4 (t * 5 + t)))) f3_4) G102)) else (D_X9_takeOff_j76 R C f1 i1 i2 i3 t f2_4 f3_4 i4_4)))) nn
theorem D_X9_takeOff_4_s {R : Nat} {C : Nat} {f1 : Nat → Int64} {i1 : Int32} {i2 : Int32} {i3 : Int32} {t : Nat} {nn : Nat} {y2_4 : Nat} {f2_4 : Nat → Int64} {f3_4 : Nat → Int64} {i4_4 : Int32} : D_X9_takeOff_4 R C f1 i1 i2 i3 t (nn + 1) y2_4 f2_4 f3_4 i4_4 = (if R ≤ y2_4 then (D_X9_takeOff_j76 R C f1 i1 i2 i3 t f2_4 f3_4 i4_4) else (if i4_4 = 0 then bnd1 (D_X9_look R C f1 (ar R y2_4 t (-(fdv (f3_4 (y2_4 * 5 + t)) (f3_4 (t * 5 + t)))) f2_4) (ar C y2_4 t (-(fdv (f3_4 (y2_4 * 5 + t)) (f3_4 (t * 5 + t)))) f3_4) i1 i2 i3 i4_4) (fun (G102 : Int32) => ((D_X9_takeOff_4 R C f1 i1 i2 i3 t nn) (y2_4 + 1) (ar R y2_4 t (-(fdv (f3_4 (y2_4 * 5 + t)) (f3_4 (t * 5 + t)))) f2_4) (ar C y2_4 t (-(fdv (f3_4 (y2_4 * 5 + t)) (f3_4 (t * 5 + t)))) f3_4) G102)) else (D_X9_takeOff_j76 R C f1 i1 i2 i3 t f2_4 f3_4 i4_4))) := rfl
noncomputable def D_X9_takeOff (R : Nat) (C : Nat) (f1 : Nat → Int64) (f2 : Nat → Int64) (f3 : Nat → Int64) (i1 : Int32) (i2 : Int32) (i3 : Int32) (i4 : Int32) (t : Nat) : (Nat → Int64) × (Nat → Int64) × (Nat → Int64) × Int32 := (D_X9_takeOff_4 R C f1 i1 i2 i3 t (R + 1 - (t + 1) + 1) (t + 1) f2 f3 i4)
theorem D_X9_takeOff_s {R : Nat} {C : Nat} {f1 : Nat → Int64} {f2 : Nat → Int64} {f3 : Nat → Int64} {i1 : Int32} {i2 : Int32} {i3 : Int32} {i4 : Int32} {t : Nat} : D_X9_takeOff R C f1 f2 f3 i1 i2 i3 i4 t = (D_X9_takeOff_4 R C f1 i1 i2 i3 t (R + 1 - (t + 1) + 1) (t + 1) f2 f3 i4) := rfl
set_option maxHeartbeats 4000000 in
set_option maxRecDepth 100000 in
theorem k_X9_takeOff (κ : Kt) (l : Launch) (w : va_W) (s_0 g_r b_r g_l b_l g_w b_w R C : Nat) (f1 f2 f3 : Nat → Int64) (i1 i2 i3 i4 : Int32) (xt : Int32) (t : Nat) (hs : shp R C) (hC4 : C ≤ 4) (hxt : xt = nI t) (ht : t < R ∧ t < C) (hng : ∀ k, k < R * 5 → ng (f3 k)) (hg0 : i4 = 0) (hp : 0 < (f3 (t * 5 + t)).toInt) (o_F1 : Nat → Int64) (o_F2 : Nat → Int64) (o_F3 : Nat → Int64) (o_G1 : Int32) (hR : D_X9_takeOff R C f1 f2 f3 i1 i2 i3 i4 t = (o_F1, o_F2, o_F3, o_G1)) : CM κ l yX9_takeOff cX9_takeOff 5 (none) 2 49 0 0 [.ref s_0, .int xt] (lA κ b_r (C * 5) f1 :: gO g_r C C b_r :: lA κ b_l (R * 5) f2 :: gO g_l R R b_l :: lA κ b_w (R * 5) f3 :: gO g_w R C b_w :: (s_0, .inr (10, [.ref g_w, .ref g_l, .ref g_r, .int i1, .int i2, .int i3, .int i4])) :: w) (fun o w' => o = none ∧ (TKf R C t f3 o_F3 o_G1) ∧ w' = lA κ b_r (C * 5) o_F1 :: gO g_r C C b_r :: lA κ b_l (R * 5) o_F2 :: gO g_l R R b_l :: lA κ b_w (R * 5) o_F3 :: gO g_w R C b_w :: (s_0, .inr (10, [.ref g_w, .ref g_l, .ref g_r, .int i1, .int i2, .int i3, .int o_G1])) :: w) := by
  have hs0 := hs
  obtain ⟨hs1, hs2, hs3, hs4⟩ := hs0
  subst hxt
  refine CM_begin (plainFor_of_name (by decide)) (Nat.le_of_ble_eq_true rfl) ?_
  intro p e s m args below meth c A Q hX hnm hA3 hQ hB ls hl
  have hx := hX.1.1
  have hb := hX.1.2.1
  have hl : lv_has ls 5 [(0, .ref s_0), (1, .int (nI t))] := hl
  obtain ⟨ht1, ht2⟩ := ht
  replace hR := (D_X9_takeOff_s).symm.trans hR
  refine lv_iload_n hx hb dX9_takeOff_0 rfl (lv_at hl 1 rfl) ?_
  refine lv_iconst (v := 1) hx hb dX9_takeOff_1 (by decide) ?_
  refine lv_iadd hx hb dX9_takeOff_2 ?_
  refine eqi (y := nI (t + 1)) (nI_add t 1) ?_
  refine lv_istore_n (lv' := [(2, .int (nI (t + 1))), (0, .ref s_0), (1, .int (nI t))]) hx hb dX9_takeOff_3 rfl hl (by decide) rfl (fun ls hl => ?_)
  have lp4 : ∀ (nn4 : Nat) (y2_4 : Nat) (f2_4 : Nat → Int64) (f3_4 : Nat → Int64) (i4_4 : Int32) (H : Heap) (locs : List Loc), (y2_4 ≤ R) → (t + 1 ≤ y2_4) → (T1f R C t f3 y2_4 f3_4 i4_4) → R + 1 - y2_4 < nn4 → D_X9_takeOff_4 R C f1 i1 i2 i3 t nn4 y2_4 f2_4 f3_4 i4_4 = (o_F1, o_F2, o_F3, o_G1) → Bd κ A s (lA κ b_r (C * 5) f1 :: gO g_r C C b_r :: lA κ b_l (R * 5) f2_4 :: gO g_l R R b_l :: lA κ b_w (R * 5) f3_4 :: gO g_w R C b_w :: (s_0, .inr (10, [.ref g_w, .ref g_l, .ref g_r, .int i1, .int i2, .int i3, .int i4_4])) :: w) H locs → ∀ ls : Array Slot, lv_has ls 5 [(2, .int (nI y2_4)), (0, .ref s_0), (1, .int (nI t))] → W p l e (Rm 2 49 0 0) s m args below meth c H locs (0) (0) Q (F0 m 4 ls []) := by
    intro nn4
    induction nn4 with
    | zero => intro y2_4 f2_4 f3_4 i4_4 H locs hn2_4 hlo4 hT1 hμ; exact absurd hμ (Nat.not_lt_zero _)
    | succ nn4 ih4 =>
      intro y2_4 f2_4 f3_4 i4_4 H locs hn2_4 hlo4 hT1 hμ4 hR hB ls hl
      replace hR := (D_X9_takeOff_4_s).symm.trans hR
      refine lv_iload_n hx hb dX9_takeOff_4 rfl (lv_at hl 0 rfl) ?_
      refine lv_aload_n hx hb dX9_takeOff_5 rfl (lv_at hl 1 rfl) ?_
      refine gf (k0 := 6) hX hB rfl rfl in9 0 (by decide) wm_6_221 rfl rfl dX9_takeOff_6 ?_
      refine gf (k0 := 5) hX hB rfl rfl in7 0 (by decide) wm_5_147 rfl rfl dX9_takeOff_9 ?_
      have jn76 : ∀ (H : Heap) (locs : List Loc), (T1f R C t f3 R f3_4 i4_4) → D_X9_takeOff_j76 R C f1 i1 i2 i3 t f2_4 f3_4 i4_4 = (o_F1, o_F2, o_F3, o_G1) → Bd κ A s (lA κ b_r (C * 5) f1 :: gO g_r C C b_r :: lA κ b_l (R * 5) f2_4 :: gO g_l R R b_l :: lA κ b_w (R * 5) f3_4 :: gO g_w R C b_w :: (s_0, .inr (10, [.ref g_w, .ref g_l, .ref g_r, .int i1, .int i2, .int i3, .int i4_4])) :: w) H locs → ∀ ls : Array Slot, lv_has ls 5 [(2, .int (nI y2_4)), (0, .ref s_0), (1, .int (nI t))] → W p l e (Rm 2 49 0 0) s m args below meth c H locs (0) (0) Q (F0 m 76 ls []) := by
        intro H locs hJT hR hB ls hl
        replace hR := (D_X9_takeOff_j76_s).symm.trans hR
        refine lv_iload_n hx hb dX9_takeOff_76 rfl (lv_at hl 2 rfl) ?_
        refine lv_iconst (v := 1) hx hb dX9_takeOff_77 (by decide) ?_
        refine lv_iadd hx hb dX9_takeOff_78 ?_
        refine eqi (y := nI (t + 1)) (nI_add t 1) ?_
        refine lv_istore_n (lv' := [(2, .int (nI (t + 1))), (0, .ref s_0), (1, .int (nI t))]) hx hb dX9_takeOff_79 rfl hl (by decide) rfl (fun ls hl => ?_)
        have lp80 : ∀ (nn80 : Nat) (y2_80 : Nat) (f1_80 : Nat → Int64) (f3_80 : Nat → Int64) (i4_80 : Int32) (H : Heap) (locs : List Loc), (y2_80 ≤ C) → (t + 1 ≤ y2_80) → (T2f R t f3_4 i4_4 y2_80 f3_80 i4_80) → C + 1 - y2_80 < nn80 → D_X9_takeOff_80 R C i1 i2 i3 t f2_4 nn80 y2_80 f1_80 f3_80 i4_80 = (o_F1, o_F2, o_F3, o_G1) → Bd κ A s (lA κ b_r (C * 5) f1_80 :: gO g_r C C b_r :: lA κ b_l (R * 5) f2_4 :: gO g_l R R b_l :: lA κ b_w (R * 5) f3_80 :: gO g_w R C b_w :: (s_0, .inr (10, [.ref g_w, .ref g_l, .ref g_r, .int i1, .int i2, .int i3, .int i4_80])) :: w) H locs → ∀ ls : Array Slot, lv_has ls 5 [(2, .int (nI y2_80)), (0, .ref s_0), (1, .int (nI t))] → W p l e (Rm 2 49 0 0) s m args below meth c H locs (0) (0) Q (F0 m 80 ls []) := by
          intro nn80
          induction nn80 with
          | zero => intro y2_80 f1_80 f3_80 i4_80 H locs hn2_80 hlo80 hT2 hμ; exact absurd hμ (Nat.not_lt_zero _)
          | succ nn80 ih80 =>
            intro y2_80 f1_80 f3_80 i4_80 H locs hn2_80 hlo80 hT2 hμ80 hR hB ls hl
            replace hR := (D_X9_takeOff_80_s).symm.trans hR
            refine lv_iload_n hx hb dX9_takeOff_80 rfl (lv_at hl 0 rfl) ?_
            refine lv_aload_n hx hb dX9_takeOff_81 rfl (lv_at hl 1 rfl) ?_
            refine gf (k0 := 6) hX hB rfl rfl in9 0 (by decide) wm_6_221 rfl rfl dX9_takeOff_82 ?_
            refine gf (k0 := 5) hX hB rfl rfl in7 1 (by decide) wm_5_150 rfl rfl dX9_takeOff_85 ?_
            refine lv_icmp_ge (tgt := 152) hx hb dX9_takeOff_88 (by decide) (fun c92 => ?_) (fun c92 => ?_)
            · rw [nleP (a := C) (b := y2_80) (by omega) (by omega)] at c92
              replace hR := ifp c92 hR
              have hY1 : y2_80 = C := by omega
              rw [← hQ]
              exact end_v hX hB hA3 rfl (by obtain ⟨rfl, rfl, rfl, rfl⟩ := pr4 hR; exact ⟨rfl, (by first | exact TK_0 hp (by omega) hs4 hJT hT2 hY1 | exact TK_1 (by omega) hs4 hJT hT2 hY2), rfl⟩) (Nat.le_of_ble_eq_true rfl) (Nat.le_of_ble_eq_true rfl) dX9_takeOff_152
            · rw [nleP (a := C) (b := y2_80) (by omega) (by omega)] at c92
              replace hR := ifn c92 hR
              refine lv_aload_n hx hb dX9_takeOff_91 rfl (lv_at hl 1 rfl) ?_
              refine gf (k0 := 6) hX hB rfl rfl in9 6 (by decide) wm_6_233 rfl rfl dX9_takeOff_92 ?_
              refine lv_if_ne (tgt := 152) hx hb dX9_takeOff_95 (by decide) (fun c93 => ?_) (fun c93 => ?_)
              · replace hR := ifn c93 hR
                have hY2 := c93
                rw [← hQ]
                exact end_v hX hB hA3 rfl (by obtain ⟨rfl, rfl, rfl, rfl⟩ := pr4 hR; exact ⟨rfl, (by first | exact TK_0 hp (by omega) hs4 hJT hT2 hY1 | exact TK_1 (by omega) hs4 hJT hT2 hY2), rfl⟩) (Nat.le_of_ble_eq_true rfl) (Nat.le_of_ble_eq_true rfl) dX9_takeOff_152
              · replace hR := ifp c93 hR
                have hX5 := c93
                refine lv_aload_n hx hb dX9_takeOff_98 rfl (lv_at hl 1 rfl) ?_
                refine gf (k0 := 6) hX hB rfl rfl in9 0 (by decide) wm_6_221 rfl rfl dX9_takeOff_99 ?_
                refine lv_iload_n hx hb dX9_takeOff_102 rfl (lv_at hl 2 rfl) ?_
                refine lv_iload_n hx hb dX9_takeOff_103 rfl (lv_at hl 0 rfl) ?_
                refine call_V (n := 2) (k0 := 5) (As := [.int (nI t), .int (nI y2_80)]) (rest := []) hX hB (k_X7_at κ l (lA κ b_r (C * 5) f1_80 :: gO g_r C C b_r :: lA κ b_l (R * 5) f2_4 :: gO g_l R R b_l :: lA κ b_w (R * 5) f3_80 :: gO g_w R C b_w :: (s_0, .inr (10, [.ref g_w, .ref g_l, .ref g_r, .int i1, .int i2, .int i3, .int i4_80])) :: w) 5 4 g_w b_w R C f3_80 (nI t) t (nI y2_80) y2_80 rfl rfl hs rfl rfl (by omega)) ⟨rfl, by decide, by decide, by decide +kernel⟩ wm_6_188 wm_5_238 wm_5_239 wm_1_7 wm_6_0 ⟨Nat.le_of_ble_eq_true rfl, Nat.le_of_ble_eq_true rfl⟩ ⟨Nat.le_of_ble_eq_true rfl, Nat.le_of_ble_eq_true rfl⟩ rfl rfl rfl rfl hl.1 rfl (Nat.le_of_ble_eq_true rfl) dX9_takeOff_104 (fun o w' H locs hp hB => ?_)
                obtain ⟨rfl, hw9⟩ := hp
                replace hB : Bd κ A s (lA κ b_r (C * 5) f1_80 :: gO g_r C C b_r :: lA κ b_l (R * 5) f2_4 :: gO g_l R R b_l :: lA κ b_w (R * 5) f3_80 :: gO g_w R C b_w :: (s_0, .inr (10, [.ref g_w, .ref g_l, .ref g_r, .int i1, .int i2, .int i3, .int i4_80])) :: w) H locs := by rw [hw9] at hB; exact hB
                refine W.eq (g2 := F0 m 107 ls [.long (f3_80 (t * 5 + y2_80))]) rfl ?_
                refine lv_aload_n hx hb dX9_takeOff_107 rfl (lv_at hl 1 rfl) ?_
                refine gf (k0 := 6) hX hB rfl rfl in9 0 (by decide) wm_6_221 rfl rfl dX9_takeOff_108 ?_
                refine lv_iload_n hx hb dX9_takeOff_111 rfl (lv_at hl 2 rfl) ?_
                refine lv_iload_n hx hb dX9_takeOff_112 rfl (lv_at hl 2 rfl) ?_
                refine call_V (n := 2) (k0 := 5) (As := [.int (nI t), .int (nI t)]) (rest := [.long (f3_80 (t * 5 + y2_80))]) hX hB (k_X7_at κ l (lA κ b_r (C * 5) f1_80 :: gO g_r C C b_r :: lA κ b_l (R * 5) f2_4 :: gO g_l R R b_l :: lA κ b_w (R * 5) f3_80 :: gO g_w R C b_w :: (s_0, .inr (10, [.ref g_w, .ref g_l, .ref g_r, .int i1, .int i2, .int i3, .int i4_80])) :: w) 5 4 g_w b_w R C f3_80 (nI t) t (nI t) t rfl rfl hs rfl rfl (by omega)) ⟨rfl, by decide, by decide, by decide +kernel⟩ wm_6_188 wm_5_238 wm_5_239 wm_1_7 wm_6_0 ⟨Nat.le_of_ble_eq_true rfl, Nat.le_of_ble_eq_true rfl⟩ ⟨Nat.le_of_ble_eq_true rfl, Nat.le_of_ble_eq_true rfl⟩ rfl rfl rfl rfl hl.1 rfl (Nat.le_of_ble_eq_true rfl) dX9_takeOff_113 (fun o w' H locs hp hB => ?_)
                obtain ⟨rfl, hw9⟩ := hp
                replace hB : Bd κ A s (lA κ b_r (C * 5) f1_80 :: gO g_r C C b_r :: lA κ b_l (R * 5) f2_4 :: gO g_l R R b_l :: lA κ b_w (R * 5) f3_80 :: gO g_w R C b_w :: (s_0, .inr (10, [.ref g_w, .ref g_l, .ref g_r, .int i1, .int i2, .int i3, .int i4_80])) :: w) H locs := by rw [hw9] at hB; exact hB
                refine W.eq (g2 := F0 m 116 ls [.long (f3_80 (t * 5 + t)), .long (f3_80 (t * 5 + y2_80))]) rfl ?_
                refine call_S (n := 2) (As := [.long (f3_80 (t * 5 + y2_80)), .long (f3_80 (t * 5 + t))]) (rest := []) hX hB (k_J9_floorDiv_f86c9 κ l (lA κ b_r (C * 5) f1_80 :: gO g_r C C b_r :: lA κ b_l (R * 5) f2_4 :: gO g_l R R b_l :: lA κ b_w (R * 5) f3_80 :: gO g_w R C b_w :: (s_0, .inr (10, [.ref g_w, .ref g_l, .ref g_r, .int i1, .int i2, .int i3, .int i4_80])) :: w) (f3_80 (t * 5 + y2_80)) (f3_80 (t * 5 + t)) (T2_pv hJT hT2 hp)) ⟨by decide, by decide, by decide +kernel⟩ wm_6_205 wm_2_20 wm_1_14 wm_2_21 ⟨Nat.le_of_ble_eq_true rfl, Nat.le_of_ble_eq_true rfl⟩ ⟨Nat.le_of_ble_eq_true rfl, Nat.le_of_ble_eq_true rfl⟩ rfl hl.1 rfl (Nat.le_of_ble_eq_true rfl) dX9_takeOff_116 (fun o w' H locs hp hB => ?_)
                obtain ⟨x94, rfl, ex94, hw9⟩ := hp
                rw [hw9] at hB
                subst ex94
                refine W.eq (g2 := F0 m 119 ls [.long (fdv (f3_80 (t * 5 + y2_80)) (f3_80 (t * 5 + t)))]) rfl ?_
                refine lv_lstore_n (lv' := [(3, .long (fdv (f3_80 (t * 5 + y2_80)) (f3_80 (t * 5 + t)))), (2, .int (nI y2_80)), (0, .ref s_0), (1, .int (nI t))]) hx hb dX9_takeOff_119 rfl hl (by decide) rfl (fun ls hl => ?_)
                refine lv_aload_n hx hb dX9_takeOff_120 rfl (lv_at hl 2 rfl) ?_
                refine gf (k0 := 6) hX hB rfl rfl in9 0 (by decide) wm_6_221 rfl rfl dX9_takeOff_121 ?_
                refine lv_iload_n hx hb dX9_takeOff_124 rfl (lv_at hl 1 rfl) ?_
                refine lv_iload_n hx hb dX9_takeOff_125 rfl (lv_at hl 3 rfl) ?_
                refine lv_lload_n hx hb dX9_takeOff_126 rfl (lv_at hl 0 rfl) ?_
                refine lv_lneg hx hb dX9_takeOff_127 ?_
                refine call_V (n := 3) (k0 := 5) (As := [.int (nI y2_80), .int (nI t), .long (-(fdv (f3_80 (t * 5 + y2_80)) (f3_80 (t * 5 + t))))]) (rest := []) hX hB (k_X7_addColumn κ l (lA κ b_r (C * 5) f1_80 :: gO g_r C C b_r :: lA κ b_l (R * 5) f2_4 :: gO g_l R R b_l :: lA κ b_w (R * 5) f3_80 :: gO g_w R C b_w :: (s_0, .inr (10, [.ref g_w, .ref g_l, .ref g_r, .int i1, .int i2, .int i3, .int i4_80])) :: w) 5 4 g_w b_w R C f3_80 (nI y2_80) y2_80 (nI t) t (-(fdv (f3_80 (t * 5 + y2_80)) (f3_80 (t * 5 + t)))) rfl rfl hs rfl rfl (by omega) (by omega) (by omega)) ⟨rfl, by decide, by decide, by decide +kernel⟩ wm_6_212 wm_6_76 wm_6_77 wm_1_7 wm_6_78 ⟨Nat.le_of_ble_eq_true rfl, Nat.le_of_ble_eq_true rfl⟩ ⟨Nat.le_of_ble_eq_true rfl, Nat.le_of_ble_eq_true rfl⟩ rfl rfl rfl rfl hl.1 rfl (Nat.le_of_ble_eq_true rfl) dX9_takeOff_128 (fun o w' H locs hp hB => ?_)
                obtain ⟨rfl, hw9⟩ := hp
                replace hB : Bd κ A s (lA κ b_r (C * 5) f1_80 :: gO g_r C C b_r :: lA κ b_l (R * 5) f2_4 :: gO g_l R R b_l :: lA κ b_w (R * 5) (ac R y2_80 t (-(fdv (f3_80 (t * 5 + y2_80)) (f3_80 (t * 5 + t)))) f3_80) :: gO g_w R C b_w :: (s_0, .inr (10, [.ref g_w, .ref g_l, .ref g_r, .int i1, .int i2, .int i3, .int i4_80])) :: w) H locs := by rw [hw9] at hB; exact hB
                refine W.eq (g2 := F0 m 131 ls []) rfl ?_
                refine lv_aload_n hx hb dX9_takeOff_131 rfl (lv_at hl 2 rfl) ?_
                refine gf (k0 := 6) hX hB rfl rfl in9 2 (by decide) wm_6_225 rfl rfl dX9_takeOff_132 ?_
                refine lv_iload_n hx hb dX9_takeOff_135 rfl (lv_at hl 1 rfl) ?_
                refine lv_iload_n hx hb dX9_takeOff_136 rfl (lv_at hl 3 rfl) ?_
                refine lv_lload_n hx hb dX9_takeOff_137 rfl (lv_at hl 0 rfl) ?_
                refine lv_lneg hx hb dX9_takeOff_138 ?_
                refine call_V (n := 3) (k0 := 1) (As := [.int (nI y2_80), .int (nI t), .long (-(fdv (f3_80 (t * 5 + y2_80)) (f3_80 (t * 5 + t))))]) (rest := []) hX hB (k_X7_addColumn κ l (lA κ b_r (C * 5) f1_80 :: gO g_r C C b_r :: lA κ b_l (R * 5) f2_4 :: gO g_l R R b_l :: lA κ b_w (R * 5) (ac R y2_80 t (-(fdv (f3_80 (t * 5 + y2_80)) (f3_80 (t * 5 + t)))) f3_80) :: gO g_w R C b_w :: (s_0, .inr (10, [.ref g_w, .ref g_l, .ref g_r, .int i1, .int i2, .int i3, .int i4_80])) :: w) 1 0 g_r b_r C C f1_80 (nI y2_80) y2_80 (nI t) t (-(fdv (f3_80 (t * 5 + y2_80)) (f3_80 (t * 5 + t)))) rfl rfl ⟨by omega, by omega, by omega, by omega⟩ rfl rfl (by omega) (by omega) (by omega)) ⟨rfl, by decide, by decide, by decide +kernel⟩ wm_6_212 wm_6_76 wm_6_77 wm_1_7 wm_6_78 ⟨Nat.le_of_ble_eq_true rfl, Nat.le_of_ble_eq_true rfl⟩ ⟨Nat.le_of_ble_eq_true rfl, Nat.le_of_ble_eq_true rfl⟩ rfl rfl rfl rfl hl.1 rfl (Nat.le_of_ble_eq_true rfl) dX9_takeOff_139 (fun o w' H locs hp hB => ?_)
                obtain ⟨rfl, hw9⟩ := hp
                replace hB : Bd κ A s (lA κ b_r (C * 5) (ac C y2_80 t (-(fdv (f3_80 (t * 5 + y2_80)) (f3_80 (t * 5 + t)))) f1_80) :: gO g_r C C b_r :: lA κ b_l (R * 5) f2_4 :: gO g_l R R b_l :: lA κ b_w (R * 5) (ac R y2_80 t (-(fdv (f3_80 (t * 5 + y2_80)) (f3_80 (t * 5 + t)))) f3_80) :: gO g_w R C b_w :: (s_0, .inr (10, [.ref g_w, .ref g_l, .ref g_r, .int i1, .int i2, .int i3, .int i4_80])) :: w) H locs := by rw [hw9] at hB; exact hB
                refine W.eq (g2 := F0 m 142 ls []) rfl ?_
                refine lv_aload_n hx hb dX9_takeOff_142 rfl (lv_at hl 2 rfl) ?_
                obtain ⟨G95, hd96⟩ := ex1 (D_X9_look R C (ac C y2_80 t (-(fdv (f3_80 (t * 5 + y2_80)) (f3_80 (t * 5 + t)))) f1_80) f2_4 (ac R y2_80 t (-(fdv (f3_80 (t * 5 + y2_80)) (f3_80 (t * 5 + t)))) f3_80) i1 i2 i3 i4_80)
                replace hR := bnd1_use hd96 hR
                refine call_V (n := 0) (k0 := 6) (As := []) (rest := []) hX hB (k_X9_look κ l (w) s_0 g_r b_r g_l b_l g_w b_w R C (ac C y2_80 t (-(fdv (f3_80 (t * 5 + y2_80)) (f3_80 (t * 5 + t)))) f1_80) f2_4 (ac R y2_80 t (-(fdv (f3_80 (t * 5 + y2_80)) (f3_80 (t * 5 + t)))) f3_80) i1 i2 i3 i4_80 hs (by omega) hT2.1 G95 hd96) ⟨rfl, by decide, by decide, by decide +kernel⟩ wm_6_207 wm_6_209 wp_45 wm_1_16 wm_6_210 ⟨Nat.le_of_ble_eq_true rfl, Nat.le_of_ble_eq_true rfl⟩ ⟨Nat.le_of_ble_eq_true rfl, Nat.le_of_ble_eq_true rfl⟩ rfl rfl rfl rfl hl.1 rfl (Nat.le_of_ble_eq_true rfl) dX9_takeOff_143 (fun o w' H locs hp hB => ?_)
                obtain ⟨rfl, hf97, hf98, hw9⟩ := hp
                replace hB : Bd κ A s (lA κ b_r (C * 5) (ac C y2_80 t (-(fdv (f3_80 (t * 5 + y2_80)) (f3_80 (t * 5 + t)))) f1_80) :: gO g_r C C b_r :: lA κ b_l (R * 5) f2_4 :: gO g_l R R b_l :: lA κ b_w (R * 5) (ac R y2_80 t (-(fdv (f3_80 (t * 5 + y2_80)) (f3_80 (t * 5 + t)))) f3_80) :: gO g_w R C b_w :: (s_0, .inr (10, [.ref g_w, .ref g_l, .ref g_r, .int i1, .int i2, .int i3, .int G95])) :: w) H locs := by rw [hw9] at hB; exact hB
                refine W.eq (g2 := F0 m 146 ls []) rfl ?_
                refine lv_iinc (v := nI (y2_80 + 1)) (lv' := [(2, .int (nI (y2_80 + 1))), (3, .long (fdv (f3_80 (t * 5 + y2_80)) (f3_80 (t * 5 + t)))), (0, .ref s_0), (1, .int (nI t))]) hx hb dX9_takeOff_146 hl (k := 1) rfl (nI_add y2_80 1) (by decide) rfl (fun ls hl => ?_)
                refine lv_goto (tgt := 80) hx hb dX9_takeOff_149 (by decide) ?_
                exact ih80 (y2_80 + 1) (ac C y2_80 t (-(fdv (f3_80 (t * 5 + y2_80)) (f3_80 (t * 5 + t)))) f1_80) (ac R y2_80 t (-(fdv (f3_80 (t * 5 + y2_80)) (f3_80 (t * 5 + t)))) f3_80) G95 _ _ (by omega) (by omega) (T2_s hs4 (by omega) (by omega) hT2 hf97 hf98) (by omega) hR hB _ (lv_sub hl [0, 2, 3] rfl)
        exact lp80 _ (t + 1) f1 f3_4 i4_4 _ _ (by omega) (by omega) (T2_0 hJT) (Nat.lt_succ_self _) hR hB _ hl
      refine lv_icmp_ge (tgt := 76) hx hb dX9_takeOff_12 (by decide) (fun c99 => ?_) (fun c99 => ?_)
      · rw [nleP (a := R) (b := y2_4) (by omega) (by omega)] at c99
        replace hR := ifp c99 hR
        exact jn76  _ _ (by first | exact T1_g hT1 hX3 | exact (show y2_4 = R by omega) ▸ hT1) hR hB _ hl
      · rw [nleP (a := R) (b := y2_4) (by omega) (by omega)] at c99
        replace hR := ifn c99 hR
        refine lv_aload_n hx hb dX9_takeOff_15 rfl (lv_at hl 1 rfl) ?_
        refine gf (k0 := 6) hX hB rfl rfl in9 6 (by decide) wm_6_233 rfl rfl dX9_takeOff_16 ?_
        refine lv_if_ne (tgt := 76) hx hb dX9_takeOff_19 (by decide) (fun c100 => ?_) (fun c100 => ?_)
        · replace hR := ifn c100 hR
          have hX3 := c100
          exact jn76  _ _ (by first | exact T1_g hT1 hX3 | exact (show y2_4 = R by omega) ▸ hT1) hR hB _ hl
        · replace hR := ifp c100 hR
          have hX4 := c100
          refine lv_aload_n hx hb dX9_takeOff_22 rfl (lv_at hl 1 rfl) ?_
          refine gf (k0 := 6) hX hB rfl rfl in9 0 (by decide) wm_6_221 rfl rfl dX9_takeOff_23 ?_
          refine lv_iload_n hx hb dX9_takeOff_26 rfl (lv_at hl 0 rfl) ?_
          refine lv_iload_n hx hb dX9_takeOff_27 rfl (lv_at hl 2 rfl) ?_
          refine call_V (n := 2) (k0 := 5) (As := [.int (nI y2_4), .int (nI t)]) (rest := []) hX hB (k_X7_at κ l (lA κ b_r (C * 5) f1 :: gO g_r C C b_r :: lA κ b_l (R * 5) f2_4 :: gO g_l R R b_l :: lA κ b_w (R * 5) f3_4 :: gO g_w R C b_w :: (s_0, .inr (10, [.ref g_w, .ref g_l, .ref g_r, .int i1, .int i2, .int i3, .int i4_4])) :: w) 5 4 g_w b_w R C f3_4 (nI y2_4) y2_4 (nI t) t rfl rfl hs rfl rfl (by omega)) ⟨rfl, by decide, by decide, by decide +kernel⟩ wm_6_188 wm_5_238 wm_5_239 wm_1_7 wm_6_0 ⟨Nat.le_of_ble_eq_true rfl, Nat.le_of_ble_eq_true rfl⟩ ⟨Nat.le_of_ble_eq_true rfl, Nat.le_of_ble_eq_true rfl⟩ rfl rfl rfl rfl hl.1 rfl (Nat.le_of_ble_eq_true rfl) dX9_takeOff_28 (fun o w' H locs hp hB => ?_)
          obtain ⟨rfl, hw9⟩ := hp
          replace hB : Bd κ A s (lA κ b_r (C * 5) f1 :: gO g_r C C b_r :: lA κ b_l (R * 5) f2_4 :: gO g_l R R b_l :: lA κ b_w (R * 5) f3_4 :: gO g_w R C b_w :: (s_0, .inr (10, [.ref g_w, .ref g_l, .ref g_r, .int i1, .int i2, .int i3, .int i4_4])) :: w) H locs := by rw [hw9] at hB; exact hB
          refine W.eq (g2 := F0 m 31 ls [.long (f3_4 (y2_4 * 5 + t))]) rfl ?_
          refine lv_aload_n hx hb dX9_takeOff_31 rfl (lv_at hl 1 rfl) ?_
          refine gf (k0 := 6) hX hB rfl rfl in9 0 (by decide) wm_6_221 rfl rfl dX9_takeOff_32 ?_
          refine lv_iload_n hx hb dX9_takeOff_35 rfl (lv_at hl 2 rfl) ?_
          refine lv_iload_n hx hb dX9_takeOff_36 rfl (lv_at hl 2 rfl) ?_
          refine call_V (n := 2) (k0 := 5) (As := [.int (nI t), .int (nI t)]) (rest := [.long (f3_4 (y2_4 * 5 + t))]) hX hB (k_X7_at κ l (lA κ b_r (C * 5) f1 :: gO g_r C C b_r :: lA κ b_l (R * 5) f2_4 :: gO g_l R R b_l :: lA κ b_w (R * 5) f3_4 :: gO g_w R C b_w :: (s_0, .inr (10, [.ref g_w, .ref g_l, .ref g_r, .int i1, .int i2, .int i3, .int i4_4])) :: w) 5 4 g_w b_w R C f3_4 (nI t) t (nI t) t rfl rfl hs rfl rfl (by omega)) ⟨rfl, by decide, by decide, by decide +kernel⟩ wm_6_188 wm_5_238 wm_5_239 wm_1_7 wm_6_0 ⟨Nat.le_of_ble_eq_true rfl, Nat.le_of_ble_eq_true rfl⟩ ⟨Nat.le_of_ble_eq_true rfl, Nat.le_of_ble_eq_true rfl⟩ rfl rfl rfl rfl hl.1 rfl (Nat.le_of_ble_eq_true rfl) dX9_takeOff_37 (fun o w' H locs hp hB => ?_)
          obtain ⟨rfl, hw9⟩ := hp
          replace hB : Bd κ A s (lA κ b_r (C * 5) f1 :: gO g_r C C b_r :: lA κ b_l (R * 5) f2_4 :: gO g_l R R b_l :: lA κ b_w (R * 5) f3_4 :: gO g_w R C b_w :: (s_0, .inr (10, [.ref g_w, .ref g_l, .ref g_r, .int i1, .int i2, .int i3, .int i4_4])) :: w) H locs := by rw [hw9] at hB; exact hB
          refine W.eq (g2 := F0 m 40 ls [.long (f3_4 (t * 5 + t)), .long (f3_4 (y2_4 * 5 + t))]) rfl ?_
          refine call_S (n := 2) (As := [.long (f3_4 (y2_4 * 5 + t)), .long (f3_4 (t * 5 + t))]) (rest := []) hX hB (k_J9_floorDiv_f86c9 κ l (lA κ b_r (C * 5) f1 :: gO g_r C C b_r :: lA κ b_l (R * 5) f2_4 :: gO g_l R R b_l :: lA κ b_w (R * 5) f3_4 :: gO g_w R C b_w :: (s_0, .inr (10, [.ref g_w, .ref g_l, .ref g_r, .int i1, .int i2, .int i3, .int i4_4])) :: w) (f3_4 (y2_4 * 5 + t)) (f3_4 (t * 5 + t)) (T1_pv hT1 hp)) ⟨by decide, by decide, by decide +kernel⟩ wm_6_205 wm_2_20 wm_1_14 wm_2_21 ⟨Nat.le_of_ble_eq_true rfl, Nat.le_of_ble_eq_true rfl⟩ ⟨Nat.le_of_ble_eq_true rfl, Nat.le_of_ble_eq_true rfl⟩ rfl hl.1 rfl (Nat.le_of_ble_eq_true rfl) dX9_takeOff_40 (fun o w' H locs hp hB => ?_)
          obtain ⟨x101, rfl, ex101, hw9⟩ := hp
          rw [hw9] at hB
          subst ex101
          refine W.eq (g2 := F0 m 43 ls [.long (fdv (f3_4 (y2_4 * 5 + t)) (f3_4 (t * 5 + t)))]) rfl ?_
          refine lv_lstore_n (lv' := [(3, .long (fdv (f3_4 (y2_4 * 5 + t)) (f3_4 (t * 5 + t)))), (2, .int (nI y2_4)), (0, .ref s_0), (1, .int (nI t))]) hx hb dX9_takeOff_43 rfl hl (by decide) rfl (fun ls hl => ?_)
          refine lv_aload_n hx hb dX9_takeOff_44 rfl (lv_at hl 2 rfl) ?_
          refine gf (k0 := 6) hX hB rfl rfl in9 0 (by decide) wm_6_221 rfl rfl dX9_takeOff_45 ?_
          refine lv_iload_n hx hb dX9_takeOff_48 rfl (lv_at hl 1 rfl) ?_
          refine lv_iload_n hx hb dX9_takeOff_49 rfl (lv_at hl 3 rfl) ?_
          refine lv_lload_n hx hb dX9_takeOff_50 rfl (lv_at hl 0 rfl) ?_
          refine lv_lneg hx hb dX9_takeOff_51 ?_
          refine call_V (n := 3) (k0 := 5) (As := [.int (nI y2_4), .int (nI t), .long (-(fdv (f3_4 (y2_4 * 5 + t)) (f3_4 (t * 5 + t))))]) (rest := []) hX hB (k_X7_addRow κ l (lA κ b_r (C * 5) f1 :: gO g_r C C b_r :: lA κ b_l (R * 5) f2_4 :: gO g_l R R b_l :: lA κ b_w (R * 5) f3_4 :: gO g_w R C b_w :: (s_0, .inr (10, [.ref g_w, .ref g_l, .ref g_r, .int i1, .int i2, .int i3, .int i4_4])) :: w) 5 4 g_w b_w R C f3_4 (nI y2_4) y2_4 (nI t) t (-(fdv (f3_4 (y2_4 * 5 + t)) (f3_4 (t * 5 + t)))) rfl rfl hs rfl rfl (by omega) (by omega) (by omega)) ⟨rfl, by decide, by decide, by decide +kernel⟩ wm_6_206 wm_6_80 wm_6_81 wm_1_7 wm_6_82 ⟨Nat.le_of_ble_eq_true rfl, Nat.le_of_ble_eq_true rfl⟩ ⟨Nat.le_of_ble_eq_true rfl, Nat.le_of_ble_eq_true rfl⟩ rfl rfl rfl rfl hl.1 rfl (Nat.le_of_ble_eq_true rfl) dX9_takeOff_52 (fun o w' H locs hp hB => ?_)
          obtain ⟨rfl, hw9⟩ := hp
          replace hB : Bd κ A s (lA κ b_r (C * 5) f1 :: gO g_r C C b_r :: lA κ b_l (R * 5) f2_4 :: gO g_l R R b_l :: lA κ b_w (R * 5) (ar C y2_4 t (-(fdv (f3_4 (y2_4 * 5 + t)) (f3_4 (t * 5 + t)))) f3_4) :: gO g_w R C b_w :: (s_0, .inr (10, [.ref g_w, .ref g_l, .ref g_r, .int i1, .int i2, .int i3, .int i4_4])) :: w) H locs := by rw [hw9] at hB; exact hB
          refine W.eq (g2 := F0 m 55 ls []) rfl ?_
          refine lv_aload_n hx hb dX9_takeOff_55 rfl (lv_at hl 2 rfl) ?_
          refine gf (k0 := 6) hX hB rfl rfl in9 1 (by decide) wm_6_223 rfl rfl dX9_takeOff_56 ?_
          refine lv_iload_n hx hb dX9_takeOff_59 rfl (lv_at hl 1 rfl) ?_
          refine lv_iload_n hx hb dX9_takeOff_60 rfl (lv_at hl 3 rfl) ?_
          refine lv_lload_n hx hb dX9_takeOff_61 rfl (lv_at hl 0 rfl) ?_
          refine lv_lneg hx hb dX9_takeOff_62 ?_
          refine call_V (n := 3) (k0 := 3) (As := [.int (nI y2_4), .int (nI t), .long (-(fdv (f3_4 (y2_4 * 5 + t)) (f3_4 (t * 5 + t))))]) (rest := []) hX hB (k_X7_addRow κ l (lA κ b_r (C * 5) f1 :: gO g_r C C b_r :: lA κ b_l (R * 5) f2_4 :: gO g_l R R b_l :: lA κ b_w (R * 5) (ar C y2_4 t (-(fdv (f3_4 (y2_4 * 5 + t)) (f3_4 (t * 5 + t)))) f3_4) :: gO g_w R C b_w :: (s_0, .inr (10, [.ref g_w, .ref g_l, .ref g_r, .int i1, .int i2, .int i3, .int i4_4])) :: w) 3 2 g_l b_l R R f2_4 (nI y2_4) y2_4 (nI t) t (-(fdv (f3_4 (y2_4 * 5 + t)) (f3_4 (t * 5 + t)))) rfl rfl ⟨by omega, by omega, by omega, by omega⟩ rfl rfl (by omega) (by omega) (by omega)) ⟨rfl, by decide, by decide, by decide +kernel⟩ wm_6_206 wm_6_80 wm_6_81 wm_1_7 wm_6_82 ⟨Nat.le_of_ble_eq_true rfl, Nat.le_of_ble_eq_true rfl⟩ ⟨Nat.le_of_ble_eq_true rfl, Nat.le_of_ble_eq_true rfl⟩ rfl rfl rfl rfl hl.1 rfl (Nat.le_of_ble_eq_true rfl) dX9_takeOff_63 (fun o w' H locs hp hB => ?_)
          obtain ⟨rfl, hw9⟩ := hp
          replace hB : Bd κ A s (lA κ b_r (C * 5) f1 :: gO g_r C C b_r :: lA κ b_l (R * 5) (ar R y2_4 t (-(fdv (f3_4 (y2_4 * 5 + t)) (f3_4 (t * 5 + t)))) f2_4) :: gO g_l R R b_l :: lA κ b_w (R * 5) (ar C y2_4 t (-(fdv (f3_4 (y2_4 * 5 + t)) (f3_4 (t * 5 + t)))) f3_4) :: gO g_w R C b_w :: (s_0, .inr (10, [.ref g_w, .ref g_l, .ref g_r, .int i1, .int i2, .int i3, .int i4_4])) :: w) H locs := by rw [hw9] at hB; exact hB
          refine W.eq (g2 := F0 m 66 ls []) rfl ?_
          refine lv_aload_n hx hb dX9_takeOff_66 rfl (lv_at hl 2 rfl) ?_
          obtain ⟨G102, hd103⟩ := ex1 (D_X9_look R C f1 (ar R y2_4 t (-(fdv (f3_4 (y2_4 * 5 + t)) (f3_4 (t * 5 + t)))) f2_4) (ar C y2_4 t (-(fdv (f3_4 (y2_4 * 5 + t)) (f3_4 (t * 5 + t)))) f3_4) i1 i2 i3 i4_4)
          replace hR := bnd1_use hd103 hR
          refine call_V (n := 0) (k0 := 6) (As := []) (rest := []) hX hB (k_X9_look κ l (w) s_0 g_r b_r g_l b_l g_w b_w R C f1 (ar R y2_4 t (-(fdv (f3_4 (y2_4 * 5 + t)) (f3_4 (t * 5 + t)))) f2_4) (ar C y2_4 t (-(fdv (f3_4 (y2_4 * 5 + t)) (f3_4 (t * 5 + t)))) f3_4) i1 i2 i3 i4_4 hs (by omega) hT1.1 G102 hd103) ⟨rfl, by decide, by decide, by decide +kernel⟩ wm_6_207 wm_6_209 wp_45 wm_1_16 wm_6_210 ⟨Nat.le_of_ble_eq_true rfl, Nat.le_of_ble_eq_true rfl⟩ ⟨Nat.le_of_ble_eq_true rfl, Nat.le_of_ble_eq_true rfl⟩ rfl rfl rfl rfl hl.1 rfl (Nat.le_of_ble_eq_true rfl) dX9_takeOff_67 (fun o w' H locs hp hB => ?_)
          obtain ⟨rfl, hf104, hf105, hw9⟩ := hp
          replace hB : Bd κ A s (lA κ b_r (C * 5) f1 :: gO g_r C C b_r :: lA κ b_l (R * 5) (ar R y2_4 t (-(fdv (f3_4 (y2_4 * 5 + t)) (f3_4 (t * 5 + t)))) f2_4) :: gO g_l R R b_l :: lA κ b_w (R * 5) (ar C y2_4 t (-(fdv (f3_4 (y2_4 * 5 + t)) (f3_4 (t * 5 + t)))) f3_4) :: gO g_w R C b_w :: (s_0, .inr (10, [.ref g_w, .ref g_l, .ref g_r, .int i1, .int i2, .int i3, .int G102])) :: w) H locs := by rw [hw9] at hB; exact hB
          refine W.eq (g2 := F0 m 70 ls []) rfl ?_
          refine lv_iinc (v := nI (y2_4 + 1)) (lv' := [(2, .int (nI (y2_4 + 1))), (3, .long (fdv (f3_4 (y2_4 * 5 + t)) (f3_4 (t * 5 + t)))), (0, .ref s_0), (1, .int (nI t))]) hx hb dX9_takeOff_70 hl (k := 1) rfl (nI_add y2_4 1) (by decide) rfl (fun ls hl => ?_)
          refine lv_goto (tgt := 4) hx hb dX9_takeOff_73 (by decide) ?_
          exact ih4 (y2_4 + 1) (ar R y2_4 t (-(fdv (f3_4 (y2_4 * 5 + t)) (f3_4 (t * 5 + t)))) f2_4) (ar C y2_4 t (-(fdv (f3_4 (y2_4 * 5 + t)) (f3_4 (t * 5 + t)))) f3_4) G102 _ _ (by omega) (by omega) (T1_s hs4 (by omega) (by omega) (by omega) hT1 hf104 hf105) (by omega) hR hB _ (lv_sub hl [0, 2, 3] rfl)
  exact lp4 _ (t + 1) f2 f3 i4 _ _ (by omega) (by omega) (T1_0 hng (Or.inl hg0)) (Nat.lt_succ_self _) hR hB _ hl
noncomputable def D_X9_isAlone_41 (C : Nat) (f3 : Nat → Int64) (t : Nat) (nn : Nat) : Nat → Int32 := @Nat.rec (fun _ => Nat → Int32) (fun _ => default) (fun _ lb41 (y2_41 : Nat) => (if C ≤ y2_41 then 1 else (if (lg_cmp (f3 (t * 5 + y2_41)) 0) = 0 then (lb41 (y2_41 + 1)) else 0))) nn
theorem D_X9_isAlone_41_s {C : Nat} {f3 : Nat → Int64} {t : Nat} {nn : Nat} {y2_41 : Nat} : D_X9_isAlone_41 C f3 t (nn + 1) y2_41 = (if C ≤ y2_41 then 1 else (if (lg_cmp (f3 (t * 5 + y2_41)) 0) = 0 then ((D_X9_isAlone_41 C f3 t nn) (y2_41 + 1)) else 0)) := rfl
noncomputable def D_X9_isAlone_4 (R : Nat) (C : Nat) (f3 : Nat → Int64) (t : Nat) (nn : Nat) : Nat → Int32 := @Nat.rec (fun _ => Nat → Int32) (fun _ => default) (fun _ lb4 (y2_4 : Nat) => (if R ≤ y2_4 then (D_X9_isAlone_41 C f3 t (C + 1 - (t + 1) + 1) (t + 1)) else (if (lg_cmp (f3 (y2_4 * 5 + t)) 0) = 0 then (lb4 (y2_4 + 1)) else 0))) nn
theorem D_X9_isAlone_4_s {R : Nat} {C : Nat} {f3 : Nat → Int64} {t : Nat} {nn : Nat} {y2_4 : Nat} : D_X9_isAlone_4 R C f3 t (nn + 1) y2_4 = (if R ≤ y2_4 then (D_X9_isAlone_41 C f3 t (C + 1 - (t + 1) + 1) (t + 1)) else (if (lg_cmp (f3 (y2_4 * 5 + t)) 0) = 0 then ((D_X9_isAlone_4 R C f3 t nn) (y2_4 + 1)) else 0)) := rfl
noncomputable def D_X9_isAlone (R : Nat) (C : Nat) (f1 : Nat → Int64) (f2 : Nat → Int64) (f3 : Nat → Int64) (i1 : Int32) (i2 : Int32) (i3 : Int32) (i4 : Int32) (t : Nat) : Int32 := (D_X9_isAlone_4 R C f3 t (R + 1 - (t + 1) + 1) (t + 1))
theorem D_X9_isAlone_s {R : Nat} {C : Nat} {f1 : Nat → Int64} {f2 : Nat → Int64} {f3 : Nat → Int64} {i1 : Int32} {i2 : Int32} {i3 : Int32} {i4 : Int32} {t : Nat} : D_X9_isAlone R C f1 f2 f3 i1 i2 i3 i4 t = (D_X9_isAlone_4 R C f3 t (R + 1 - (t + 1) + 1) (t + 1)) := rfl
set_option maxHeartbeats 4000000 in
set_option maxRecDepth 100000 in
theorem k_X9_isAlone (κ : Kt) (l : Launch) (w : va_W) (s_0 g_r b_r g_l b_l g_w b_w R C : Nat) (f1 f2 f3 : Nat → Int64) (i1 i2 i3 i4 : Int32) (xt : Int32) (t : Nat) (hs : shp R C) (hC4 : C ≤ 4) (hxt : xt = nI t) (ht : t < R ∧ t < C) (o_x : Int32) (hR : D_X9_isAlone R C f1 f2 f3 i1 i2 i3 i4 t = o_x) : CM κ l yX9_isAlone cX9_isAlone 3 (some .boolean) 1 22 0 0 [.ref s_0, .int xt] (lA κ b_r (C * 5) f1 :: gO g_r C C b_r :: lA κ b_l (R * 5) f2 :: gO g_l R R b_l :: lA κ b_w (R * 5) f3 :: gO g_w R C b_w :: (s_0, .inr (10, [.ref g_w, .ref g_l, .ref g_r, .int i1, .int i2, .int i3, .int i4])) :: w) (fun o w' => o = some (.int o_x) ∧ (o_x = 0 ∧ (∃ i j, t ≤ i ∧ i < R ∧ t ≤ j ∧ j < C ∧ (i = t ∧ t < j ∨ t < i ∧ j = t) ∧ ¬ f3 (i * 5 + j) = 0) ∨ o_x = 1 ∧ (∀ i, t < i → i < R → f3 (i * 5 + t) = 0) ∧ ∀ j, t < j → j < C → f3 (t * 5 + j) = 0) ∧ w' = lA κ b_r (C * 5) f1 :: gO g_r C C b_r :: lA κ b_l (R * 5) f2 :: gO g_l R R b_l :: lA κ b_w (R * 5) f3 :: gO g_w R C b_w :: (s_0, .inr (10, [.ref g_w, .ref g_l, .ref g_r, .int i1, .int i2, .int i3, .int i4])) :: w) := by
  have hs0 := hs
  obtain ⟨hs1, hs2, hs3, hs4⟩ := hs0
  subst hxt
  refine CM_begin (plainFor_of_name (by decide)) (Nat.le_of_ble_eq_true rfl) ?_
  intro p e s m args below meth c A Q hX hnm hA3 hQ hB ls hl
  have hx := hX.1.1
  have hb := hX.1.2.1
  have hl : lv_has ls 3 [(0, .ref s_0), (1, .int (nI t))] := hl
  obtain ⟨ht1, ht2⟩ := ht
  replace hR := (D_X9_isAlone_s).symm.trans hR
  refine lv_iload_n hx hb dX9_isAlone_0 rfl (lv_at hl 1 rfl) ?_
  refine lv_iconst (v := 1) hx hb dX9_isAlone_1 (by decide) ?_
  refine lv_iadd hx hb dX9_isAlone_2 ?_
  refine eqi (y := nI (t + 1)) (nI_add t 1) ?_
  refine lv_istore_n (lv' := [(2, .int (nI (t + 1))), (0, .ref s_0), (1, .int (nI t))]) hx hb dX9_isAlone_3 rfl hl (by decide) rfl (fun ls hl => ?_)
  have lp4 : ∀ (nn4 : Nat) (y2_4 : Nat) (H : Heap) (locs : List Loc), (y2_4 ≤ R) → (t + 1 ≤ y2_4) → (∀ i, t < i → i < y2_4 → f3 (i * 5 + t) = 0) → R + 1 - y2_4 < nn4 → D_X9_isAlone_4 R C f3 t nn4 y2_4 = o_x → Bd κ A s (lA κ b_r (C * 5) f1 :: gO g_r C C b_r :: lA κ b_l (R * 5) f2 :: gO g_l R R b_l :: lA κ b_w (R * 5) f3 :: gO g_w R C b_w :: (s_0, .inr (10, [.ref g_w, .ref g_l, .ref g_r, .int i1, .int i2, .int i3, .int i4])) :: w) H locs → ∀ ls : Array Slot, lv_has ls 3 [(2, .int (nI y2_4)), (0, .ref s_0), (1, .int (nI t))] → W p l e (Rm 1 22 0 0) s m args below meth c H locs (0) (0) Q (F0 m 4 ls []) := by
    intro nn4
    induction nn4 with
    | zero => intro y2_4 H locs hn2_4 hlo4 hA1 hμ; exact absurd hμ (Nat.not_lt_zero _)
    | succ nn4 ih4 =>
      intro y2_4 H locs hn2_4 hlo4 hA1 hμ4 hR hB ls hl
      replace hR := (D_X9_isAlone_4_s).symm.trans hR
      refine lv_iload_n hx hb dX9_isAlone_4 rfl (lv_at hl 0 rfl) ?_
      refine lv_aload_n hx hb dX9_isAlone_5 rfl (lv_at hl 1 rfl) ?_
      refine gf (k0 := 6) hX hB rfl rfl in9 0 (by decide) wm_6_221 rfl rfl dX9_isAlone_6 ?_
      refine gf (k0 := 5) hX hB rfl rfl in7 0 (by decide) wm_5_147 rfl rfl dX9_isAlone_9 ?_
      refine lv_icmp_ge (tgt := 37) hx hb dX9_isAlone_12 (by decide) (fun c17 => ?_) (fun c17 => ?_)
      · rw [nleP (a := R) (b := y2_4) (by omega) (by omega)] at c17
        replace hR := ifp c17 hR
        refine lv_iload_n hx hb dX9_isAlone_37 rfl (lv_at hl 2 rfl) ?_
        refine lv_iconst (v := 1) hx hb dX9_isAlone_38 (by decide) ?_
        refine lv_iadd hx hb dX9_isAlone_39 ?_
        refine eqi (y := nI (t + 1)) (nI_add t 1) ?_
        refine lv_istore_n (lv' := [(2, .int (nI (t + 1))), (0, .ref s_0), (1, .int (nI t))]) hx hb dX9_isAlone_40 rfl hl (by decide) rfl (fun ls hl => ?_)
        have lp41 : ∀ (nn41 : Nat) (y2_41 : Nat) (H : Heap) (locs : List Loc), (y2_41 ≤ C) → (t + 1 ≤ y2_41) → (∀ j, t < j → j < y2_41 → f3 (t * 5 + j) = 0) → C + 1 - y2_41 < nn41 → D_X9_isAlone_41 C f3 t nn41 y2_41 = o_x → Bd κ A s (lA κ b_r (C * 5) f1 :: gO g_r C C b_r :: lA κ b_l (R * 5) f2 :: gO g_l R R b_l :: lA κ b_w (R * 5) f3 :: gO g_w R C b_w :: (s_0, .inr (10, [.ref g_w, .ref g_l, .ref g_r, .int i1, .int i2, .int i3, .int i4])) :: w) H locs → ∀ ls : Array Slot, lv_has ls 3 [(2, .int (nI y2_41)), (0, .ref s_0), (1, .int (nI t))] → W p l e (Rm 1 22 0 0) s m args below meth c H locs (0) (0) Q (F0 m 41 ls []) := by
          intro nn41
          induction nn41 with
          | zero => intro y2_41 H locs hn2_41 hlo41 hA2 hμ; exact absurd hμ (Nat.not_lt_zero _)
          | succ nn41 ih41 =>
            intro y2_41 H locs hn2_41 hlo41 hA2 hμ41 hR hB ls hl
            replace hR := (D_X9_isAlone_41_s).symm.trans hR
            refine lv_iload_n hx hb dX9_isAlone_41 rfl (lv_at hl 0 rfl) ?_
            refine lv_aload_n hx hb dX9_isAlone_42 rfl (lv_at hl 1 rfl) ?_
            refine gf (k0 := 6) hX hB rfl rfl in9 0 (by decide) wm_6_221 rfl rfl dX9_isAlone_43 ?_
            refine gf (k0 := 5) hX hB rfl rfl in7 1 (by decide) wm_5_150 rfl rfl dX9_isAlone_46 ?_
            refine lv_icmp_ge (tgt := 74) hx hb dX9_isAlone_49 (by decide) (fun c22 => ?_) (fun c22 => ?_)
            · rw [nleP (a := C) (b := y2_41) (by omega) (by omega)] at c22
              replace hR := ifp c22 hR
              refine lv_iconst (v := 1) hx hb dX9_isAlone_74 (by decide) ?_
              rw [← hQ]
              exact end_i hX hB hA3 rfl rfl (by obtain rfl := hR; exact ⟨rfl, (Or.inr ⟨rfl, fun i h1 h2 => hA1 i h1 (by omega), fun j h1 h2 => hA2 j h1 (by omega)⟩), rfl⟩) (Nat.le_of_ble_eq_true rfl) (Nat.le_of_ble_eq_true rfl) dX9_isAlone_75
            · rw [nleP (a := C) (b := y2_41) (by omega) (by omega)] at c22
              replace hR := ifn c22 hR
              refine lv_aload_n hx hb dX9_isAlone_52 rfl (lv_at hl 1 rfl) ?_
              refine gf (k0 := 6) hX hB rfl rfl in9 0 (by decide) wm_6_221 rfl rfl dX9_isAlone_53 ?_
              refine lv_iload_n hx hb dX9_isAlone_56 rfl (lv_at hl 2 rfl) ?_
              refine lv_iload_n hx hb dX9_isAlone_57 rfl (lv_at hl 0 rfl) ?_
              refine call_V (n := 2) (k0 := 5) (As := [.int (nI t), .int (nI y2_41)]) (rest := []) hX hB (k_X7_at κ l (lA κ b_r (C * 5) f1 :: gO g_r C C b_r :: lA κ b_l (R * 5) f2 :: gO g_l R R b_l :: lA κ b_w (R * 5) f3 :: gO g_w R C b_w :: (s_0, .inr (10, [.ref g_w, .ref g_l, .ref g_r, .int i1, .int i2, .int i3, .int i4])) :: w) 5 4 g_w b_w R C f3 (nI t) t (nI y2_41) y2_41 rfl rfl hs rfl rfl (by omega)) ⟨rfl, by decide, by decide, by decide +kernel⟩ wm_6_188 wm_5_238 wm_5_239 wm_1_7 wm_6_0 ⟨Nat.le_of_ble_eq_true rfl, Nat.le_of_ble_eq_true rfl⟩ ⟨Nat.le_of_ble_eq_true rfl, Nat.le_of_ble_eq_true rfl⟩ rfl rfl rfl rfl hl.1 rfl (Nat.le_of_ble_eq_true rfl) dX9_isAlone_58 (fun o w' H locs hp hB => ?_)
              obtain ⟨rfl, hw9⟩ := hp
              replace hB : Bd κ A s (lA κ b_r (C * 5) f1 :: gO g_r C C b_r :: lA κ b_l (R * 5) f2 :: gO g_l R R b_l :: lA κ b_w (R * 5) f3 :: gO g_w R C b_w :: (s_0, .inr (10, [.ref g_w, .ref g_l, .ref g_r, .int i1, .int i2, .int i3, .int i4])) :: w) H locs := by rw [hw9] at hB; exact hB
              refine W.eq (g2 := F0 m 61 ls [.long (f3 (t * 5 + y2_41))]) rfl ?_
              refine lv_lconst (v := 0) hx hb dX9_isAlone_61 (by decide) ?_
              refine W.lcmp hx hb dX9_isAlone_62 ?_
              refine lv_if_eq (tgt := 68) hx hb dX9_isAlone_63 (by decide) (fun c23 => ?_) (fun c23 => ?_)
              · replace hR := ifp c23 hR
                refine lv_iinc (v := nI (y2_41 + 1)) (lv' := [(2, .int (nI (y2_41 + 1))), (0, .ref s_0), (1, .int (nI t))]) hx hb dX9_isAlone_68 hl (k := 0) rfl (nI_add y2_41 1) (by decide) rfl (fun ls hl => ?_)
                refine lv_goto (tgt := 41) hx hb dX9_isAlone_71 (by decide) ?_
                exact ih41 (y2_41 + 1) _ _ (by omega) (by omega) (fun i h1 h2 => (Nat.lt_succ_iff_lt_or_eq.mp h2).elim (hA2 i h1) (fun e => e ▸ lg0.mp (by assumption))) (by omega) hR hB _ hl
              · replace hR := ifn c23 hR
                refine lv_iconst (v := 0) hx hb dX9_isAlone_66 (by decide) ?_
                rw [← hQ]
                exact end_i hX hB hA3 rfl rfl (by obtain rfl := hR; exact ⟨rfl, (Or.inl ⟨rfl, t, y2_41, Nat.le_refl _, (by omega), (by omega), (by omega), Or.inl ⟨rfl, (by omega)⟩, fun e => absurd (lg0.mpr e) (by assumption)⟩), rfl⟩) (Nat.le_of_ble_eq_true rfl) (Nat.le_of_ble_eq_true rfl) dX9_isAlone_67
        exact lp41 _ (t + 1) _ _ (by omega) (by omega) (fun i h1 h2 => absurd h2 (by omega)) (Nat.lt_succ_self _) hR hB _ hl
      · rw [nleP (a := R) (b := y2_4) (by omega) (by omega)] at c17
        replace hR := ifn c17 hR
        refine lv_aload_n hx hb dX9_isAlone_15 rfl (lv_at hl 1 rfl) ?_
        refine gf (k0 := 6) hX hB rfl rfl in9 0 (by decide) wm_6_221 rfl rfl dX9_isAlone_16 ?_
        refine lv_iload_n hx hb dX9_isAlone_19 rfl (lv_at hl 0 rfl) ?_
        refine lv_iload_n hx hb dX9_isAlone_20 rfl (lv_at hl 2 rfl) ?_
        refine call_V (n := 2) (k0 := 5) (As := [.int (nI y2_4), .int (nI t)]) (rest := []) hX hB (k_X7_at κ l (lA κ b_r (C * 5) f1 :: gO g_r C C b_r :: lA κ b_l (R * 5) f2 :: gO g_l R R b_l :: lA κ b_w (R * 5) f3 :: gO g_w R C b_w :: (s_0, .inr (10, [.ref g_w, .ref g_l, .ref g_r, .int i1, .int i2, .int i3, .int i4])) :: w) 5 4 g_w b_w R C f3 (nI y2_4) y2_4 (nI t) t rfl rfl hs rfl rfl (by omega)) ⟨rfl, by decide, by decide, by decide +kernel⟩ wm_6_188 wm_5_238 wm_5_239 wm_1_7 wm_6_0 ⟨Nat.le_of_ble_eq_true rfl, Nat.le_of_ble_eq_true rfl⟩ ⟨Nat.le_of_ble_eq_true rfl, Nat.le_of_ble_eq_true rfl⟩ rfl rfl rfl rfl hl.1 rfl (Nat.le_of_ble_eq_true rfl) dX9_isAlone_21 (fun o w' H locs hp hB => ?_)
        obtain ⟨rfl, hw9⟩ := hp
        replace hB : Bd κ A s (lA κ b_r (C * 5) f1 :: gO g_r C C b_r :: lA κ b_l (R * 5) f2 :: gO g_l R R b_l :: lA κ b_w (R * 5) f3 :: gO g_w R C b_w :: (s_0, .inr (10, [.ref g_w, .ref g_l, .ref g_r, .int i1, .int i2, .int i3, .int i4])) :: w) H locs := by rw [hw9] at hB; exact hB
        refine W.eq (g2 := F0 m 24 ls [.long (f3 (y2_4 * 5 + t))]) rfl ?_
        refine lv_lconst (v := 0) hx hb dX9_isAlone_24 (by decide) ?_
        refine W.lcmp hx hb dX9_isAlone_25 ?_
        refine lv_if_eq (tgt := 31) hx hb dX9_isAlone_26 (by decide) (fun c24 => ?_) (fun c24 => ?_)
        · replace hR := ifp c24 hR
          refine lv_iinc (v := nI (y2_4 + 1)) (lv' := [(2, .int (nI (y2_4 + 1))), (0, .ref s_0), (1, .int (nI t))]) hx hb dX9_isAlone_31 hl (k := 0) rfl (nI_add y2_4 1) (by decide) rfl (fun ls hl => ?_)
          refine lv_goto (tgt := 4) hx hb dX9_isAlone_34 (by decide) ?_
          exact ih4 (y2_4 + 1) _ _ (by omega) (by omega) (fun i h1 h2 => (Nat.lt_succ_iff_lt_or_eq.mp h2).elim (hA1 i h1) (fun e => e ▸ lg0.mp (by assumption))) (by omega) hR hB _ hl
        · replace hR := ifn c24 hR
          refine lv_iconst (v := 0) hx hb dX9_isAlone_29 (by decide) ?_
          rw [← hQ]
          exact end_i hX hB hA3 rfl rfl (by obtain rfl := hR; exact ⟨rfl, (Or.inl ⟨rfl, y2_4, t, (by omega), (by omega), Nat.le_refl _, (by omega), Or.inr ⟨(by omega), rfl⟩, fun e => absurd (lg0.mpr e) (by assumption)⟩), rfl⟩) (Nat.le_of_ble_eq_true rfl) (Nat.le_of_ble_eq_true rfl) dX9_isAlone_30
  exact lp4 _ (t + 1) _ _ (by omega) (by omega) (fun i h1 h2 => absurd h2 (by omega)) (Nat.lt_succ_self _) hR hB _ hl
noncomputable def D_X9_isDividing_19 (R : Nat) (C : Nat) (f1 : Nat → Int64) (f2 : Nat → Int64) (f3 : Nat → Int64) (i1 : Int32) (i2 : Int32) (i3 : Int32) (i4 : Int32) (t : Nat) (lb4 : Nat → Int32 × (Nat → Int64) × (Nat → Int64) × Int32) (y2_4 : Nat) (nn : Nat) : Nat → Int32 × (Nat → Int64) × (Nat → Int64) × Int32 := @Nat.rec (fun _ => Nat → Int32 × (Nat → Int64) × (Nat → Int64) × Int32) (fun _ => default) (fun _ lb19 (y3_19 : Nat) => (if C ≤ y3_19 then (lb4 (y2_4 + 1)) else (if (lg_cmp ((f3 (y2_4 * 5 + y3_19)) - (f3 (y2_4 * 5 + y3_19)) / (f3 (t * 5 + t)) * (f3 (t * 5 + t))) 0) = 0 then (lb19 (y3_19 + 1)) else bnd1 (D_X9_look R C f1 (ar R t y2_4 1 f2) (ar C t y2_4 1 f3) i1 i2 i3 i4) (fun (G54 : Int32) => (0, ar R t y2_4 1 f2, ar C t y2_4 1 f3, G54))))) nn
theorem D_X9_isDividing_19_s {R : Nat} {C : Nat} {f1 : Nat → Int64} {f2 : Nat → Int64} {f3 : Nat → Int64} {i1 : Int32} {i2 : Int32} {i3 : Int32} {i4 : Int32} {t : Nat} {lb4 : Nat → Int32 × (Nat → Int64) × (Nat → Int64) × Int32} {y2_4 : Nat} {nn : Nat} {y3_19 : Nat} : D_X9_isDividing_19 R C f1 f2 f3 i1 i2 i3 i4 t lb4 y2_4 (nn + 1) y3_19 = (if C ≤ y3_19 then (lb4 (y2_4 + 1)) else (if (lg_cmp ((f3 (y2_4 * 5 + y3_19)) - (f3 (y2_4 * 5 + y3_19)) / (f3 (t * 5 + t)) * (f3 (t * 5 + t))) 0) = 0 then ((D_X9_isDividing_19 R C f1 f2 f3 i1 i2 i3 i4 t lb4 y2_4 nn) (y3_19 + 1)) else bnd1 (D_X9_look R C f1 (ar R t y2_4 1 f2) (ar C t y2_4 1 f3) i1 i2 i3 i4) (fun (G54 : Int32) => (0, ar R t y2_4 1 f2, ar C t y2_4 1 f3, G54)))) := rfl
noncomputable def D_X9_isDividing_4 (R : Nat) (C : Nat) (f1 : Nat → Int64) (f2 : Nat → Int64) (f3 : Nat → Int64) (i1 : Int32) (i2 : Int32) (i3 : Int32) (i4 : Int32) (t : Nat) (nn : Nat) : Nat → Int32 × (Nat → Int64) × (Nat → Int64) × Int32 := @Nat.rec (fun _ => Nat → Int32 × (Nat → Int64) × (Nat → Int64) × Int32) (fun _ => default) (fun _ lb4 (y2_4 : Nat) => (if R ≤ y2_4 then (1, f2, f3, i4) else (D_X9_isDividing_19 R C f1 f2 f3 i1 i2 i3 i4 t lb4 y2_4 (C + 1 - (t + 1) + 1) (t + 1)))) nn
theorem D_X9_isDividing_4_s {R : Nat} {C : Nat} {f1 : Nat → Int64} {f2 : Nat → Int64} {f3 : Nat → Int64} {i1 : Int32} {i2 : Int32} {i3 : Int32} {i4 : Int32} {t : Nat} {nn : Nat} {y2_4 : Nat} : D_X9_isDividing_4 R C f1 f2 f3 i1 i2 i3 i4 t (nn + 1) y2_4 = (if R ≤ y2_4 then (1, f2, f3, i4) else (D_X9_isDividing_19 R C f1 f2 f3 i1 i2 i3 i4 t (D_X9_isDividing_4 R C f1 f2 f3 i1 i2 i3 i4 t nn) y2_4 (C + 1 - (t + 1) + 1) (t + 1))) := rfl
noncomputable def D_X9_isDividing (R : Nat) (C : Nat) (f1 : Nat → Int64) (f2 : Nat → Int64) (f3 : Nat → Int64) (i1 : Int32) (i2 : Int32) (i3 : Int32) (i4 : Int32) (t : Nat) : Int32 × (Nat → Int64) × (Nat → Int64) × Int32 := (D_X9_isDividing_4 R C f1 f2 f3 i1 i2 i3 i4 t (R + 1 - (t + 1) + 1) (t + 1))
theorem D_X9_isDividing_s {R : Nat} {C : Nat} {f1 : Nat → Int64} {f2 : Nat → Int64} {f3 : Nat → Int64} {i1 : Int32} {i2 : Int32} {i3 : Int32} {i4 : Int32} {t : Nat} : D_X9_isDividing R C f1 f2 f3 i1 i2 i3 i4 t = (D_X9_isDividing_4 R C f1 f2 f3 i1 i2 i3 i4 t (R + 1 - (t + 1) + 1) (t + 1)) := rfl
set_option maxHeartbeats 4000000 in
set_option maxRecDepth 100000 in
theorem k_X9_isDividing (κ : Kt) (l : Launch) (w : va_W) (s_0 g_r b_r g_l b_l g_w b_w R C : Nat) (f1 f2 f3 : Nat → Int64) (i1 i2 i3 i4 : Int32) (xt : Int32) (t : Nat) (hs : shp R C) (hC4 : C ≤ 4) (hxt : xt = nI t) (ht : t < R ∧ t < C) (hpv : ¬ f3 (t * 5 + t) = 0) (hgb : i4 = 0 ∨ i4 = 1) (o_x : Int32) (o_F2 : Nat → Int64) (o_F3 : Nat → Int64) (o_G1 : Int32) (hR : D_X9_isDividing R C f1 f2 f3 i1 i2 i3 i4 t = (o_x, o_F2, o_F3, o_G1)) : CM κ l yX9_isDividing cX9_isDividing 4 (some .boolean) 2 49 0 0 [.ref s_0, .int xt] (lA κ b_r (C * 5) f1 :: gO g_r C C b_r :: lA κ b_l (R * 5) f2 :: gO g_l R R b_l :: lA κ b_w (R * 5) f3 :: gO g_w R C b_w :: (s_0, .inr (10, [.ref g_w, .ref g_l, .ref g_r, .int i1, .int i2, .int i3, .int i4])) :: w) (fun o w' => o = some (.int o_x) ∧ (o_x = 1 ∧ o_F3 = f3 ∧ o_G1 = i4 ∨ o_x = 0 ∧ (o_G1 = 0 ∨ o_G1 = 1) ∧ (o_G1 = 0 → i4 = 0 ∧ ∀ k, k < R * 5 → ng (o_F3 k)) ∧ ∃ i j, t < i ∧ i < R ∧ t < j ∧ j < C ∧ ¬ f3 (i * 5 + j) - f3 (i * 5 + j) / f3 (t * 5 + t) * f3 (t * 5 + t) = 0 ∧ o_F3 = ar C t i 1 f3) ∧ w' = lA κ b_r (C * 5) f1 :: gO g_r C C b_r :: lA κ b_l (R * 5) o_F2 :: gO g_l R R b_l :: lA κ b_w (R * 5) o_F3 :: gO g_w R C b_w :: (s_0, .inr (10, [.ref g_w, .ref g_l, .ref g_r, .int i1, .int i2, .int i3, .int o_G1])) :: w) := by
  have hs0 := hs
  obtain ⟨hs1, hs2, hs3, hs4⟩ := hs0
  subst hxt
  refine CM_begin (plainFor_of_name (by decide)) (Nat.le_of_ble_eq_true rfl) ?_
  intro p e s m args below meth c A Q hX hnm hA3 hQ hB ls hl
  have hx := hX.1.1
  have hb := hX.1.2.1
  have hl : lv_has ls 4 [(0, .ref s_0), (1, .int (nI t))] := hl
  obtain ⟨ht1, ht2⟩ := ht
  replace hR := (D_X9_isDividing_s).symm.trans hR
  refine lv_iload_n hx hb dX9_isDividing_0 rfl (lv_at hl 1 rfl) ?_
  refine lv_iconst (v := 1) hx hb dX9_isDividing_1 (by decide) ?_
  refine lv_iadd hx hb dX9_isDividing_2 ?_
  refine eqi (y := nI (t + 1)) (nI_add t 1) ?_
  refine lv_istore_n (lv' := [(2, .int (nI (t + 1))), (0, .ref s_0), (1, .int (nI t))]) hx hb dX9_isDividing_3 rfl hl (by decide) rfl (fun ls hl => ?_)
  have lp4 : ∀ (nn4 : Nat) (y2_4 : Nat) (H : Heap) (locs : List Loc), (y2_4 ≤ R) → (t + 1 ≤ y2_4) → R + 1 - y2_4 < nn4 → D_X9_isDividing_4 R C f1 f2 f3 i1 i2 i3 i4 t nn4 y2_4 = (o_x, o_F2, o_F3, o_G1) → Bd κ A s (lA κ b_r (C * 5) f1 :: gO g_r C C b_r :: lA κ b_l (R * 5) f2 :: gO g_l R R b_l :: lA κ b_w (R * 5) f3 :: gO g_w R C b_w :: (s_0, .inr (10, [.ref g_w, .ref g_l, .ref g_r, .int i1, .int i2, .int i3, .int i4])) :: w) H locs → ∀ ls : Array Slot, lv_has ls 4 [(2, .int (nI y2_4)), (0, .ref s_0), (1, .int (nI t))] → W p l e (Rm 2 49 0 0) s m args below meth c H locs (0) (0) Q (F0 m 4 ls []) := by
    intro nn4
    induction nn4 with
    | zero => intro y2_4 H locs hn2_4 hlo4 hμ; exact absurd hμ (Nat.not_lt_zero _)
    | succ nn4 ih4 =>
      intro y2_4 H locs hn2_4 hlo4 hμ4 hR hB ls hl
      replace hR := (D_X9_isDividing_4_s).symm.trans hR
      refine lv_iload_n hx hb dX9_isDividing_4 rfl (lv_at hl 0 rfl) ?_
      refine lv_aload_n hx hb dX9_isDividing_5 rfl (lv_at hl 1 rfl) ?_
      refine gf (k0 := 6) hX hB rfl rfl in9 0 (by decide) wm_6_221 rfl rfl dX9_isDividing_6 ?_
      refine gf (k0 := 5) hX hB rfl rfl in7 0 (by decide) wm_5_147 rfl rfl dX9_isDividing_9 ?_
      refine lv_icmp_ge (tgt := 92) hx hb dX9_isDividing_12 (by decide) (fun c39 => ?_) (fun c39 => ?_)
      · rw [nleP (a := R) (b := y2_4) (by omega) (by omega)] at c39
        replace hR := ifp c39 hR
        refine lv_iconst (v := 1) hx hb dX9_isDividing_92 (by decide) ?_
        rw [← hQ]
        exact end_i hX hB hA3 rfl rfl (by obtain ⟨rfl, rfl, rfl, rfl⟩ := pr4 hR; exact ⟨rfl, (Or.inl ⟨rfl, rfl, rfl⟩), rfl⟩) (Nat.le_of_ble_eq_true rfl) (Nat.le_of_ble_eq_true rfl) dX9_isDividing_93
      · rw [nleP (a := R) (b := y2_4) (by omega) (by omega)] at c39
        replace hR := ifn c39 hR
        refine lv_iload_n hx hb dX9_isDividing_15 rfl (lv_at hl 2 rfl) ?_
        refine lv_iconst (v := 1) hx hb dX9_isDividing_16 (by decide) ?_
        refine lv_iadd hx hb dX9_isDividing_17 ?_
        refine eqi (y := nI (t + 1)) (nI_add t 1) ?_
        refine lv_istore_n (lv' := [(3, .int (nI (t + 1))), (2, .int (nI y2_4)), (0, .ref s_0), (1, .int (nI t))]) hx hb dX9_isDividing_18 rfl hl (by decide) rfl (fun ls hl => ?_)
        have lp19 : ∀ (nn19 : Nat) (y3_19 : Nat) (H : Heap) (locs : List Loc), (y3_19 ≤ C) → (t + 1 ≤ y3_19) → C + 1 - y3_19 < nn19 → D_X9_isDividing_19 R C f1 f2 f3 i1 i2 i3 i4 t (D_X9_isDividing_4 R C f1 f2 f3 i1 i2 i3 i4 t nn4) y2_4 nn19 y3_19 = (o_x, o_F2, o_F3, o_G1) → Bd κ A s (lA κ b_r (C * 5) f1 :: gO g_r C C b_r :: lA κ b_l (R * 5) f2 :: gO g_l R R b_l :: lA κ b_w (R * 5) f3 :: gO g_w R C b_w :: (s_0, .inr (10, [.ref g_w, .ref g_l, .ref g_r, .int i1, .int i2, .int i3, .int i4])) :: w) H locs → ∀ ls : Array Slot, lv_has ls 4 [(3, .int (nI y3_19)), (2, .int (nI y2_4)), (0, .ref s_0), (1, .int (nI t))] → W p l e (Rm 2 49 0 0) s m args below meth c H locs (0) (0) Q (F0 m 19 ls []) := by
          intro nn19
          induction nn19 with
          | zero => intro y3_19 H locs hn3_19 hlo19 hμ; exact absurd hμ (Nat.not_lt_zero _)
          | succ nn19 ih19 =>
            intro y3_19 H locs hn3_19 hlo19 hμ19 hR hB ls hl
            replace hR := (D_X9_isDividing_19_s).symm.trans hR
            refine lv_iload_n hx hb dX9_isDividing_19 rfl (lv_at hl 0 rfl) ?_
            refine lv_aload_n hx hb dX9_isDividing_20 rfl (lv_at hl 2 rfl) ?_
            refine gf (k0 := 6) hX hB rfl rfl in9 0 (by decide) wm_6_221 rfl rfl dX9_isDividing_21 ?_
            refine gf (k0 := 5) hX hB rfl rfl in7 1 (by decide) wm_5_150 rfl rfl dX9_isDividing_24 ?_
            refine lv_icmp_ge (tgt := 86) hx hb dX9_isDividing_27 (by decide) (fun c52 => ?_) (fun c52 => ?_)
            · rw [nleP (a := C) (b := y3_19) (by omega) (by omega)] at c52
              replace hR := ifp c52 hR
              refine lv_iinc (v := nI (y2_4 + 1)) (lv' := [(2, .int (nI (y2_4 + 1))), (3, .int (nI y3_19)), (0, .ref s_0), (1, .int (nI t))]) hx hb dX9_isDividing_86 hl (k := 1) rfl (nI_add y2_4 1) (by decide) rfl (fun ls hl => ?_)
              refine lv_goto (tgt := 4) hx hb dX9_isDividing_89 (by decide) ?_
              exact ih4 (y2_4 + 1) _ _ (by omega) (by omega) (by omega) hR hB _ (lv_sub hl [0, 2, 3] rfl)
            · rw [nleP (a := C) (b := y3_19) (by omega) (by omega)] at c52
              replace hR := ifn c52 hR
              refine lv_aload_n hx hb dX9_isDividing_30 rfl (lv_at hl 2 rfl) ?_
              refine gf (k0 := 6) hX hB rfl rfl in9 0 (by decide) wm_6_221 rfl rfl dX9_isDividing_31 ?_
              refine lv_iload_n hx hb dX9_isDividing_34 rfl (lv_at hl 1 rfl) ?_
              refine lv_iload_n hx hb dX9_isDividing_35 rfl (lv_at hl 0 rfl) ?_
              refine call_V (n := 2) (k0 := 5) (As := [.int (nI y2_4), .int (nI y3_19)]) (rest := []) hX hB (k_X7_at κ l (lA κ b_r (C * 5) f1 :: gO g_r C C b_r :: lA κ b_l (R * 5) f2 :: gO g_l R R b_l :: lA κ b_w (R * 5) f3 :: gO g_w R C b_w :: (s_0, .inr (10, [.ref g_w, .ref g_l, .ref g_r, .int i1, .int i2, .int i3, .int i4])) :: w) 5 4 g_w b_w R C f3 (nI y2_4) y2_4 (nI y3_19) y3_19 rfl rfl hs rfl rfl (by omega)) ⟨rfl, by decide, by decide, by decide +kernel⟩ wm_6_188 wm_5_238 wm_5_239 wm_1_7 wm_6_0 ⟨Nat.le_of_ble_eq_true rfl, Nat.le_of_ble_eq_true rfl⟩ ⟨Nat.le_of_ble_eq_true rfl, Nat.le_of_ble_eq_true rfl⟩ rfl rfl rfl rfl hl.1 rfl (Nat.le_of_ble_eq_true rfl) dX9_isDividing_36 (fun o w' H locs hp hB => ?_)
              obtain ⟨rfl, hw9⟩ := hp
              replace hB : Bd κ A s (lA κ b_r (C * 5) f1 :: gO g_r C C b_r :: lA κ b_l (R * 5) f2 :: gO g_l R R b_l :: lA κ b_w (R * 5) f3 :: gO g_w R C b_w :: (s_0, .inr (10, [.ref g_w, .ref g_l, .ref g_r, .int i1, .int i2, .int i3, .int i4])) :: w) H locs := by rw [hw9] at hB; exact hB
              refine W.eq (g2 := F0 m 39 ls [.long (f3 (y2_4 * 5 + y3_19))]) rfl ?_
              refine lv_aload_n hx hb dX9_isDividing_39 rfl (lv_at hl 2 rfl) ?_
              refine gf (k0 := 6) hX hB rfl rfl in9 0 (by decide) wm_6_221 rfl rfl dX9_isDividing_40 ?_
              refine lv_iload_n hx hb dX9_isDividing_43 rfl (lv_at hl 3 rfl) ?_
              refine lv_iload_n hx hb dX9_isDividing_44 rfl (lv_at hl 3 rfl) ?_
              refine call_V (n := 2) (k0 := 5) (As := [.int (nI t), .int (nI t)]) (rest := [.long (f3 (y2_4 * 5 + y3_19))]) hX hB (k_X7_at κ l (lA κ b_r (C * 5) f1 :: gO g_r C C b_r :: lA κ b_l (R * 5) f2 :: gO g_l R R b_l :: lA κ b_w (R * 5) f3 :: gO g_w R C b_w :: (s_0, .inr (10, [.ref g_w, .ref g_l, .ref g_r, .int i1, .int i2, .int i3, .int i4])) :: w) 5 4 g_w b_w R C f3 (nI t) t (nI t) t rfl rfl hs rfl rfl (by omega)) ⟨rfl, by decide, by decide, by decide +kernel⟩ wm_6_188 wm_5_238 wm_5_239 wm_1_7 wm_6_0 ⟨Nat.le_of_ble_eq_true rfl, Nat.le_of_ble_eq_true rfl⟩ ⟨Nat.le_of_ble_eq_true rfl, Nat.le_of_ble_eq_true rfl⟩ rfl rfl rfl rfl hl.1 rfl (Nat.le_of_ble_eq_true rfl) dX9_isDividing_45 (fun o w' H locs hp hB => ?_)
              obtain ⟨rfl, hw9⟩ := hp
              replace hB : Bd κ A s (lA κ b_r (C * 5) f1 :: gO g_r C C b_r :: lA κ b_l (R * 5) f2 :: gO g_l R R b_l :: lA κ b_w (R * 5) f3 :: gO g_w R C b_w :: (s_0, .inr (10, [.ref g_w, .ref g_l, .ref g_r, .int i1, .int i2, .int i3, .int i4])) :: w) H locs := by rw [hw9] at hB; exact hB
              refine W.eq (g2 := F0 m 48 ls [.long (f3 (t * 5 + t)), .long (f3 (y2_4 * 5 + y3_19))]) rfl ?_
              refine lv_lrem hx hb dX9_isDividing_48 hpv ?_
              refine lv_lconst (v := 0) hx hb dX9_isDividing_49 (by decide) ?_
              refine W.lcmp hx hb dX9_isDividing_50 ?_
              refine lv_if_eq (tgt := 80) hx hb dX9_isDividing_51 (by decide) (fun c53 => ?_) (fun c53 => ?_)
              · replace hR := ifp c53 hR
                refine lv_iinc (v := nI (y3_19 + 1)) (lv' := [(3, .int (nI (y3_19 + 1))), (2, .int (nI y2_4)), (0, .ref s_0), (1, .int (nI t))]) hx hb dX9_isDividing_80 hl (k := 0) rfl (nI_add y3_19 1) (by decide) rfl (fun ls hl => ?_)
                refine lv_goto (tgt := 19) hx hb dX9_isDividing_83 (by decide) ?_
                exact ih19 (y3_19 + 1) _ _ (by omega) (by omega) (by omega) hR hB _ hl
              · replace hR := ifn c53 hR
                refine lv_aload_n hx hb dX9_isDividing_54 rfl (lv_at hl 2 rfl) ?_
                refine gf (k0 := 6) hX hB rfl rfl in9 0 (by decide) wm_6_221 rfl rfl dX9_isDividing_55 ?_
                refine lv_iload_n hx hb dX9_isDividing_58 rfl (lv_at hl 3 rfl) ?_
                refine lv_iload_n hx hb dX9_isDividing_59 rfl (lv_at hl 1 rfl) ?_
                refine lv_lconst (v := 1) hx hb dX9_isDividing_60 (by decide) ?_
                refine call_V (n := 3) (k0 := 5) (As := [.int (nI t), .int (nI y2_4), .long 1]) (rest := []) hX hB (k_X7_addRow κ l (lA κ b_r (C * 5) f1 :: gO g_r C C b_r :: lA κ b_l (R * 5) f2 :: gO g_l R R b_l :: lA κ b_w (R * 5) f3 :: gO g_w R C b_w :: (s_0, .inr (10, [.ref g_w, .ref g_l, .ref g_r, .int i1, .int i2, .int i3, .int i4])) :: w) 5 4 g_w b_w R C f3 (nI t) t (nI y2_4) y2_4 1 rfl rfl hs rfl rfl (by omega) (by omega) (by omega)) ⟨rfl, by decide, by decide, by decide +kernel⟩ wm_6_206 wm_6_80 wm_6_81 wm_1_7 wm_6_82 ⟨Nat.le_of_ble_eq_true rfl, Nat.le_of_ble_eq_true rfl⟩ ⟨Nat.le_of_ble_eq_true rfl, Nat.le_of_ble_eq_true rfl⟩ rfl rfl rfl rfl hl.1 rfl (Nat.le_of_ble_eq_true rfl) dX9_isDividing_61 (fun o w' H locs hp hB => ?_)
                obtain ⟨rfl, hw9⟩ := hp
                replace hB : Bd κ A s (lA κ b_r (C * 5) f1 :: gO g_r C C b_r :: lA κ b_l (R * 5) f2 :: gO g_l R R b_l :: lA κ b_w (R * 5) (ar C t y2_4 1 f3) :: gO g_w R C b_w :: (s_0, .inr (10, [.ref g_w, .ref g_l, .ref g_r, .int i1, .int i2, .int i3, .int i4])) :: w) H locs := by rw [hw9] at hB; exact hB
                refine W.eq (g2 := F0 m 64 ls []) rfl ?_
                refine lv_aload_n hx hb dX9_isDividing_64 rfl (lv_at hl 2 rfl) ?_
                refine gf (k0 := 6) hX hB rfl rfl in9 1 (by decide) wm_6_223 rfl rfl dX9_isDividing_65 ?_
                refine lv_iload_n hx hb dX9_isDividing_68 rfl (lv_at hl 3 rfl) ?_
                refine lv_iload_n hx hb dX9_isDividing_69 rfl (lv_at hl 1 rfl) ?_
                refine lv_lconst (v := 1) hx hb dX9_isDividing_70 (by decide) ?_
                refine call_V (n := 3) (k0 := 3) (As := [.int (nI t), .int (nI y2_4), .long 1]) (rest := []) hX hB (k_X7_addRow κ l (lA κ b_r (C * 5) f1 :: gO g_r C C b_r :: lA κ b_l (R * 5) f2 :: gO g_l R R b_l :: lA κ b_w (R * 5) (ar C t y2_4 1 f3) :: gO g_w R C b_w :: (s_0, .inr (10, [.ref g_w, .ref g_l, .ref g_r, .int i1, .int i2, .int i3, .int i4])) :: w) 3 2 g_l b_l R R f2 (nI t) t (nI y2_4) y2_4 1 rfl rfl ⟨by omega, by omega, by omega, by omega⟩ rfl rfl (by omega) (by omega) (by omega)) ⟨rfl, by decide, by decide, by decide +kernel⟩ wm_6_206 wm_6_80 wm_6_81 wm_1_7 wm_6_82 ⟨Nat.le_of_ble_eq_true rfl, Nat.le_of_ble_eq_true rfl⟩ ⟨Nat.le_of_ble_eq_true rfl, Nat.le_of_ble_eq_true rfl⟩ rfl rfl rfl rfl hl.1 rfl (Nat.le_of_ble_eq_true rfl) dX9_isDividing_71 (fun o w' H locs hp hB => ?_)
                obtain ⟨rfl, hw9⟩ := hp
                replace hB : Bd κ A s (lA κ b_r (C * 5) f1 :: gO g_r C C b_r :: lA κ b_l (R * 5) (ar R t y2_4 1 f2) :: gO g_l R R b_l :: lA κ b_w (R * 5) (ar C t y2_4 1 f3) :: gO g_w R C b_w :: (s_0, .inr (10, [.ref g_w, .ref g_l, .ref g_r, .int i1, .int i2, .int i3, .int i4])) :: w) H locs := by rw [hw9] at hB; exact hB
                refine W.eq (g2 := F0 m 74 ls []) rfl ?_
                refine lv_aload_n hx hb dX9_isDividing_74 rfl (lv_at hl 2 rfl) ?_
                obtain ⟨G54, hd55⟩ := ex1 (D_X9_look R C f1 (ar R t y2_4 1 f2) (ar C t y2_4 1 f3) i1 i2 i3 i4)
                replace hR := bnd1_use hd55 hR
                refine call_V (n := 0) (k0 := 6) (As := []) (rest := []) hX hB (k_X9_look κ l (w) s_0 g_r b_r g_l b_l g_w b_w R C f1 (ar R t y2_4 1 f2) (ar C t y2_4 1 f3) i1 i2 i3 i4 hs (by omega) hgb G54 hd55) ⟨rfl, by decide, by decide, by decide +kernel⟩ wm_6_207 wm_6_209 wp_45 wm_1_16 wm_6_210 ⟨Nat.le_of_ble_eq_true rfl, Nat.le_of_ble_eq_true rfl⟩ ⟨Nat.le_of_ble_eq_true rfl, Nat.le_of_ble_eq_true rfl⟩ rfl rfl rfl rfl hl.1 rfl (Nat.le_of_ble_eq_true rfl) dX9_isDividing_75 (fun o w' H locs hp hB => ?_)
                obtain ⟨rfl, hf56, hf57, hw9⟩ := hp
                replace hB : Bd κ A s (lA κ b_r (C * 5) f1 :: gO g_r C C b_r :: lA κ b_l (R * 5) (ar R t y2_4 1 f2) :: gO g_l R R b_l :: lA κ b_w (R * 5) (ar C t y2_4 1 f3) :: gO g_w R C b_w :: (s_0, .inr (10, [.ref g_w, .ref g_l, .ref g_r, .int i1, .int i2, .int i3, .int G54])) :: w) H locs := by rw [hw9] at hB; exact hB
                refine W.eq (g2 := F0 m 78 ls []) rfl ?_
                refine lv_iconst (v := 0) hx hb dX9_isDividing_78 (by decide) ?_
                rw [← hQ]
                exact end_i hX hB hA3 rfl rfl (by obtain ⟨rfl, rfl, rfl, rfl⟩ := pr4 hR; exact ⟨rfl, (Or.inr ⟨rfl, hf56, hf57, y2_4, y3_19, (by omega), (by omega), (by omega), (by omega), (lgnz (by assumption)), rfl⟩), rfl⟩) (Nat.le_of_ble_eq_true rfl) (Nat.le_of_ble_eq_true rfl) dX9_isDividing_79
        exact lp19 _ (t + 1) _ _ (by omega) (by omega) (Nat.lt_succ_self _) hR hB _ hl
  exact lp4 _ (t + 1) _ _ (by omega) (by omega) (Nat.lt_succ_self _) hR hB _ hl
