/-- the shape of what is told -/
def TSf (y : Int32) (Ro Co R C : Nat) : Prop := (y = 4 → R = Co) ∧ (¬ y = 4 → R = Ro) ∧ (y = 1 → C = Ro) ∧ (y = 3 → C = Ro) ∧ (¬ y = 1 → ¬ y = 3 → C = Co)
section TSS
variable {y : Int32} {Ro Co : Nat}
theorem TS_0 (h : y = 0) : TSf y Ro Co Ro Co := by subst h; exact ⟨fun z => absurd z (by decide), fun _ => rfl, fun z => absurd z (by decide), fun z => absurd z (by decide), fun _ _ => rfl⟩
theorem TS_1 (h0 : ¬ y < 0) (h2 : ¬ 2 ≤ y) (h : ¬ y = 0) : TSf y Ro Co Ro Ro := by
  obtain ⟨j, hj, rfl⟩ := nI_of h0
  have h2 : ¬ nI 2 ≤ nI j := h2
  have h : ¬ nI j = nI 0 := h
  rw [nI_leI (by omega) hj] at h2
  rw [nI_eq hj (by omega)] at h
  have e : j = 1 := by omega
  subst e
  exact ⟨fun z => absurd z (by decide), fun _ => rfl, fun _ => rfl, fun z => absurd z (by decide), fun z => absurd rfl z⟩
theorem TS_2 (h : y = 2) : TSf y Ro Co Ro Co := by subst h; exact ⟨fun z => absurd z (by decide), fun _ => rfl, fun z => absurd z (by decide), fun z => absurd z (by decide), fun _ _ => rfl⟩
theorem TS_3 (h : y = 3) : TSf y Ro Co Ro Ro := by subst h; exact ⟨fun z => absurd z (by decide), fun _ => rfl, fun z => absurd z (by decide), fun _ => rfl, fun _ z => absurd rfl z⟩
theorem TS_4 (h4 : y ≤ 4) (h0 : 2 ≤ y) (h2 : ¬ y = 2) (h3 : ¬ y = 3) : TSf y Ro Co Co Co := by
  have hn : ¬ y < 0 := fun z => absurd (Int32.lt_of_le_of_lt h0 z) (by decide)
  obtain ⟨j, hj, rfl⟩ := nI_of hn
  have h0 : nI 2 ≤ nI j := h0
  have h4 : nI j ≤ nI 4 := h4
  have h2 : ¬ nI j = nI 2 := h2
  have h3 : ¬ nI j = nI 3 := h3
  rw [nI_leI (by omega) hj] at h0
  rw [nI_leI hj (by omega)] at h4
  rw [nI_eq hj (by omega)] at h2 h3
  have e : j = 4 := by omega
  subst e
  exact ⟨fun _ => rfl, fun z => absurd rfl z, fun z => absurd z (by decide), fun z => absurd z (by decide), fun _ _ => rfl⟩
end TSS
theorem sm_0 : sm 0 := by constructor <;> decide
theorem sm_upd {F : Nat → Int64} {n i : Nat} {x : Int64} (h : ∀ k, k < n → sm (F k)) (hx : sm x) : ∀ k, k < n → sm (vp_updL F i x k) := by
  intro k hk
  unfold vp_updL
  by_cases e : k = i
  · rw [if_pos e]; exact hx
  · rw [if_neg e]; exact h k hk
theorem dt_ne {R C : Nat} {f : Nat → Int64} (h1 : 1 ≤ R) (h4 : R ≤ 4) (e : R = C) (c : ¬ lg_cmp (mnv f C R (2 ^ R - 1) (2 ^ C - 1)) 0 = 0) : dtn R f ≠ 0 := by
  subst e
  rw [mn_dt h1 h4] at c
  exact fun z => c (lg0.mpr z)
theorem aaldM {p : Program} {l : Launch} {e : Env} {R : Room} {s : State} {m : MethodId} {args : Array Value} {below : List Frame} {meth : Method} {c : Code} {H : Heap} {locs : List Loc} {cells slots : Nat} {Q : State → Prop} {κ : Kt} {cc : ByteArray} {nL : Nat} {own : String} {ret : Option FieldType} {A : Nat → Prop} {w : va_W} {pc : Nat} {ls : Array Slot} {rest : List Value} {k0 b n : Nat} {f : Nat → Option Nat} {i : Int32} (hX : Cx κ p m c cc nL s args own meth ret A) (hB : Bd κ A s w H locs) (he : w[k0]? = some (b, .inl (κ.2.1 2, n, .inr (.inr (.inr (.inr f)))))) (hin : vp_in i n) {a : Nat} (hv : f i.toNatClampNeg = some a) (hdg : decode cc pc = .ok (.aaload, 1))
    (kk : W p l e R s m args below meth c H locs cells slots Q (F0 m (pc + 1) ls (.ref a :: rest))) : W p l e R s m args below meth c H locs cells slots Q (F0 m pc ls (.int i :: .ref b :: rest)) := by
  refine va_aldq (tys := tysK κ) hX.1.1 hX.1.2.1 hX.2.1.1 hB.1 k0 2 he rfl hin hdg ?_
  rw [hv]
  exact kk
theorem astM {p : Program} {l : Launch} {e : Env} {R : Room} {s : State} {m : MethodId} {args : Array Value} {below : List Frame} {meth : Method} {c : Code} {H : Heap} {locs : List Loc} {cells slots : Nat} {Q : State → Prop} {κ : Kt} {cc : ByteArray} {nL : Nat} {own : String} {ret : Option FieldType} {A : Nat → Prop} {w : va_W} {pc : Nat} {ls : Array Slot} {rest : List Value} {k0 k1 b n v : Nat} {f : Nat → Option Nat} {vs : List Value} {i : Int32} (hX : Cx κ p m c cc nL s args own meth ret A) (hB : Bd κ A s w H locs) (he : w[k0]? = some (b, .inl (κ.2.1 2, n, .inr (.inr (.inr (.inr f)))))) (hv : w[k1]? = some (v, .inr (8, vs))) (hin : vp_in i n) {w1 : va_W} (hw : w.set k0 (b, .inl (κ.2.1 2, n, .inr (.inr (.inr (.inr (va_up f i.toNatClampNeg (some v))))))) = w1) (hdg : decode cc pc = .ok (.aastore, 1))
    (kk : ∀ (H1 : Heap) (locs1 : List Loc), Bd κ A s w1 H1 locs1 → W p l e R s m args below meth c H1 locs1 cells slots Q (F0 m (pc + 1) ls rest)) : W p l e R s m args below meth c H locs cells slots Q (F0 m pc ls (.ref v :: .int i :: .ref b :: rest)) := by
  subst hw
  exact va_astq (tys := tysK κ) (r := (RX7, TX7, 3)) hX.1.1 hX.1.2.1 hX.2.1.1 hB.1 hB.2.1 hB.2.2 k0 2 k1 8 he rfl hv rfl hin hdg (fun H1 locs1 h1 h2 h3 => kk H1 locs1 ⟨h1, h2, h3⟩)

noncomputable def D_X10_flipped_28 (C_o : Nat) (f_o : Nat → Int64) (lb18 : Nat → (Nat → Int64) → (Nat → Int64)) (y2_18 : Nat) (nn : Nat) : Nat → (Nat → Int64) → (Nat → Int64) := @Nat.rec (fun _ => Nat → (Nat → Int64) → (Nat → Int64)) (fun _ _ => default) (fun _ lb28 (y3_28 : Nat) (fb2_28 : Nat → Int64) => (if C_o ≤ y3_28 then (lb18 (y2_18 + 1) fb2_28) else (lb28 (y3_28 + 1) (vp_updL fb2_28 (y3_28 * 5 + y2_18) (f_o (y2_18 * 5 + y3_28)))))) nn
theorem D_X10_flipped_28_s {C_o : Nat} {f_o : Nat → Int64} {lb18 : Nat → (Nat → Int64) → (Nat → Int64)} {y2_18 : Nat} {nn : Nat} {y3_28 : Nat} {fb2_28 : Nat → Int64} : D_X10_flipped_28 C_o f_o lb18 y2_18 (nn + 1) y3_28 fb2_28 = (if C_o ≤ y3_28 then (lb18 (y2_18 + 1) fb2_28) else ((D_X10_flipped_28 C_o f_o lb18 y2_18 nn) (y3_28 + 1) (vp_updL fb2_28 (y3_28 * 5 + y2_18) (f_o (y2_18 * 5 + y3_28))))) := rfl
noncomputable def D_X10_flipped_18 (R_o : Nat) (C_o : Nat) (f_o : Nat → Int64) (nn : Nat) : Nat → (Nat → Int64) → (Nat → Int64) := @Nat.rec (fun _ => Nat → (Nat → Int64) → (Nat → Int64)) (fun _ _ => default) (fun _ lb18 (y2_18 : Nat) (fb2_18 : Nat → Int64) => (if R_o ≤ y2_18 then fb2_18 else (D_X10_flipped_28 C_o f_o lb18 y2_18 (C_o + 1 - 0 + 1) 0 fb2_18))) nn
theorem D_X10_flipped_18_s {R_o : Nat} {C_o : Nat} {f_o : Nat → Int64} {nn : Nat} {y2_18 : Nat} {fb2_18 : Nat → Int64} : D_X10_flipped_18 R_o C_o f_o (nn + 1) y2_18 fb2_18 = (if R_o ≤ y2_18 then fb2_18 else (D_X10_flipped_28 C_o f_o (D_X10_flipped_18 R_o C_o f_o nn) y2_18 (C_o + 1 - 0 + 1) 0 fb2_18)) := rfl
noncomputable def D_X10_flipped (R_o : Nat) (C_o : Nat) (f_o : Nat → Int64) : (Nat → Int64) := (D_X10_flipped_18 R_o C_o f_o (R_o + 1 - 0 + 1) 0 (fun _ => 0))
theorem D_X10_flipped_s {R_o : Nat} {C_o : Nat} {f_o : Nat → Int64} : D_X10_flipped R_o C_o f_o = (D_X10_flipped_18 R_o C_o f_o (R_o + 1 - 0 + 1) 0 (fun _ => 0)) := rfl
set_option maxHeartbeats 4000000 in
set_option maxRecDepth 100000 in
theorem k_X10_flipped (κ : Kt) (l : Launch) (w : va_W) (k_o j_o g_o b_o R_o C_o : Nat) (f_o : Nat → Int64) (h_o : w[k_o]? = some (gO g_o R_o C_o b_o)) (i_o : w[j_o]? = some (lA κ b_o (R_o * 5) f_o)) (s_o : shp R_o C_o) (hC4 : C_o ≤ 4) (hsm : ∀ k, k < R_o * 5 → sm (f_o k)) (o_F : Nat → Int64) (hR : D_X10_flipped R_o C_o f_o = o_F) : CM κ l yX10_flipped cX10_flipped 4 (some (.object "GridmenderModel$Grid")) 2 42 2 23 [.ref g_o] (w) (fun o w' => ∃ (q1 : Nat) (q2 : Nat), o = some (.ref q1) ∧ (∀ k, k < C_o * 5 → sm (o_F k)) ∧ w' = lA κ q2 (C_o * 5) o_F :: gO q1 C_o R_o q2 :: w) := by
  have z_o := s_o
  obtain ⟨s_o1, s_o2, s_o3, s_o4⟩ := z_o
  refine CM_begin (plainFor_of_name (by decide)) (Nat.le_of_ble_eq_true rfl) ?_
  intro p e s m args below meth c A Q hX hnm hA3 hQ hB ls hl
  have hx := hX.1.1
  have hb := hX.1.2.1
  have hl : lv_has ls 4 [(0, .ref g_o)] := hl
  replace hR := (D_X10_flipped_s).symm.trans hR
  refine newO (fs := [.int 0, .int 0, .null]) hX hB (ci := 8) rfl in7 tyX7_ok wm_5_138 wm_5_140 wm_1_7 df8 (Nat.le_of_ble_eq_true rfl) (Nat.le_of_ble_eq_true rfl) dX10_flipped_0 (fun q1 H hB => ?_)
  refine lv_dup hx hb dX10_flipped_3 rfl ?_
  refine lv_aload_n hx hb dX10_flipped_4 rfl (lv_at hl 0 rfl) ?_
  refine gf (k0 := k_o + 1) hX hB h_o rfl in7 1 (by decide) wm_5_152 rfl rfl dX10_flipped_5 ?_
  refine lv_aload_n hx hb dX10_flipped_8 rfl (lv_at hl 0 rfl) ?_
  refine gf (k0 := k_o + 1) hX hB h_o rfl in7 0 (by decide) wm_5_148 rfl rfl dX10_flipped_9 ?_
  refine call_I (n := 2) (As := [.int (nI C_o), .int (nI R_o)]) (rest := [.ref q1]) hX hB (k_X7_init κ l (w) q1 (nI C_o) C_o (nI R_o) R_o rfl rfl (by omega)) ⟨by decide, by decide, by decide +kernel⟩ rfl wm_5_141 wm_5_142 wm_1_7 wm_5_143 ⟨Nat.le_of_ble_eq_true rfl, Nat.le_of_ble_eq_true rfl⟩ ⟨Nat.le_of_ble_eq_true rfl, Nat.le_of_ble_eq_true rfl⟩ rfl hl.1 rfl (Nat.le_of_ble_eq_true rfl) dX10_flipped_12 (fun o w' H locs hp hB => ?_)
  obtain ⟨b2, rfl, hw9⟩ := hp
  replace hB : Bd κ A s (lA κ b2 (C_o * 5) (fun _ => 0) :: gO q1 C_o R_o b2 :: w) H locs := by rw [hw9] at hB; exact hB
  refine W.eq (g2 := F0 m 15 ls [.ref q1]) rfl ?_
  refine lv_astore_n (lv' := [(1, .ref q1), (0, .ref g_o)]) hx hb dX10_flipped_15 rfl hl (by decide) rfl (fun ls hl => ?_)
  refine lv_iconst (v := 0) hx hb dX10_flipped_16 (by decide) ?_
  refine lv_istore_n (lv' := [(2, .int 0), (1, .ref q1), (0, .ref g_o)]) hx hb dX10_flipped_17 rfl hl (by decide) rfl (fun ls hl => ?_)
  have lp18 : ∀ (nn18 : Nat) (y2_18 : Nat) (fb2_18 : Nat → Int64) (H : Heap) (locs : List Loc), (y2_18 ≤ R_o) → (∀ k, k < C_o * 5 → sm (fb2_18 k)) → R_o + 1 - y2_18 < nn18 → D_X10_flipped_18 R_o C_o f_o nn18 y2_18 fb2_18 = o_F → Bd κ A s (lA κ b2 (C_o * 5) fb2_18 :: gO q1 C_o R_o b2 :: w) H locs → ∀ ls : Array Slot, lv_has ls 4 [(2, .int (nI y2_18)), (1, .ref q1), (0, .ref g_o)] → W p l e (Rm 2 42 2 23) s m args below meth c H locs (2) (23) Q (F0 m 18 ls []) := by
    intro nn18
    induction nn18 with
    | zero => intro y2_18 fb2_18 H locs hn2_18 hf_18 hμ; exact absurd hμ (Nat.not_lt_zero _)
    | succ nn18 ih18 =>
      intro y2_18 fb2_18 H locs hn2_18 hf_18 hμ18 hR hB ls hl
      replace hR := (D_X10_flipped_18_s).symm.trans hR
      refine lv_iload_n hx hb dX10_flipped_18 rfl (lv_at hl 0 rfl) ?_
      refine lv_aload_n hx hb dX10_flipped_19 rfl (lv_at hl 2 rfl) ?_
      refine gf (k0 := k_o + 2) hX hB h_o rfl in7 0 (by decide) wm_5_148 rfl rfl dX10_flipped_20 ?_
      refine lv_icmp_ge (tgt := 60) hx hb dX10_flipped_23 (by decide) (fun c11 => ?_) (fun c11 => ?_)
      · rw [nleP (a := R_o) (b := y2_18) (by omega) (by omega)] at c11
        replace hR := ifp c11 hR
        refine lv_aload_n hx hb dX10_flipped_60 rfl (lv_at hl 1 rfl) ?_
        rw [← hQ]
        exact end_a hX hB hA3 rfl (Or.inr ⟨_, rfl⟩) (by obtain rfl := hR; exact ⟨q1, b2, rfl, hf_18, rfl⟩) (Nat.le_of_ble_eq_true rfl) (Nat.le_of_ble_eq_true rfl) dX10_flipped_61
      · rw [nleP (a := R_o) (b := y2_18) (by omega) (by omega)] at c11
        replace hR := ifn c11 hR
        refine lv_iconst (v := 0) hx hb dX10_flipped_26 (by decide) ?_
        refine lv_istore_n (lv' := [(3, .int 0), (2, .int (nI y2_18)), (1, .ref q1), (0, .ref g_o)]) hx hb dX10_flipped_27 rfl hl (by decide) rfl (fun ls hl => ?_)
        have lp28 : ∀ (nn28 : Nat) (y3_28 : Nat) (fb2_28 : Nat → Int64) (H : Heap) (locs : List Loc), (y3_28 ≤ C_o) → (∀ k, k < C_o * 5 → sm (fb2_28 k)) → C_o + 1 - y3_28 < nn28 → D_X10_flipped_28 C_o f_o (D_X10_flipped_18 R_o C_o f_o nn18) y2_18 nn28 y3_28 fb2_28 = o_F → Bd κ A s (lA κ b2 (C_o * 5) fb2_28 :: gO q1 C_o R_o b2 :: w) H locs → ∀ ls : Array Slot, lv_has ls 4 [(3, .int (nI y3_28)), (2, .int (nI y2_18)), (1, .ref q1), (0, .ref g_o)] → W p l e (Rm 2 42 2 23) s m args below meth c H locs (2) (23) Q (F0 m 28 ls []) := by
          intro nn28
          induction nn28 with
          | zero => intro y3_28 fb2_28 H locs hn3_28 hf_28 hμ; exact absurd hμ (Nat.not_lt_zero _)
          | succ nn28 ih28 =>
            intro y3_28 fb2_28 H locs hn3_28 hf_28 hμ28 hR hB ls hl
            replace hR := (D_X10_flipped_28_s).symm.trans hR
            refine lv_iload_n hx hb dX10_flipped_28 rfl (lv_at hl 0 rfl) ?_
            refine lv_aload_n hx hb dX10_flipped_29 rfl (lv_at hl 3 rfl) ?_
            refine gf (k0 := k_o + 2) hX hB h_o rfl in7 1 (by decide) wm_5_152 rfl rfl dX10_flipped_30 ?_
            refine lv_icmp_ge (tgt := 54) hx hb dX10_flipped_33 (by decide) (fun c14 => ?_) (fun c14 => ?_)
            · rw [nleP (a := C_o) (b := y3_28) (by omega) (by omega)] at c14
              replace hR := ifp c14 hR
              refine lv_iinc (v := nI (y2_18 + 1)) (lv' := [(2, .int (nI (y2_18 + 1))), (3, .int (nI y3_28)), (1, .ref q1), (0, .ref g_o)]) hx hb dX10_flipped_54 hl (k := 1) rfl (nI_add y2_18 1) (by decide) rfl (fun ls hl => ?_)
              refine lv_goto (tgt := 18) hx hb dX10_flipped_57 (by decide) ?_
              exact ih18 (y2_18 + 1) fb2_28 _ _ (by omega) hf_28 (by omega) hR hB _ (lv_sub hl [0, 2, 3] rfl)
            · rw [nleP (a := C_o) (b := y3_28) (by omega) (by omega)] at c14
              replace hR := ifn c14 hR
              refine lv_aload_n hx hb dX10_flipped_36 rfl (lv_at hl 2 rfl) ?_
              refine lv_iload_n hx hb dX10_flipped_37 rfl (lv_at hl 0 rfl) ?_
              refine lv_iload_n hx hb dX10_flipped_38 rfl (lv_at hl 1 rfl) ?_
              refine lv_aload_n hx hb dX10_flipped_39 rfl (lv_at hl 3 rfl) ?_
              refine lv_iload_n hx hb dX10_flipped_40 rfl (lv_at hl 1 rfl) ?_
              refine lv_iload_n hx hb dX10_flipped_41 rfl (lv_at hl 0 rfl) ?_
              refine call_V (n := 2) (k0 := (k_o + 2)) (As := [.int (nI y2_18), .int (nI y3_28)]) (rest := [.int (nI y2_18), .int (nI y3_28), .ref q1]) hX hB (k_X7_at κ l (lA κ b2 (C_o * 5) fb2_28 :: gO q1 C_o R_o b2 :: w) (k_o + 2) (j_o + 2) g_o b_o R_o C_o f_o (nI y2_18) y2_18 (nI y3_28) y3_28 h_o i_o s_o rfl rfl (by omega)) ⟨rfl, by decide, by decide, by decide +kernel⟩ wm_5_237 wm_5_238 wm_5_239 wm_1_7 wm_6_0 ⟨Nat.le_of_ble_eq_true rfl, Nat.le_of_ble_eq_true rfl⟩ ⟨Nat.le_of_ble_eq_true rfl, Nat.le_of_ble_eq_true rfl⟩ h_o rfl rfl rfl hl.1 rfl (Nat.le_of_ble_eq_true rfl) dX10_flipped_42 (fun o w' H locs hp hB => ?_)
              obtain ⟨rfl, hw9⟩ := hp
              replace hB : Bd κ A s (lA κ b2 (C_o * 5) fb2_28 :: gO q1 C_o R_o b2 :: w) H locs := by rw [hw9] at hB; exact hB
              refine W.eq (g2 := F0 m 45 ls [.long (f_o (y2_18 * 5 + y3_28)), .int (nI y2_18), .int (nI y3_28), .ref q1]) rfl ?_
              refine call_V (n := 3) (k0 := 1) (As := [.int (nI y3_28), .int (nI y2_18), .long (f_o (y2_18 * 5 + y3_28))]) (rest := []) hX hB (k_X7_put κ l (lA κ b2 (C_o * 5) fb2_28 :: gO q1 C_o R_o b2 :: w) 1 0 q1 b2 C_o R_o fb2_28 (nI y3_28) y3_28 (nI y2_18) y2_18 (f_o (y2_18 * 5 + y3_28)) rfl rfl ⟨by omega, by omega, by omega, by omega⟩ rfl rfl (by omega)) ⟨rfl, by decide, by decide, by decide +kernel⟩ wm_6_1 wm_5_222 wm_5_223 wm_1_7 wm_5_224 ⟨Nat.le_of_ble_eq_true rfl, Nat.le_of_ble_eq_true rfl⟩ ⟨Nat.le_of_ble_eq_true rfl, Nat.le_of_ble_eq_true rfl⟩ rfl rfl rfl rfl hl.1 rfl (Nat.le_of_ble_eq_true rfl) dX10_flipped_45 (fun o w' H locs hp hB => ?_)
              obtain ⟨rfl, hw9⟩ := hp
              replace hB : Bd κ A s (lA κ b2 (C_o * 5) (vp_updL fb2_28 (y3_28 * 5 + y2_18) (f_o (y2_18 * 5 + y3_28))) :: gO q1 C_o R_o b2 :: w) H locs := by rw [hw9] at hB; exact hB
              refine W.eq (g2 := F0 m 48 ls []) rfl ?_
              refine lv_iinc (v := nI (y3_28 + 1)) (lv' := [(3, .int (nI (y3_28 + 1))), (2, .int (nI y2_18)), (1, .ref q1), (0, .ref g_o)]) hx hb dX10_flipped_48 hl (k := 0) rfl (nI_add y3_28 1) (by decide) rfl (fun ls hl => ?_)
              refine lv_goto (tgt := 28) hx hb dX10_flipped_51 (by decide) ?_
              exact ih28 (y3_28 + 1) (vp_updL fb2_28 (y3_28 * 5 + y2_18) (f_o (y2_18 * 5 + y3_28))) _ _ (by omega) (sm_upd hf_28 (hsm _ (by omega))) (by omega) hR hB _ hl
        exact lp28 _ 0 fb2_18 _ _ (by omega) hf_18 (Nat.lt_succ_self _) hR hB _ hl
  exact lp18 _ 0 (fun _ => 0) _ _ (by omega) (fun _ _ => sm_0) (Nat.lt_succ_self _) hR hB _ hl
noncomputable def D_X10_shaped_23 (R_o : Nat) (C_o : Nat) (f_o : Nat → Int64) (c0 : Nat) (y : Int32) (z : Int32) (lb14 : Nat → (Nat → Int64) → (Nat → Int64)) (y6_14 : Nat) (nn : Nat) : Nat → (Nat → Int64) → (Nat → Int64) := @Nat.rec (fun _ => Nat → (Nat → Int64) → (Nat → Int64)) (fun _ _ => default) (fun _ lb23 (y7_23 : Nat) (fb2_23 : Nat → Int64) => (if c0 ≤ y7_23 then (lb14 (y6_14 + 1) fb2_23) else (if y ≤ (nI y6_14) then (if z ≤ (nI y7_23) then (if R_o ≤ (y6_14 + 1) then (lb23 (y7_23 + 1) fb2_23) else (if C_o ≤ (y7_23 + 1) then (lb23 (y7_23 + 1) fb2_23) else (lb23 (y7_23 + 1) (vp_updL fb2_23 (y6_14 * 5 + y7_23) (f_o ((y6_14 + 1) * 5 + (y7_23 + 1))))))) else (if R_o ≤ (y6_14 + 1) then (lb23 (y7_23 + 1) fb2_23) else (if C_o ≤ y7_23 then (lb23 (y7_23 + 1) fb2_23) else (lb23 (y7_23 + 1) (vp_updL fb2_23 (y6_14 * 5 + y7_23) (f_o ((y6_14 + 1) * 5 + y7_23))))))) else (if z ≤ (nI y7_23) then (if R_o ≤ y6_14 then (lb23 (y7_23 + 1) fb2_23) else (if C_o ≤ (y7_23 + 1) then (lb23 (y7_23 + 1) fb2_23) else (lb23 (y7_23 + 1) (vp_updL fb2_23 (y6_14 * 5 + y7_23) (f_o (y6_14 * 5 + (y7_23 + 1))))))) else (if R_o ≤ y6_14 then (lb23 (y7_23 + 1) fb2_23) else (if C_o ≤ y7_23 then (lb23 (y7_23 + 1) fb2_23) else (lb23 (y7_23 + 1) (vp_updL fb2_23 (y6_14 * 5 + y7_23) (f_o (y6_14 * 5 + y7_23)))))))))) nn
theorem D_X10_shaped_23_s {R_o : Nat} {C_o : Nat} {f_o : Nat → Int64} {c0 : Nat} {y : Int32} {z : Int32} {lb14 : Nat → (Nat → Int64) → (Nat → Int64)} {y6_14 : Nat} {nn : Nat} {y7_23 : Nat} {fb2_23 : Nat → Int64} : D_X10_shaped_23 R_o C_o f_o c0 y z lb14 y6_14 (nn + 1) y7_23 fb2_23 = (if c0 ≤ y7_23 then (lb14 (y6_14 + 1) fb2_23) else (if y ≤ (nI y6_14) then (if z ≤ (nI y7_23) then (if R_o ≤ (y6_14 + 1) then ((D_X10_shaped_23 R_o C_o f_o c0 y z lb14 y6_14 nn) (y7_23 + 1) fb2_23) else (if C_o ≤ (y7_23 + 1) then ((D_X10_shaped_23 R_o C_o f_o c0 y z lb14 y6_14 nn) (y7_23 + 1) fb2_23) else ((D_X10_shaped_23 R_o C_o f_o c0 y z lb14 y6_14 nn) (y7_23 + 1) (vp_updL fb2_23 (y6_14 * 5 + y7_23) (f_o ((y6_14 + 1) * 5 + (y7_23 + 1))))))) else (if R_o ≤ (y6_14 + 1) then ((D_X10_shaped_23 R_o C_o f_o c0 y z lb14 y6_14 nn) (y7_23 + 1) fb2_23) else (if C_o ≤ y7_23 then ((D_X10_shaped_23 R_o C_o f_o c0 y z lb14 y6_14 nn) (y7_23 + 1) fb2_23) else ((D_X10_shaped_23 R_o C_o f_o c0 y z lb14 y6_14 nn) (y7_23 + 1) (vp_updL fb2_23 (y6_14 * 5 + y7_23) (f_o ((y6_14 + 1) * 5 + y7_23))))))) else (if z ≤ (nI y7_23) then (if R_o ≤ y6_14 then ((D_X10_shaped_23 R_o C_o f_o c0 y z lb14 y6_14 nn) (y7_23 + 1) fb2_23) else (if C_o ≤ (y7_23 + 1) then ((D_X10_shaped_23 R_o C_o f_o c0 y z lb14 y6_14 nn) (y7_23 + 1) fb2_23) else ((D_X10_shaped_23 R_o C_o f_o c0 y z lb14 y6_14 nn) (y7_23 + 1) (vp_updL fb2_23 (y6_14 * 5 + y7_23) (f_o (y6_14 * 5 + (y7_23 + 1))))))) else (if R_o ≤ y6_14 then ((D_X10_shaped_23 R_o C_o f_o c0 y z lb14 y6_14 nn) (y7_23 + 1) fb2_23) else (if C_o ≤ y7_23 then ((D_X10_shaped_23 R_o C_o f_o c0 y z lb14 y6_14 nn) (y7_23 + 1) fb2_23) else ((D_X10_shaped_23 R_o C_o f_o c0 y z lb14 y6_14 nn) (y7_23 + 1) (vp_updL fb2_23 (y6_14 * 5 + y7_23) (f_o (y6_14 * 5 + y7_23))))))))) := rfl
noncomputable def D_X10_shaped_14 (R_o : Nat) (C_o : Nat) (f_o : Nat → Int64) (n : Nat) (c0 : Nat) (y : Int32) (z : Int32) (nn : Nat) : Nat → (Nat → Int64) → (Nat → Int64) := @Nat.rec (fun _ => Nat → (Nat → Int64) → (Nat → Int64)) (fun _ _ => default) (fun _ lb14 (y6_14 : Nat) (fb2_14 : Nat → Int64) => (if n ≤ y6_14 then fb2_14 else (D_X10_shaped_23 R_o C_o f_o c0 y z lb14 y6_14 (c0 + 1 - 0 + 1) 0 fb2_14))) nn
theorem D_X10_shaped_14_s {R_o : Nat} {C_o : Nat} {f_o : Nat → Int64} {n : Nat} {c0 : Nat} {y : Int32} {z : Int32} {nn : Nat} {y6_14 : Nat} {fb2_14 : Nat → Int64} : D_X10_shaped_14 R_o C_o f_o n c0 y z (nn + 1) y6_14 fb2_14 = (if n ≤ y6_14 then fb2_14 else (D_X10_shaped_23 R_o C_o f_o c0 y z (D_X10_shaped_14 R_o C_o f_o n c0 y z nn) y6_14 (c0 + 1 - 0 + 1) 0 fb2_14)) := rfl
noncomputable def D_X10_shaped (R_o : Nat) (C_o : Nat) (f_o : Nat → Int64) (n : Nat) (c0 : Nat) (y : Int32) (z : Int32) : (Nat → Int64) := (D_X10_shaped_14 R_o C_o f_o n c0 y z (n + 1 - 0 + 1) 0 (fun _ => 0))
theorem D_X10_shaped_s {R_o : Nat} {C_o : Nat} {f_o : Nat → Int64} {n : Nat} {c0 : Nat} {y : Int32} {z : Int32} : D_X10_shaped R_o C_o f_o n c0 y z = (D_X10_shaped_14 R_o C_o f_o n c0 y z (n + 1 - 0 + 1) 0 (fun _ => 0)) := rfl
set_option maxHeartbeats 4000000 in
set_option maxRecDepth 100000 in
theorem k_X10_shaped (κ : Kt) (l : Launch) (w : va_W) (k_o j_o g_o b_o R_o C_o : Nat) (f_o : Nat → Int64) (xn : Int32) (n : Nat) (xc0 : Int32) (c0 : Nat) (y : Int32) (z : Int32) (h_o : w[k_o]? = some (gO g_o R_o C_o b_o)) (i_o : w[j_o]? = some (lA κ b_o (R_o * 5) f_o)) (s_o : shp R_o C_o) (hxn : xn = nI n) (hxc0 : xc0 = nI c0) (hn : 1 ≤ n ∧ n ≤ 4 ∧ 1 ≤ c0 ∧ c0 ≤ 4) (hsm : ∀ k, k < R_o * 5 → sm (f_o k)) (o_F : Nat → Int64) (hR : D_X10_shaped R_o C_o f_o n c0 y z = o_F) : CM κ l yX10_shaped cX10_shaped 10 (some (.object "GridmenderModel$Grid")) 2 42 2 23 [.ref g_o, .int xn, .int xc0, .int y, .int z] (w) (fun o w' => ∃ (q1 : Nat) (q2 : Nat), o = some (.ref q1) ∧ (∀ k, k < n * 5 → sm (o_F k)) ∧ w' = lA κ q2 (n * 5) o_F :: gO q1 n c0 q2 :: w) := by
  have z_o := s_o
  obtain ⟨s_o1, s_o2, s_o3, s_o4⟩ := z_o
  subst hxn
  subst hxc0
  refine CM_begin (plainFor_of_name (by decide)) (Nat.le_of_ble_eq_true rfl) ?_
  intro p e s m args below meth c A Q hX hnm hA3 hQ hB ls hl
  have hx := hX.1.1
  have hb := hX.1.2.1
  have hl : lv_has ls 10 [(0, .ref g_o), (1, .int (nI n)), (2, .int (nI c0)), (3, .int y), (4, .int z)] := hl
  replace hR := (D_X10_shaped_s).symm.trans hR
  refine newO (fs := [.int 0, .int 0, .null]) hX hB (ci := 8) rfl in7 tyX7_ok wm_5_138 wm_5_140 wm_1_7 df8 (Nat.le_of_ble_eq_true rfl) (Nat.le_of_ble_eq_true rfl) dX10_shaped_0 (fun q1 H hB => ?_)
  refine lv_dup hx hb dX10_shaped_3 rfl ?_
  refine lv_iload_n hx hb dX10_shaped_4 rfl (lv_at hl 1 rfl) ?_
  refine lv_iload_n hx hb dX10_shaped_5 rfl (lv_at hl 2 rfl) ?_
  refine call_I (n := 2) (As := [.int (nI n), .int (nI c0)]) (rest := [.ref q1]) hX hB (k_X7_init κ l (w) q1 (nI n) n (nI c0) c0 rfl rfl (by omega)) ⟨by decide, by decide, by decide +kernel⟩ rfl wm_5_141 wm_5_142 wm_1_7 wm_5_143 ⟨Nat.le_of_ble_eq_true rfl, Nat.le_of_ble_eq_true rfl⟩ ⟨Nat.le_of_ble_eq_true rfl, Nat.le_of_ble_eq_true rfl⟩ rfl hl.1 rfl (Nat.le_of_ble_eq_true rfl) dX10_shaped_6 (fun o w' H locs hp hB => ?_)
  obtain ⟨b2, rfl, hw9⟩ := hp
  replace hB : Bd κ A s (lA κ b2 (n * 5) (fun _ => 0) :: gO q1 n c0 b2 :: w) H locs := by rw [hw9] at hB; exact hB
  refine W.eq (g2 := F0 m 9 ls [.ref q1]) rfl ?_
  refine lv_astore (lv' := [(5, .ref q1), (0, .ref g_o), (1, .int (nI n)), (2, .int (nI c0)), (3, .int y), (4, .int z)]) hx hb dX10_shaped_9 hl (by decide) rfl (fun ls hl => ?_)
  refine lv_iconst (v := 0) hx hb dX10_shaped_11 (by decide) ?_
  refine lv_istore (lv' := [(6, .int 0), (5, .ref q1), (0, .ref g_o), (1, .int (nI n)), (2, .int (nI c0)), (3, .int y), (4, .int z)]) hx hb dX10_shaped_12 hl (by decide) rfl (fun ls hl => ?_)
  have lp14 : ∀ (nn14 : Nat) (y6_14 : Nat) (fb2_14 : Nat → Int64) (H : Heap) (locs : List Loc), (y6_14 ≤ n) → (∀ k, k < n * 5 → sm (fb2_14 k)) → n + 1 - y6_14 < nn14 → D_X10_shaped_14 R_o C_o f_o n c0 y z nn14 y6_14 fb2_14 = o_F → Bd κ A s (lA κ b2 (n * 5) fb2_14 :: gO q1 n c0 b2 :: w) H locs → ∀ ls : Array Slot, lv_has ls 10 [(6, .int (nI y6_14)), (5, .ref q1), (0, .ref g_o), (1, .int (nI n)), (2, .int (nI c0)), (3, .int y), (4, .int z)] → W p l e (Rm 2 42 2 23) s m args below meth c H locs (2) (23) Q (F0 m 14 ls []) := by
    intro nn14
    induction nn14 with
    | zero => intro y6_14 fb2_14 H locs hn6_14 hf_14 hμ; exact absurd hμ (Nat.not_lt_zero _)
    | succ nn14 ih14 =>
      intro y6_14 fb2_14 H locs hn6_14 hf_14 hμ14 hR hB ls hl
      replace hR := (D_X10_shaped_14_s).symm.trans hR
      refine lv_iload hx hb dX10_shaped_14 (lv_at hl 0 rfl) ?_
      refine lv_iload_n hx hb dX10_shaped_16 rfl (lv_at hl 3 rfl) ?_
      refine lv_icmp_ge (tgt := 111) hx hb dX10_shaped_17 (by decide) (fun c77 => ?_) (fun c77 => ?_)
      · rw [nleP (a := n) (b := y6_14) (by omega) (by omega)] at c77
        replace hR := ifp c77 hR
        refine lv_aload hx hb dX10_shaped_111 (lv_at hl 1 rfl) ?_
        rw [← hQ]
        exact end_a hX hB hA3 rfl (Or.inr ⟨_, rfl⟩) (by obtain rfl := hR; exact ⟨q1, b2, rfl, hf_14, rfl⟩) (Nat.le_of_ble_eq_true rfl) (Nat.le_of_ble_eq_true rfl) dX10_shaped_113
      · rw [nleP (a := n) (b := y6_14) (by omega) (by omega)] at c77
        replace hR := ifn c77 hR
        refine lv_iconst (v := 0) hx hb dX10_shaped_20 (by decide) ?_
        refine lv_istore (lv' := [(7, .int 0), (6, .int (nI y6_14)), (5, .ref q1), (0, .ref g_o), (1, .int (nI n)), (2, .int (nI c0)), (3, .int y), (4, .int z)]) hx hb dX10_shaped_21 hl (by decide) rfl (fun ls hl => ?_)
        have lp23 : ∀ (nn23 : Nat) (y7_23 : Nat) (fb2_23 : Nat → Int64) (H : Heap) (locs : List Loc), (y7_23 ≤ c0) → (∀ k, k < n * 5 → sm (fb2_23 k)) → c0 + 1 - y7_23 < nn23 → D_X10_shaped_23 R_o C_o f_o c0 y z (D_X10_shaped_14 R_o C_o f_o n c0 y z nn14) y6_14 nn23 y7_23 fb2_23 = o_F → Bd κ A s (lA κ b2 (n * 5) fb2_23 :: gO q1 n c0 b2 :: w) H locs → ∀ ls : Array Slot, lv_has ls 10 [(7, .int (nI y7_23)), (6, .int (nI y6_14)), (5, .ref q1), (0, .ref g_o), (1, .int (nI n)), (2, .int (nI c0)), (3, .int y), (4, .int z)] → W p l e (Rm 2 42 2 23) s m args below meth c H locs (2) (23) Q (F0 m 23 ls []) := by
          intro nn23
          induction nn23 with
          | zero => intro y7_23 fb2_23 H locs hn7_23 hf_23 hμ; exact absurd hμ (Nat.not_lt_zero _)
          | succ nn23 ih23 =>
            intro y7_23 fb2_23 H locs hn7_23 hf_23 hμ23 hR hB ls hl
            replace hR := (D_X10_shaped_23_s).symm.trans hR
            refine lv_iload hx hb dX10_shaped_23 (lv_at hl 0 rfl) ?_
            refine lv_iload_n hx hb dX10_shaped_25 rfl (lv_at hl 5 rfl) ?_
            refine lv_icmp_ge (tgt := 105) hx hb dX10_shaped_26 (by decide) (fun c102 => ?_) (fun c102 => ?_)
            · rw [nleP (a := c0) (b := y7_23) (by omega) (by omega)] at c102
              replace hR := ifp c102 hR
              refine lv_iinc (v := nI (y6_14 + 1)) (lv' := [(6, .int (nI (y6_14 + 1))), (7, .int (nI y7_23)), (5, .ref q1), (0, .ref g_o), (1, .int (nI n)), (2, .int (nI c0)), (3, .int y), (4, .int z)]) hx hb dX10_shaped_105 hl (k := 1) rfl (nI_add y6_14 1) (by decide) rfl (fun ls hl => ?_)
              refine lv_goto (tgt := 14) hx hb dX10_shaped_108 (by decide) ?_
              exact ih14 (y6_14 + 1) fb2_23 _ _ (by omega) hf_23 (by omega) hR hB _ (lv_sub hl [0, 2, 3, 4, 5, 6, 7] rfl)
            · rw [nleP (a := c0) (b := y7_23) (by omega) (by omega)] at c102
              replace hR := ifn c102 hR
              refine lv_iload hx hb dX10_shaped_29 (lv_at hl 1 rfl) ?_
              refine lv_iload_n hx hb dX10_shaped_31 rfl (lv_at hl 6 rfl) ?_
              refine lv_icmp_ge (tgt := 40) hx hb dX10_shaped_32 (by decide) (fun c103 => ?_) (fun c103 => ?_)
              · replace hR := ifp c103 hR
                refine lv_iload hx hb dX10_shaped_40 (lv_at hl 1 rfl) ?_
                refine lv_iconst (v := 1) hx hb dX10_shaped_42 (by decide) ?_
                refine lv_iadd hx hb dX10_shaped_43 ?_
                refine eqi (y := nI (y6_14 + 1)) (nI_add y6_14 1) ?_
                refine lv_istore (lv' := [(8, .int (nI (y6_14 + 1))), (7, .int (nI y7_23)), (6, .int (nI y6_14)), (5, .ref q1), (0, .ref g_o), (1, .int (nI n)), (2, .int (nI c0)), (3, .int y), (4, .int z)]) hx hb dX10_shaped_44 hl (by decide) rfl (fun ls hl => ?_)
                refine lv_iload hx hb dX10_shaped_46 (lv_at hl 1 rfl) ?_
                refine lv_iload hx hb dX10_shaped_48 (lv_at hl 8 rfl) ?_
                refine lv_icmp_ge (tgt := 58) hx hb dX10_shaped_50 (by decide) (fun c104 => ?_) (fun c104 => ?_)
                · replace hR := ifp c104 hR
                  refine lv_iload hx hb dX10_shaped_58 (lv_at hl 1 rfl) ?_
                  refine lv_iconst (v := 1) hx hb dX10_shaped_60 (by decide) ?_
                  refine lv_iadd hx hb dX10_shaped_61 ?_
                  refine eqi (y := nI (y7_23 + 1)) (nI_add y7_23 1) ?_
                  refine lv_istore (lv' := [(9, .int (nI (y7_23 + 1))), (8, .int (nI (y6_14 + 1))), (7, .int (nI y7_23)), (6, .int (nI y6_14)), (5, .ref q1), (0, .ref g_o), (1, .int (nI n)), (2, .int (nI c0)), (3, .int y), (4, .int z)]) hx hb dX10_shaped_62 hl (by decide) rfl (fun ls hl => ?_)
                  refine lv_iload hx hb dX10_shaped_64 (lv_at hl 1 rfl) ?_
                  refine lv_aload_n hx hb dX10_shaped_66 rfl (lv_at hl 5 rfl) ?_
                  refine gf (k0 := k_o + 2) hX hB h_o rfl in7 0 (by decide) wm_5_148 rfl rfl dX10_shaped_67 ?_
                  refine lv_icmp_ge (tgt := 99) hx hb dX10_shaped_70 (by decide) (fun c105 => ?_) (fun c105 => ?_)
                  · rw [nleP (a := R_o) (b := y6_14 + 1) (by omega) (by omega)] at c105
                    replace hR := ifp c105 hR
                    refine lv_iinc (v := nI (y7_23 + 1)) (lv' := [(7, .int (nI (y7_23 + 1))), (9, .int (nI (y7_23 + 1))), (8, .int (nI (y6_14 + 1))), (6, .int (nI y6_14)), (5, .ref q1), (0, .ref g_o), (1, .int (nI n)), (2, .int (nI c0)), (3, .int y), (4, .int z)]) hx hb dX10_shaped_99 hl (k := 2) rfl (nI_add y7_23 1) (by decide) rfl (fun ls hl => ?_)
                    refine lv_goto (tgt := 23) hx hb dX10_shaped_102 (by decide) ?_
                    exact ih23 (y7_23 + 1) fb2_23 _ _ (by omega) (by first | exact hf_23 | exact sm_upd hf_23 (hsm _ (by omega))) (by omega) hR hB _ (lv_sub hl [0, 3, 4, 5, 6, 7, 8, 9] rfl)
                  · rw [nleP (a := R_o) (b := y6_14 + 1) (by omega) (by omega)] at c105
                    replace hR := ifn c105 hR
                    refine lv_iload hx hb dX10_shaped_73 (lv_at hl 0 rfl) ?_
                    refine lv_aload_n hx hb dX10_shaped_75 rfl (lv_at hl 5 rfl) ?_
                    refine gf (k0 := k_o + 2) hX hB h_o rfl in7 1 (by decide) wm_5_152 rfl rfl dX10_shaped_76 ?_
                    refine lv_icmp_ge (tgt := 99) hx hb dX10_shaped_79 (by decide) (fun c106 => ?_) (fun c106 => ?_)
                    · rw [nleP (a := C_o) (b := y7_23 + 1) (by omega) (by omega)] at c106
                      replace hR := ifp c106 hR
                      refine lv_iinc (v := nI (y7_23 + 1)) (lv' := [(7, .int (nI (y7_23 + 1))), (9, .int (nI (y7_23 + 1))), (8, .int (nI (y6_14 + 1))), (6, .int (nI y6_14)), (5, .ref q1), (0, .ref g_o), (1, .int (nI n)), (2, .int (nI c0)), (3, .int y), (4, .int z)]) hx hb dX10_shaped_99 hl (k := 2) rfl (nI_add y7_23 1) (by decide) rfl (fun ls hl => ?_)
                      refine lv_goto (tgt := 23) hx hb dX10_shaped_102 (by decide) ?_
                      exact ih23 (y7_23 + 1) fb2_23 _ _ (by omega) (by first | exact hf_23 | exact sm_upd hf_23 (hsm _ (by omega))) (by omega) hR hB _ (lv_sub hl [0, 3, 4, 5, 6, 7, 8, 9] rfl)
                    · rw [nleP (a := C_o) (b := y7_23 + 1) (by omega) (by omega)] at c106
                      replace hR := ifn c106 hR
                      refine lv_aload hx hb dX10_shaped_82 (lv_at hl 4 rfl) ?_
                      refine lv_iload hx hb dX10_shaped_84 (lv_at hl 3 rfl) ?_
                      refine lv_iload hx hb dX10_shaped_86 (lv_at hl 2 rfl) ?_
                      refine lv_aload_n hx hb dX10_shaped_88 rfl (lv_at hl 5 rfl) ?_
                      refine lv_iload hx hb dX10_shaped_89 (lv_at hl 1 rfl) ?_
                      refine lv_iload hx hb dX10_shaped_91 (lv_at hl 0 rfl) ?_
                      refine call_V (n := 2) (k0 := (k_o + 2)) (As := [.int (nI (y6_14 + 1)), .int (nI (y7_23 + 1))]) (rest := [.int (nI y7_23), .int (nI y6_14), .ref q1]) hX hB (k_X7_at κ l (lA κ b2 (n * 5) fb2_23 :: gO q1 n c0 b2 :: w) (k_o + 2) (j_o + 2) g_o b_o R_o C_o f_o (nI (y6_14 + 1)) (y6_14 + 1) (nI (y7_23 + 1)) (y7_23 + 1) h_o i_o s_o rfl rfl (by omega)) ⟨rfl, by decide, by decide, by decide +kernel⟩ wm_5_237 wm_5_238 wm_5_239 wm_1_7 wm_6_0 ⟨Nat.le_of_ble_eq_true rfl, Nat.le_of_ble_eq_true rfl⟩ ⟨Nat.le_of_ble_eq_true rfl, Nat.le_of_ble_eq_true rfl⟩ h_o rfl rfl rfl hl.1 rfl (Nat.le_of_ble_eq_true rfl) dX10_shaped_93 (fun o w' H locs hp hB => ?_)
                      obtain ⟨rfl, hw9⟩ := hp
                      replace hB : Bd κ A s (lA κ b2 (n * 5) fb2_23 :: gO q1 n c0 b2 :: w) H locs := by rw [hw9] at hB; exact hB
                      refine W.eq (g2 := F0 m 96 ls [.long (f_o ((y6_14 + 1) * 5 + (y7_23 + 1))), .int (nI y7_23), .int (nI y6_14), .ref q1]) rfl ?_
                      refine call_V (n := 3) (k0 := 1) (As := [.int (nI y6_14), .int (nI y7_23), .long (f_o ((y6_14 + 1) * 5 + (y7_23 + 1)))]) (rest := []) hX hB (k_X7_put κ l (lA κ b2 (n * 5) fb2_23 :: gO q1 n c0 b2 :: w) 1 0 q1 b2 n c0 fb2_23 (nI y6_14) y6_14 (nI y7_23) y7_23 (f_o ((y6_14 + 1) * 5 + (y7_23 + 1))) rfl rfl ⟨by omega, by omega, by omega, by omega⟩ rfl rfl (by omega)) ⟨rfl, by decide, by decide, by decide +kernel⟩ wm_6_1 wm_5_222 wm_5_223 wm_1_7 wm_5_224 ⟨Nat.le_of_ble_eq_true rfl, Nat.le_of_ble_eq_true rfl⟩ ⟨Nat.le_of_ble_eq_true rfl, Nat.le_of_ble_eq_true rfl⟩ rfl rfl rfl rfl hl.1 rfl (Nat.le_of_ble_eq_true rfl) dX10_shaped_96 (fun o w' H locs hp hB => ?_)
                      obtain ⟨rfl, hw9⟩ := hp
                      replace hB : Bd κ A s (lA κ b2 (n * 5) (vp_updL fb2_23 (y6_14 * 5 + y7_23) (f_o ((y6_14 + 1) * 5 + (y7_23 + 1)))) :: gO q1 n c0 b2 :: w) H locs := by rw [hw9] at hB; exact hB
                      refine W.eq (g2 := F0 m 99 ls []) rfl ?_
                      refine lv_iinc (v := nI (y7_23 + 1)) (lv' := [(7, .int (nI (y7_23 + 1))), (9, .int (nI (y7_23 + 1))), (8, .int (nI (y6_14 + 1))), (6, .int (nI y6_14)), (5, .ref q1), (0, .ref g_o), (1, .int (nI n)), (2, .int (nI c0)), (3, .int y), (4, .int z)]) hx hb dX10_shaped_99 hl (k := 2) rfl (nI_add y7_23 1) (by decide) rfl (fun ls hl => ?_)
                      refine lv_goto (tgt := 23) hx hb dX10_shaped_102 (by decide) ?_
                      exact ih23 (y7_23 + 1) (vp_updL fb2_23 (y6_14 * 5 + y7_23) (f_o ((y6_14 + 1) * 5 + (y7_23 + 1)))) _ _ (by omega) (by first | exact hf_23 | exact sm_upd hf_23 (hsm _ (by omega))) (by omega) hR hB _ (lv_sub hl [0, 3, 4, 5, 6, 7, 8, 9] rfl)
                · replace hR := ifn c104 hR
                  refine lv_iload hx hb dX10_shaped_53 (lv_at hl 1 rfl) ?_
                  refine lv_goto (tgt := 62) hx hb dX10_shaped_55 (by decide) ?_
                  refine lv_istore (lv' := [(9, .int (nI y7_23)), (8, .int (nI (y6_14 + 1))), (7, .int (nI y7_23)), (6, .int (nI y6_14)), (5, .ref q1), (0, .ref g_o), (1, .int (nI n)), (2, .int (nI c0)), (3, .int y), (4, .int z)]) hx hb dX10_shaped_62 hl (by decide) rfl (fun ls hl => ?_)
                  refine lv_iload hx hb dX10_shaped_64 (lv_at hl 1 rfl) ?_
                  refine lv_aload_n hx hb dX10_shaped_66 rfl (lv_at hl 5 rfl) ?_
                  refine gf (k0 := k_o + 2) hX hB h_o rfl in7 0 (by decide) wm_5_148 rfl rfl dX10_shaped_67 ?_
                  refine lv_icmp_ge (tgt := 99) hx hb dX10_shaped_70 (by decide) (fun c107 => ?_) (fun c107 => ?_)
                  · rw [nleP (a := R_o) (b := y6_14 + 1) (by omega) (by omega)] at c107
                    replace hR := ifp c107 hR
                    refine lv_iinc (v := nI (y7_23 + 1)) (lv' := [(7, .int (nI (y7_23 + 1))), (9, .int (nI y7_23)), (8, .int (nI (y6_14 + 1))), (6, .int (nI y6_14)), (5, .ref q1), (0, .ref g_o), (1, .int (nI n)), (2, .int (nI c0)), (3, .int y), (4, .int z)]) hx hb dX10_shaped_99 hl (k := 2) rfl (nI_add y7_23 1) (by decide) rfl (fun ls hl => ?_)
                    refine lv_goto (tgt := 23) hx hb dX10_shaped_102 (by decide) ?_
                    exact ih23 (y7_23 + 1) fb2_23 _ _ (by omega) (by first | exact hf_23 | exact sm_upd hf_23 (hsm _ (by omega))) (by omega) hR hB _ (lv_sub hl [0, 3, 4, 5, 6, 7, 8, 9] rfl)
                  · rw [nleP (a := R_o) (b := y6_14 + 1) (by omega) (by omega)] at c107
                    replace hR := ifn c107 hR
                    refine lv_iload hx hb dX10_shaped_73 (lv_at hl 0 rfl) ?_
                    refine lv_aload_n hx hb dX10_shaped_75 rfl (lv_at hl 5 rfl) ?_
                    refine gf (k0 := k_o + 2) hX hB h_o rfl in7 1 (by decide) wm_5_152 rfl rfl dX10_shaped_76 ?_
                    refine lv_icmp_ge (tgt := 99) hx hb dX10_shaped_79 (by decide) (fun c108 => ?_) (fun c108 => ?_)
                    · rw [nleP (a := C_o) (b := y7_23) (by omega) (by omega)] at c108
                      replace hR := ifp c108 hR
                      refine lv_iinc (v := nI (y7_23 + 1)) (lv' := [(7, .int (nI (y7_23 + 1))), (9, .int (nI y7_23)), (8, .int (nI (y6_14 + 1))), (6, .int (nI y6_14)), (5, .ref q1), (0, .ref g_o), (1, .int (nI n)), (2, .int (nI c0)), (3, .int y), (4, .int z)]) hx hb dX10_shaped_99 hl (k := 2) rfl (nI_add y7_23 1) (by decide) rfl (fun ls hl => ?_)
                      refine lv_goto (tgt := 23) hx hb dX10_shaped_102 (by decide) ?_
                      exact ih23 (y7_23 + 1) fb2_23 _ _ (by omega) (by first | exact hf_23 | exact sm_upd hf_23 (hsm _ (by omega))) (by omega) hR hB _ (lv_sub hl [0, 3, 4, 5, 6, 7, 8, 9] rfl)
                    · rw [nleP (a := C_o) (b := y7_23) (by omega) (by omega)] at c108
                      replace hR := ifn c108 hR
                      refine lv_aload hx hb dX10_shaped_82 (lv_at hl 4 rfl) ?_
                      refine lv_iload hx hb dX10_shaped_84 (lv_at hl 3 rfl) ?_
                      refine lv_iload hx hb dX10_shaped_86 (lv_at hl 2 rfl) ?_
                      refine lv_aload_n hx hb dX10_shaped_88 rfl (lv_at hl 5 rfl) ?_
                      refine lv_iload hx hb dX10_shaped_89 (lv_at hl 1 rfl) ?_
                      refine lv_iload hx hb dX10_shaped_91 (lv_at hl 0 rfl) ?_
                      refine call_V (n := 2) (k0 := (k_o + 2)) (As := [.int (nI (y6_14 + 1)), .int (nI y7_23)]) (rest := [.int (nI y7_23), .int (nI y6_14), .ref q1]) hX hB (k_X7_at κ l (lA κ b2 (n * 5) fb2_23 :: gO q1 n c0 b2 :: w) (k_o + 2) (j_o + 2) g_o b_o R_o C_o f_o (nI (y6_14 + 1)) (y6_14 + 1) (nI y7_23) y7_23 h_o i_o s_o rfl rfl (by omega)) ⟨rfl, by decide, by decide, by decide +kernel⟩ wm_5_237 wm_5_238 wm_5_239 wm_1_7 wm_6_0 ⟨Nat.le_of_ble_eq_true rfl, Nat.le_of_ble_eq_true rfl⟩ ⟨Nat.le_of_ble_eq_true rfl, Nat.le_of_ble_eq_true rfl⟩ h_o rfl rfl rfl hl.1 rfl (Nat.le_of_ble_eq_true rfl) dX10_shaped_93 (fun o w' H locs hp hB => ?_)
                      obtain ⟨rfl, hw9⟩ := hp
                      replace hB : Bd κ A s (lA κ b2 (n * 5) fb2_23 :: gO q1 n c0 b2 :: w) H locs := by rw [hw9] at hB; exact hB
                      refine W.eq (g2 := F0 m 96 ls [.long (f_o ((y6_14 + 1) * 5 + y7_23)), .int (nI y7_23), .int (nI y6_14), .ref q1]) rfl ?_
                      refine call_V (n := 3) (k0 := 1) (As := [.int (nI y6_14), .int (nI y7_23), .long (f_o ((y6_14 + 1) * 5 + y7_23))]) (rest := []) hX hB (k_X7_put κ l (lA κ b2 (n * 5) fb2_23 :: gO q1 n c0 b2 :: w) 1 0 q1 b2 n c0 fb2_23 (nI y6_14) y6_14 (nI y7_23) y7_23 (f_o ((y6_14 + 1) * 5 + y7_23)) rfl rfl ⟨by omega, by omega, by omega, by omega⟩ rfl rfl (by omega)) ⟨rfl, by decide, by decide, by decide +kernel⟩ wm_6_1 wm_5_222 wm_5_223 wm_1_7 wm_5_224 ⟨Nat.le_of_ble_eq_true rfl, Nat.le_of_ble_eq_true rfl⟩ ⟨Nat.le_of_ble_eq_true rfl, Nat.le_of_ble_eq_true rfl⟩ rfl rfl rfl rfl hl.1 rfl (Nat.le_of_ble_eq_true rfl) dX10_shaped_96 (fun o w' H locs hp hB => ?_)
                      obtain ⟨rfl, hw9⟩ := hp
                      replace hB : Bd κ A s (lA κ b2 (n * 5) (vp_updL fb2_23 (y6_14 * 5 + y7_23) (f_o ((y6_14 + 1) * 5 + y7_23))) :: gO q1 n c0 b2 :: w) H locs := by rw [hw9] at hB; exact hB
                      refine W.eq (g2 := F0 m 99 ls []) rfl ?_
                      refine lv_iinc (v := nI (y7_23 + 1)) (lv' := [(7, .int (nI (y7_23 + 1))), (9, .int (nI y7_23)), (8, .int (nI (y6_14 + 1))), (6, .int (nI y6_14)), (5, .ref q1), (0, .ref g_o), (1, .int (nI n)), (2, .int (nI c0)), (3, .int y), (4, .int z)]) hx hb dX10_shaped_99 hl (k := 2) rfl (nI_add y7_23 1) (by decide) rfl (fun ls hl => ?_)
                      refine lv_goto (tgt := 23) hx hb dX10_shaped_102 (by decide) ?_
                      exact ih23 (y7_23 + 1) (vp_updL fb2_23 (y6_14 * 5 + y7_23) (f_o ((y6_14 + 1) * 5 + y7_23))) _ _ (by omega) (by first | exact hf_23 | exact sm_upd hf_23 (hsm _ (by omega))) (by omega) hR hB _ (lv_sub hl [0, 3, 4, 5, 6, 7, 8, 9] rfl)
              · replace hR := ifn c103 hR
                refine lv_iload hx hb dX10_shaped_35 (lv_at hl 1 rfl) ?_
                refine lv_goto (tgt := 44) hx hb dX10_shaped_37 (by decide) ?_
                refine lv_istore (lv' := [(8, .int (nI y6_14)), (7, .int (nI y7_23)), (6, .int (nI y6_14)), (5, .ref q1), (0, .ref g_o), (1, .int (nI n)), (2, .int (nI c0)), (3, .int y), (4, .int z)]) hx hb dX10_shaped_44 hl (by decide) rfl (fun ls hl => ?_)
                refine lv_iload hx hb dX10_shaped_46 (lv_at hl 1 rfl) ?_
                refine lv_iload hx hb dX10_shaped_48 (lv_at hl 8 rfl) ?_
                refine lv_icmp_ge (tgt := 58) hx hb dX10_shaped_50 (by decide) (fun c109 => ?_) (fun c109 => ?_)
                · replace hR := ifp c109 hR
                  refine lv_iload hx hb dX10_shaped_58 (lv_at hl 1 rfl) ?_
                  refine lv_iconst (v := 1) hx hb dX10_shaped_60 (by decide) ?_
                  refine lv_iadd hx hb dX10_shaped_61 ?_
                  refine eqi (y := nI (y7_23 + 1)) (nI_add y7_23 1) ?_
                  refine lv_istore (lv' := [(9, .int (nI (y7_23 + 1))), (8, .int (nI y6_14)), (7, .int (nI y7_23)), (6, .int (nI y6_14)), (5, .ref q1), (0, .ref g_o), (1, .int (nI n)), (2, .int (nI c0)), (3, .int y), (4, .int z)]) hx hb dX10_shaped_62 hl (by decide) rfl (fun ls hl => ?_)
                  refine lv_iload hx hb dX10_shaped_64 (lv_at hl 1 rfl) ?_
                  refine lv_aload_n hx hb dX10_shaped_66 rfl (lv_at hl 5 rfl) ?_
                  refine gf (k0 := k_o + 2) hX hB h_o rfl in7 0 (by decide) wm_5_148 rfl rfl dX10_shaped_67 ?_
                  refine lv_icmp_ge (tgt := 99) hx hb dX10_shaped_70 (by decide) (fun c110 => ?_) (fun c110 => ?_)
                  · rw [nleP (a := R_o) (b := y6_14) (by omega) (by omega)] at c110
                    replace hR := ifp c110 hR
                    refine lv_iinc (v := nI (y7_23 + 1)) (lv' := [(7, .int (nI (y7_23 + 1))), (9, .int (nI (y7_23 + 1))), (8, .int (nI y6_14)), (6, .int (nI y6_14)), (5, .ref q1), (0, .ref g_o), (1, .int (nI n)), (2, .int (nI c0)), (3, .int y), (4, .int z)]) hx hb dX10_shaped_99 hl (k := 2) rfl (nI_add y7_23 1) (by decide) rfl (fun ls hl => ?_)
                    refine lv_goto (tgt := 23) hx hb dX10_shaped_102 (by decide) ?_
                    exact ih23 (y7_23 + 1) fb2_23 _ _ (by omega) (by first | exact hf_23 | exact sm_upd hf_23 (hsm _ (by omega))) (by omega) hR hB _ (lv_sub hl [0, 3, 4, 5, 6, 7, 8, 9] rfl)
                  · rw [nleP (a := R_o) (b := y6_14) (by omega) (by omega)] at c110
                    replace hR := ifn c110 hR
                    refine lv_iload hx hb dX10_shaped_73 (lv_at hl 0 rfl) ?_
                    refine lv_aload_n hx hb dX10_shaped_75 rfl (lv_at hl 5 rfl) ?_
                    refine gf (k0 := k_o + 2) hX hB h_o rfl in7 1 (by decide) wm_5_152 rfl rfl dX10_shaped_76 ?_
                    refine lv_icmp_ge (tgt := 99) hx hb dX10_shaped_79 (by decide) (fun c111 => ?_) (fun c111 => ?_)
                    · rw [nleP (a := C_o) (b := y7_23 + 1) (by omega) (by omega)] at c111
                      replace hR := ifp c111 hR
                      refine lv_iinc (v := nI (y7_23 + 1)) (lv' := [(7, .int (nI (y7_23 + 1))), (9, .int (nI (y7_23 + 1))), (8, .int (nI y6_14)), (6, .int (nI y6_14)), (5, .ref q1), (0, .ref g_o), (1, .int (nI n)), (2, .int (nI c0)), (3, .int y), (4, .int z)]) hx hb dX10_shaped_99 hl (k := 2) rfl (nI_add y7_23 1) (by decide) rfl (fun ls hl => ?_)
                      refine lv_goto (tgt := 23) hx hb dX10_shaped_102 (by decide) ?_
                      exact ih23 (y7_23 + 1) fb2_23 _ _ (by omega) (by first | exact hf_23 | exact sm_upd hf_23 (hsm _ (by omega))) (by omega) hR hB _ (lv_sub hl [0, 3, 4, 5, 6, 7, 8, 9] rfl)
                    · rw [nleP (a := C_o) (b := y7_23 + 1) (by omega) (by omega)] at c111
                      replace hR := ifn c111 hR
                      refine lv_aload hx hb dX10_shaped_82 (lv_at hl 4 rfl) ?_
                      refine lv_iload hx hb dX10_shaped_84 (lv_at hl 3 rfl) ?_
                      refine lv_iload hx hb dX10_shaped_86 (lv_at hl 2 rfl) ?_
                      refine lv_aload_n hx hb dX10_shaped_88 rfl (lv_at hl 5 rfl) ?_
                      refine lv_iload hx hb dX10_shaped_89 (lv_at hl 1 rfl) ?_
                      refine lv_iload hx hb dX10_shaped_91 (lv_at hl 0 rfl) ?_
                      refine call_V (n := 2) (k0 := (k_o + 2)) (As := [.int (nI y6_14), .int (nI (y7_23 + 1))]) (rest := [.int (nI y7_23), .int (nI y6_14), .ref q1]) hX hB (k_X7_at κ l (lA κ b2 (n * 5) fb2_23 :: gO q1 n c0 b2 :: w) (k_o + 2) (j_o + 2) g_o b_o R_o C_o f_o (nI y6_14) y6_14 (nI (y7_23 + 1)) (y7_23 + 1) h_o i_o s_o rfl rfl (by omega)) ⟨rfl, by decide, by decide, by decide +kernel⟩ wm_5_237 wm_5_238 wm_5_239 wm_1_7 wm_6_0 ⟨Nat.le_of_ble_eq_true rfl, Nat.le_of_ble_eq_true rfl⟩ ⟨Nat.le_of_ble_eq_true rfl, Nat.le_of_ble_eq_true rfl⟩ h_o rfl rfl rfl hl.1 rfl (Nat.le_of_ble_eq_true rfl) dX10_shaped_93 (fun o w' H locs hp hB => ?_)
                      obtain ⟨rfl, hw9⟩ := hp
                      replace hB : Bd κ A s (lA κ b2 (n * 5) fb2_23 :: gO q1 n c0 b2 :: w) H locs := by rw [hw9] at hB; exact hB
                      refine W.eq (g2 := F0 m 96 ls [.long (f_o (y6_14 * 5 + (y7_23 + 1))), .int (nI y7_23), .int (nI y6_14), .ref q1]) rfl ?_
                      refine call_V (n := 3) (k0 := 1) (As := [.int (nI y6_14), .int (nI y7_23), .long (f_o (y6_14 * 5 + (y7_23 + 1)))]) (rest := []) hX hB (k_X7_put κ l (lA κ b2 (n * 5) fb2_23 :: gO q1 n c0 b2 :: w) 1 0 q1 b2 n c0 fb2_23 (nI y6_14) y6_14 (nI y7_23) y7_23 (f_o (y6_14 * 5 + (y7_23 + 1))) rfl rfl ⟨by omega, by omega, by omega, by omega⟩ rfl rfl (by omega)) ⟨rfl, by decide, by decide, by decide +kernel⟩ wm_6_1 wm_5_222 wm_5_223 wm_1_7 wm_5_224 ⟨Nat.le_of_ble_eq_true rfl, Nat.le_of_ble_eq_true rfl⟩ ⟨Nat.le_of_ble_eq_true rfl, Nat.le_of_ble_eq_true rfl⟩ rfl rfl rfl rfl hl.1 rfl (Nat.le_of_ble_eq_true rfl) dX10_shaped_96 (fun o w' H locs hp hB => ?_)
                      obtain ⟨rfl, hw9⟩ := hp
                      replace hB : Bd κ A s (lA κ b2 (n * 5) (vp_updL fb2_23 (y6_14 * 5 + y7_23) (f_o (y6_14 * 5 + (y7_23 + 1)))) :: gO q1 n c0 b2 :: w) H locs := by rw [hw9] at hB; exact hB
                      refine W.eq (g2 := F0 m 99 ls []) rfl ?_
                      refine lv_iinc (v := nI (y7_23 + 1)) (lv' := [(7, .int (nI (y7_23 + 1))), (9, .int (nI (y7_23 + 1))), (8, .int (nI y6_14)), (6, .int (nI y6_14)), (5, .ref q1), (0, .ref g_o), (1, .int (nI n)), (2, .int (nI c0)), (3, .int y), (4, .int z)]) hx hb dX10_shaped_99 hl (k := 2) rfl (nI_add y7_23 1) (by decide) rfl (fun ls hl => ?_)
                      refine lv_goto (tgt := 23) hx hb dX10_shaped_102 (by decide) ?_
                      exact ih23 (y7_23 + 1) (vp_updL fb2_23 (y6_14 * 5 + y7_23) (f_o (y6_14 * 5 + (y7_23 + 1)))) _ _ (by omega) (by first | exact hf_23 | exact sm_upd hf_23 (hsm _ (by omega))) (by omega) hR hB _ (lv_sub hl [0, 3, 4, 5, 6, 7, 8, 9] rfl)
                · replace hR := ifn c109 hR
                  refine lv_iload hx hb dX10_shaped_53 (lv_at hl 1 rfl) ?_
                  refine lv_goto (tgt := 62) hx hb dX10_shaped_55 (by decide) ?_
                  refine lv_istore (lv' := [(9, .int (nI y7_23)), (8, .int (nI y6_14)), (7, .int (nI y7_23)), (6, .int (nI y6_14)), (5, .ref q1), (0, .ref g_o), (1, .int (nI n)), (2, .int (nI c0)), (3, .int y), (4, .int z)]) hx hb dX10_shaped_62 hl (by decide) rfl (fun ls hl => ?_)
                  refine lv_iload hx hb dX10_shaped_64 (lv_at hl 1 rfl) ?_
                  refine lv_aload_n hx hb dX10_shaped_66 rfl (lv_at hl 5 rfl) ?_
                  refine gf (k0 := k_o + 2) hX hB h_o rfl in7 0 (by decide) wm_5_148 rfl rfl dX10_shaped_67 ?_
                  refine lv_icmp_ge (tgt := 99) hx hb dX10_shaped_70 (by decide) (fun c112 => ?_) (fun c112 => ?_)
                  · rw [nleP (a := R_o) (b := y6_14) (by omega) (by omega)] at c112
                    replace hR := ifp c112 hR
                    refine lv_iinc (v := nI (y7_23 + 1)) (lv' := [(7, .int (nI (y7_23 + 1))), (9, .int (nI y7_23)), (8, .int (nI y6_14)), (6, .int (nI y6_14)), (5, .ref q1), (0, .ref g_o), (1, .int (nI n)), (2, .int (nI c0)), (3, .int y), (4, .int z)]) hx hb dX10_shaped_99 hl (k := 2) rfl (nI_add y7_23 1) (by decide) rfl (fun ls hl => ?_)
                    refine lv_goto (tgt := 23) hx hb dX10_shaped_102 (by decide) ?_
                    exact ih23 (y7_23 + 1) fb2_23 _ _ (by omega) (by first | exact hf_23 | exact sm_upd hf_23 (hsm _ (by omega))) (by omega) hR hB _ (lv_sub hl [0, 3, 4, 5, 6, 7, 8, 9] rfl)
                  · rw [nleP (a := R_o) (b := y6_14) (by omega) (by omega)] at c112
                    replace hR := ifn c112 hR
                    refine lv_iload hx hb dX10_shaped_73 (lv_at hl 0 rfl) ?_
                    refine lv_aload_n hx hb dX10_shaped_75 rfl (lv_at hl 5 rfl) ?_
                    refine gf (k0 := k_o + 2) hX hB h_o rfl in7 1 (by decide) wm_5_152 rfl rfl dX10_shaped_76 ?_
                    refine lv_icmp_ge (tgt := 99) hx hb dX10_shaped_79 (by decide) (fun c113 => ?_) (fun c113 => ?_)
                    · rw [nleP (a := C_o) (b := y7_23) (by omega) (by omega)] at c113
                      replace hR := ifp c113 hR
                      refine lv_iinc (v := nI (y7_23 + 1)) (lv' := [(7, .int (nI (y7_23 + 1))), (9, .int (nI y7_23)), (8, .int (nI y6_14)), (6, .int (nI y6_14)), (5, .ref q1), (0, .ref g_o), (1, .int (nI n)), (2, .int (nI c0)), (3, .int y), (4, .int z)]) hx hb dX10_shaped_99 hl (k := 2) rfl (nI_add y7_23 1) (by decide) rfl (fun ls hl => ?_)
                      refine lv_goto (tgt := 23) hx hb dX10_shaped_102 (by decide) ?_
                      exact ih23 (y7_23 + 1) fb2_23 _ _ (by omega) (by first | exact hf_23 | exact sm_upd hf_23 (hsm _ (by omega))) (by omega) hR hB _ (lv_sub hl [0, 3, 4, 5, 6, 7, 8, 9] rfl)
                    · rw [nleP (a := C_o) (b := y7_23) (by omega) (by omega)] at c113
                      replace hR := ifn c113 hR
                      refine lv_aload hx hb dX10_shaped_82 (lv_at hl 4 rfl) ?_
                      refine lv_iload hx hb dX10_shaped_84 (lv_at hl 3 rfl) ?_
                      refine lv_iload hx hb dX10_shaped_86 (lv_at hl 2 rfl) ?_
                      refine lv_aload_n hx hb dX10_shaped_88 rfl (lv_at hl 5 rfl) ?_
                      refine lv_iload hx hb dX10_shaped_89 (lv_at hl 1 rfl) ?_
                      refine lv_iload hx hb dX10_shaped_91 (lv_at hl 0 rfl) ?_
                      refine call_V (n := 2) (k0 := (k_o + 2)) (As := [.int (nI y6_14), .int (nI y7_23)]) (rest := [.int (nI y7_23), .int (nI y6_14), .ref q1]) hX hB (k_X7_at κ l (lA κ b2 (n * 5) fb2_23 :: gO q1 n c0 b2 :: w) (k_o + 2) (j_o + 2) g_o b_o R_o C_o f_o (nI y6_14) y6_14 (nI y7_23) y7_23 h_o i_o s_o rfl rfl (by omega)) ⟨rfl, by decide, by decide, by decide +kernel⟩ wm_5_237 wm_5_238 wm_5_239 wm_1_7 wm_6_0 ⟨Nat.le_of_ble_eq_true rfl, Nat.le_of_ble_eq_true rfl⟩ ⟨Nat.le_of_ble_eq_true rfl, Nat.le_of_ble_eq_true rfl⟩ h_o rfl rfl rfl hl.1 rfl (Nat.le_of_ble_eq_true rfl) dX10_shaped_93 (fun o w' H locs hp hB => ?_)
                      obtain ⟨rfl, hw9⟩ := hp
                      replace hB : Bd κ A s (lA κ b2 (n * 5) fb2_23 :: gO q1 n c0 b2 :: w) H locs := by rw [hw9] at hB; exact hB
                      refine W.eq (g2 := F0 m 96 ls [.long (f_o (y6_14 * 5 + y7_23)), .int (nI y7_23), .int (nI y6_14), .ref q1]) rfl ?_
                      refine call_V (n := 3) (k0 := 1) (As := [.int (nI y6_14), .int (nI y7_23), .long (f_o (y6_14 * 5 + y7_23))]) (rest := []) hX hB (k_X7_put κ l (lA κ b2 (n * 5) fb2_23 :: gO q1 n c0 b2 :: w) 1 0 q1 b2 n c0 fb2_23 (nI y6_14) y6_14 (nI y7_23) y7_23 (f_o (y6_14 * 5 + y7_23)) rfl rfl ⟨by omega, by omega, by omega, by omega⟩ rfl rfl (by omega)) ⟨rfl, by decide, by decide, by decide +kernel⟩ wm_6_1 wm_5_222 wm_5_223 wm_1_7 wm_5_224 ⟨Nat.le_of_ble_eq_true rfl, Nat.le_of_ble_eq_true rfl⟩ ⟨Nat.le_of_ble_eq_true rfl, Nat.le_of_ble_eq_true rfl⟩ rfl rfl rfl rfl hl.1 rfl (Nat.le_of_ble_eq_true rfl) dX10_shaped_96 (fun o w' H locs hp hB => ?_)
                      obtain ⟨rfl, hw9⟩ := hp
                      replace hB : Bd κ A s (lA κ b2 (n * 5) (vp_updL fb2_23 (y6_14 * 5 + y7_23) (f_o (y6_14 * 5 + y7_23))) :: gO q1 n c0 b2 :: w) H locs := by rw [hw9] at hB; exact hB
                      refine W.eq (g2 := F0 m 99 ls []) rfl ?_
                      refine lv_iinc (v := nI (y7_23 + 1)) (lv' := [(7, .int (nI (y7_23 + 1))), (9, .int (nI y7_23)), (8, .int (nI y6_14)), (6, .int (nI y6_14)), (5, .ref q1), (0, .ref g_o), (1, .int (nI n)), (2, .int (nI c0)), (3, .int y), (4, .int z)]) hx hb dX10_shaped_99 hl (k := 2) rfl (nI_add y7_23 1) (by decide) rfl (fun ls hl => ?_)
                      refine lv_goto (tgt := 23) hx hb dX10_shaped_102 (by decide) ?_
                      exact ih23 (y7_23 + 1) (vp_updL fb2_23 (y6_14 * 5 + y7_23) (f_o (y6_14 * 5 + y7_23))) _ _ (by omega) (by first | exact hf_23 | exact sm_upd hf_23 (hsm _ (by omega))) (by omega) hR hB _ (lv_sub hl [0, 3, 4, 5, 6, 7, 8, 9] rfl)
        exact lp23 _ 0 fb2_14 _ _ (by omega) hf_14 (Nat.lt_succ_self _) hR hB _ hl
  exact lp14 _ 0 (fun _ => 0) _ _ (by omega) (fun _ _ => sm_0) (Nat.lt_succ_self _) hR hB _ hl
noncomputable def D_X10_toldOf (R_o : Nat) (C_o : Nat) (f_o : Nat → Int64) (y : Int32) : Int32 × Nat × Nat × (Nat → Int64) := (if 2 ≤ y then bnd7 (D_X9_init R_o C_o f_o) (fun (F9 : Nat → Int64) (F10 : Nat → Int64) (F11 : Nat → Int64) (S12 : Int32) (S13 : Int32) (K14 : Nat) (G15 : Int32) => (if G15 = 0 then (if y = 2 then (1, R_o, C_o, F11) else (if y = 3 then (1, R_o, R_o, F10) else (1, C_o, C_o, F9))) else (0, 0, 0, fun _ => 0))) else bnd4 (D_X8_init R_o C_o f_o) (fun (F26 : Nat → Int64) (F27 : Nat → Int64) (S28 : Int32) (G29 : Int32) => (if G29 = 0 then (if y = 0 then (1, R_o, C_o, F27) else (1, R_o, R_o, F26)) else (0, 0, 0, fun _ => 0))))
theorem D_X10_toldOf_s {R_o : Nat} {C_o : Nat} {f_o : Nat → Int64} {y : Int32} : D_X10_toldOf R_o C_o f_o y = (if 2 ≤ y then bnd7 (D_X9_init R_o C_o f_o) (fun (F9 : Nat → Int64) (F10 : Nat → Int64) (F11 : Nat → Int64) (S12 : Int32) (S13 : Int32) (K14 : Nat) (G15 : Int32) => (if G15 = 0 then (if y = 2 then (1, R_o, C_o, F11) else (if y = 3 then (1, R_o, R_o, F10) else (1, C_o, C_o, F9))) else (0, 0, 0, fun _ => 0))) else bnd4 (D_X8_init R_o C_o f_o) (fun (F26 : Nat → Int64) (F27 : Nat → Int64) (S28 : Int32) (G29 : Int32) => (if G29 = 0 then (if y = 0 then (1, R_o, C_o, F27) else (1, R_o, R_o, F26)) else (0, 0, 0, fun _ => 0)))) := rfl
set_option maxHeartbeats 4000000 in
set_option maxRecDepth 100000 in
theorem k_X10_toldOf (κ : Kt) (l : Launch) (w : va_W) (k_o j_o g_o b_o R_o C_o : Nat) (f_o : Nat → Int64) (y : Int32) (h_o : w[k_o]? = some (gO g_o R_o C_o b_o)) (i_o : w[j_o]? = some (lA κ b_o (R_o * 5) f_o)) (s_o : shp R_o C_o) (hC4 : C_o ≤ 4) (hng : ∀ k, k < R_o * 5 → ng (f_o k)) (hyy : ¬ y < 0 ∧ y ≤ 4) (o_z : Int32) (o_R : Nat) (o_C : Nat) (o_F : Nat → Int64) (hR : D_X10_toldOf R_o C_o f_o y = (o_z, o_R, o_C, o_F)) : CM κ l yX10_toldOf cX10_toldOf 3 (some (.object "GridmenderModel$Grid")) 5 122 7 76 [.ref g_o, .int y] (w) (fun o w' => (o_z = 0 ∧ o = some .null ∧ w' = w) ∨ o_z = 1 ∧ ∃ (q1 q2 : Nat), o = some (.ref q1) ∧ ((1 ≤ o_R ∧ o_R ≤ 4 ∧ 1 ≤ o_C ∧ o_C ≤ 4) ∧ TSf y R_o C_o o_R o_C) ∧ w' = lA κ q2 (o_R * 5) o_F :: gO q1 o_R o_C q2 :: w) := by
  have z_o := s_o
  obtain ⟨s_o1, s_o2, s_o3, s_o4⟩ := z_o
  refine CM_begin (plainFor_of_name (by decide)) (Nat.le_of_ble_eq_true rfl) ?_
  intro p e s m args below meth c A Q hX hnm hA3 hQ hB ls hl
  have hx := hX.1.1
  have hb := hX.1.2.1
  have hl : lv_has ls 3 [(0, .ref g_o), (1, .int y)] := hl
  replace hR := (D_X10_toldOf_s).symm.trans hR
  refine lv_iload_n hx hb dX10_toldOf_0 rfl (lv_at hl 1 rfl) ?_
  refine lv_iconst (v := 2) hx hb dX10_toldOf_1 (by decide) ?_
  refine lv_icmp_ge (tgt := 41) hx hb dX10_toldOf_2 (by decide) (fun c1 => ?_) (fun c1 => ?_)
  · replace hR := ifp c1 hR
    refine newO (fs := [.null, .null, .null, .int 0, .int 0, .int 0, .int 0]) hX hB (ci := 10) rfl in9 tyX9_ok wm_6_176 wm_6_177 wm_1_16 df10 (Nat.le_of_ble_eq_true rfl) (Nat.le_of_ble_eq_true rfl) dX10_toldOf_41 (fun q2 H hB => ?_)
    refine lv_dup hx hb dX10_toldOf_44 rfl ?_
    refine lv_aload_n hx hb dX10_toldOf_45 rfl (lv_at hl 0 rfl) ?_
    obtain ⟨F9, F10, F11, S12, S13, K14, G15, hd16⟩ := ex7 (D_X9_init R_o C_o f_o)
    replace hR := bnd7_use hd16 hR
    refine call_I (n := 1) (As := [.ref g_o]) (rest := [.ref q2]) hX hB (k_X9_init κ l (w) q2 k_o j_o g_o b_o R_o C_o f_o h_o i_o s_o (by omega) hng F9 F10 F11 S12 S13 K14 G15 hd16) ⟨by decide, by decide, by decide +kernel⟩ rfl wm_6_178 wm_6_179 wm_1_16 wm_6_180 ⟨Nat.le_of_ble_eq_true rfl, Nat.le_of_ble_eq_true rfl⟩ ⟨Nat.le_of_ble_eq_true rfl, Nat.le_of_ble_eq_true rfl⟩ rfl hl.1 rfl (Nat.le_of_ble_eq_true rfl) dX10_toldOf_46 (fun o w' H locs hp hB => ?_)
    obtain ⟨g3, b4, g5, b6, g7, b8, rfl, hf17, hw9⟩ := hp
    replace hB : Bd κ A s (lA κ b4 (C_o * 5) F9 :: gO g3 C_o C_o b4 :: lA κ b6 (R_o * 5) F10 :: gO g5 R_o R_o b6 :: lA κ b8 (R_o * 5) F11 :: gO g7 R_o C_o b8 :: (q2, .inr (10, [.ref g7, .ref g5, .ref g3, .int S12, .int S13, .int (nI K14), .int G15])) :: w) H locs := by rw [hw9] at hB; exact hB
    refine W.eq (g2 := F0 m 49 ls [.ref q2]) rfl ?_
    refine lv_astore_n (lv' := [(2, .ref q2), (0, .ref g_o), (1, .int y)]) hx hb dX10_toldOf_49 rfl hl (by decide) rfl (fun ls hl => ?_)
    refine lv_aload_n hx hb dX10_toldOf_50 rfl (lv_at hl 0 rfl) ?_
    refine gf (k0 := 6) hX hB rfl rfl in9 6 (by decide) wm_6_234 rfl rfl dX10_toldOf_51 ?_
    refine lv_if_eq (tgt := 61) hx hb dX10_toldOf_54 (by decide) (fun c18 => ?_) (fun c18 => ?_)
    · replace hR := ifp c18 hR
      refine lv_iload_n hx hb dX10_toldOf_61 rfl (lv_at hl 2 rfl) ?_
      refine lv_iconst (v := 2) hx hb dX10_toldOf_62 (by decide) ?_
      refine lv_icmp_ne (tgt := 73) hx hb dX10_toldOf_63 (by decide) (fun c19 => ?_) (fun c19 => ?_)
      · replace hR := ifn c19 hR
        refine lv_iload_n hx hb dX10_toldOf_73 rfl (lv_at hl 2 rfl) ?_
        refine lv_iconst (v := 3) hx hb dX10_toldOf_74 (by decide) ?_
        refine lv_icmp_ne (tgt := 85) hx hb dX10_toldOf_75 (by decide) (fun c20 => ?_) (fun c20 => ?_)
        · replace hR := ifn c20 hR
          refine lv_aload_n hx hb dX10_toldOf_85 rfl (lv_at hl 0 rfl) ?_
          refine gf (k0 := 6) hX hB rfl rfl in9 2 (by decide) wm_6_226 rfl rfl dX10_toldOf_86 ?_
          replace hB : Bd κ A s (lA κ b4 (C_o * 5) F9 :: gO g3 C_o C_o b4 :: lA κ b6 (R_o * 5) F10 :: gO g5 R_o R_o b6 :: lA κ b8 (R_o * 5) F11 :: gO g7 R_o C_o b8 :: w) H locs := Bd_del 6 hB
          replace hB : Bd κ A s (lA κ b4 (C_o * 5) F9 :: gO g3 C_o C_o b4 :: lA κ b6 (R_o * 5) F10 :: gO g5 R_o R_o b6 :: lA κ b8 (R_o * 5) F11 :: w) H locs := Bd_del 5 hB
          replace hB : Bd κ A s (lA κ b4 (C_o * 5) F9 :: gO g3 C_o C_o b4 :: lA κ b6 (R_o * 5) F10 :: gO g5 R_o R_o b6 :: w) H locs := Bd_del 4 hB
          replace hB : Bd κ A s (lA κ b4 (C_o * 5) F9 :: gO g3 C_o C_o b4 :: lA κ b6 (R_o * 5) F10 :: w) H locs := Bd_del 3 hB
          replace hB : Bd κ A s (lA κ b4 (C_o * 5) F9 :: gO g3 C_o C_o b4 :: w) H locs := Bd_del 2 hB
          rw [← hQ]
          exact end_a hX hB hA3 rfl (Or.inr ⟨_, rfl⟩) (by obtain ⟨rfl, rfl, rfl, rfl⟩ := pr4 hR; exact (Or.inr ⟨rfl, g3, b4, rfl, ⟨⟨by omega, by omega, by omega, by omega⟩, (by first | exact TS_0 (by assumption) | exact TS_1 hyy.1 (by assumption) (by assumption) | exact TS_2 (by assumption) | exact TS_3 (by assumption) | exact TS_4 hyy.2 (by assumption) (by assumption) (by assumption))⟩, rfl⟩)) (Nat.le_of_ble_eq_true rfl) (Nat.le_of_ble_eq_true rfl) dX10_toldOf_89
        · replace hR := ifp c20 hR
          refine lv_aload_n hx hb dX10_toldOf_78 rfl (lv_at hl 0 rfl) ?_
          refine gf (k0 := 6) hX hB rfl rfl in9 1 (by decide) wm_6_224 rfl rfl dX10_toldOf_79 ?_
          refine lv_goto (tgt := 89) hx hb dX10_toldOf_82 (by decide) ?_
          replace hB : Bd κ A s (lA κ b4 (C_o * 5) F9 :: gO g3 C_o C_o b4 :: lA κ b6 (R_o * 5) F10 :: gO g5 R_o R_o b6 :: lA κ b8 (R_o * 5) F11 :: gO g7 R_o C_o b8 :: w) H locs := Bd_del 6 hB
          replace hB : Bd κ A s (lA κ b4 (C_o * 5) F9 :: gO g3 C_o C_o b4 :: lA κ b6 (R_o * 5) F10 :: gO g5 R_o R_o b6 :: lA κ b8 (R_o * 5) F11 :: w) H locs := Bd_del 5 hB
          replace hB : Bd κ A s (lA κ b4 (C_o * 5) F9 :: gO g3 C_o C_o b4 :: lA κ b6 (R_o * 5) F10 :: gO g5 R_o R_o b6 :: w) H locs := Bd_del 4 hB
          replace hB : Bd κ A s (lA κ b4 (C_o * 5) F9 :: lA κ b6 (R_o * 5) F10 :: gO g5 R_o R_o b6 :: w) H locs := Bd_del 1 hB
          replace hB : Bd κ A s (lA κ b6 (R_o * 5) F10 :: gO g5 R_o R_o b6 :: w) H locs := Bd_del 0 hB
          rw [← hQ]
          exact end_a hX hB hA3 rfl (Or.inr ⟨_, rfl⟩) (by obtain ⟨rfl, rfl, rfl, rfl⟩ := pr4 hR; exact (Or.inr ⟨rfl, g5, b6, rfl, ⟨⟨by omega, by omega, by omega, by omega⟩, (by first | exact TS_0 (by assumption) | exact TS_1 hyy.1 (by assumption) (by assumption) | exact TS_2 (by assumption) | exact TS_3 (by assumption) | exact TS_4 hyy.2 (by assumption) (by assumption) (by assumption))⟩, rfl⟩)) (Nat.le_of_ble_eq_true rfl) (Nat.le_of_ble_eq_true rfl) dX10_toldOf_89
      · replace hR := ifp c19 hR
        refine lv_aload_n hx hb dX10_toldOf_66 rfl (lv_at hl 0 rfl) ?_
        refine gf (k0 := 6) hX hB rfl rfl in9 0 (by decide) wm_6_222 rfl rfl dX10_toldOf_67 ?_
        refine lv_goto (tgt := 89) hx hb dX10_toldOf_70 (by decide) ?_
        replace hB : Bd κ A s (lA κ b4 (C_o * 5) F9 :: gO g3 C_o C_o b4 :: lA κ b6 (R_o * 5) F10 :: gO g5 R_o R_o b6 :: lA κ b8 (R_o * 5) F11 :: gO g7 R_o C_o b8 :: w) H locs := Bd_del 6 hB
        replace hB : Bd κ A s (lA κ b4 (C_o * 5) F9 :: gO g3 C_o C_o b4 :: lA κ b6 (R_o * 5) F10 :: lA κ b8 (R_o * 5) F11 :: gO g7 R_o C_o b8 :: w) H locs := Bd_del 3 hB
        replace hB : Bd κ A s (lA κ b4 (C_o * 5) F9 :: gO g3 C_o C_o b4 :: lA κ b8 (R_o * 5) F11 :: gO g7 R_o C_o b8 :: w) H locs := Bd_del 2 hB
        replace hB : Bd κ A s (lA κ b4 (C_o * 5) F9 :: lA κ b8 (R_o * 5) F11 :: gO g7 R_o C_o b8 :: w) H locs := Bd_del 1 hB
        replace hB : Bd κ A s (lA κ b8 (R_o * 5) F11 :: gO g7 R_o C_o b8 :: w) H locs := Bd_del 0 hB
        rw [← hQ]
        exact end_a hX hB hA3 rfl (Or.inr ⟨_, rfl⟩) (by obtain ⟨rfl, rfl, rfl, rfl⟩ := pr4 hR; exact (Or.inr ⟨rfl, g7, b8, rfl, ⟨⟨by omega, by omega, by omega, by omega⟩, (by first | exact TS_0 (by assumption) | exact TS_1 hyy.1 (by assumption) (by assumption) | exact TS_2 (by assumption) | exact TS_3 (by assumption) | exact TS_4 hyy.2 (by assumption) (by assumption) (by assumption))⟩, rfl⟩)) (Nat.le_of_ble_eq_true rfl) (Nat.le_of_ble_eq_true rfl) dX10_toldOf_89
    · replace hR := ifn c18 hR
      refine lv_null hx hb dX10_toldOf_57 ?_
      refine lv_goto (tgt := 89) hx hb dX10_toldOf_58 (by decide) ?_
      replace hB : Bd κ A s (lA κ b4 (C_o * 5) F9 :: gO g3 C_o C_o b4 :: lA κ b6 (R_o * 5) F10 :: gO g5 R_o R_o b6 :: lA κ b8 (R_o * 5) F11 :: gO g7 R_o C_o b8 :: w) H locs := Bd_del 6 hB
      replace hB : Bd κ A s (lA κ b4 (C_o * 5) F9 :: gO g3 C_o C_o b4 :: lA κ b6 (R_o * 5) F10 :: gO g5 R_o R_o b6 :: lA κ b8 (R_o * 5) F11 :: w) H locs := Bd_del 5 hB
      replace hB : Bd κ A s (lA κ b4 (C_o * 5) F9 :: gO g3 C_o C_o b4 :: lA κ b6 (R_o * 5) F10 :: gO g5 R_o R_o b6 :: w) H locs := Bd_del 4 hB
      replace hB : Bd κ A s (lA κ b4 (C_o * 5) F9 :: gO g3 C_o C_o b4 :: lA κ b6 (R_o * 5) F10 :: w) H locs := Bd_del 3 hB
      replace hB : Bd κ A s (lA κ b4 (C_o * 5) F9 :: gO g3 C_o C_o b4 :: w) H locs := Bd_del 2 hB
      replace hB : Bd κ A s (lA κ b4 (C_o * 5) F9 :: w) H locs := Bd_del 1 hB
      replace hB : Bd κ A s (w) H locs := Bd_del 0 hB
      rw [← hQ]
      exact end_a hX hB hA3 rfl (Or.inl rfl) (by obtain ⟨rfl, rfl, rfl, rfl⟩ := pr4 hR; exact (Or.inl ⟨rfl, rfl, rfl⟩)) (Nat.le_of_ble_eq_true rfl) (Nat.le_of_ble_eq_true rfl) dX10_toldOf_89
  · replace hR := ifn c1 hR
    refine newO (fs := [.null, .null, .int 0, .int 0]) hX hB (ci := 9) rfl in8 tyX8_ok wm_6_127 wm_6_128 wm_1_15 df9 (Nat.le_of_ble_eq_true rfl) (Nat.le_of_ble_eq_true rfl) dX10_toldOf_5 (fun q21 H hB => ?_)
    refine lv_dup hx hb dX10_toldOf_8 rfl ?_
    refine lv_aload_n hx hb dX10_toldOf_9 rfl (lv_at hl 0 rfl) ?_
    obtain ⟨F26, F27, S28, G29, hd30⟩ := ex4 (D_X8_init R_o C_o f_o)
    replace hR := bnd4_use hd30 hR
    refine call_I (n := 1) (As := [.ref g_o]) (rest := [.ref q21]) hX hB (k_X8_init κ l (w) q21 k_o j_o g_o b_o R_o C_o f_o h_o i_o s_o hng F26 F27 S28 G29 hd30) ⟨by decide, by decide, by decide +kernel⟩ rfl wm_6_129 wm_6_130 wm_1_15 wm_6_131 ⟨Nat.le_of_ble_eq_true rfl, Nat.le_of_ble_eq_true rfl⟩ ⟨Nat.le_of_ble_eq_true rfl, Nat.le_of_ble_eq_true rfl⟩ rfl hl.1 rfl (Nat.le_of_ble_eq_true rfl) dX10_toldOf_10 (fun o w' H locs hp hB => ?_)
    obtain ⟨g22, b23, g24, b25, rfl, hf31, hw9⟩ := hp
    replace hB : Bd κ A s (lA κ b23 (R_o * 5) F26 :: gO g22 R_o R_o b23 :: lA κ b25 (R_o * 5) F27 :: gO g24 R_o C_o b25 :: (q21, .inr (9, [.ref g24, .ref g22, .int S28, .int G29])) :: w) H locs := by rw [hw9] at hB; exact hB
    refine W.eq (g2 := F0 m 13 ls [.ref q21]) rfl ?_
    refine lv_astore_n (lv' := [(2, .ref q21), (0, .ref g_o), (1, .int y)]) hx hb dX10_toldOf_13 rfl hl (by decide) rfl (fun ls hl => ?_)
    refine lv_aload_n hx hb dX10_toldOf_14 rfl (lv_at hl 0 rfl) ?_
    refine gf (k0 := 4) hX hB rfl rfl in8 3 (by decide) wm_6_166 rfl rfl dX10_toldOf_15 ?_
    refine lv_if_eq (tgt := 25) hx hb dX10_toldOf_18 (by decide) (fun c32 => ?_) (fun c32 => ?_)
    · replace hR := ifp c32 hR
      refine lv_iload_n hx hb dX10_toldOf_25 rfl (lv_at hl 2 rfl) ?_
      refine lv_if_ne (tgt := 36) hx hb dX10_toldOf_26 (by decide) (fun c33 => ?_) (fun c33 => ?_)
      · replace hR := ifn c33 hR
        refine lv_aload_n hx hb dX10_toldOf_36 rfl (lv_at hl 0 rfl) ?_
        refine gf (k0 := 4) hX hB rfl rfl in8 1 (by decide) wm_6_162 rfl rfl dX10_toldOf_37 ?_
        replace hB : Bd κ A s (lA κ b23 (R_o * 5) F26 :: gO g22 R_o R_o b23 :: lA κ b25 (R_o * 5) F27 :: gO g24 R_o C_o b25 :: w) H locs := Bd_del 4 hB
        replace hB : Bd κ A s (lA κ b23 (R_o * 5) F26 :: gO g22 R_o R_o b23 :: lA κ b25 (R_o * 5) F27 :: w) H locs := Bd_del 3 hB
        replace hB : Bd κ A s (lA κ b23 (R_o * 5) F26 :: gO g22 R_o R_o b23 :: w) H locs := Bd_del 2 hB
        rw [← hQ]
        exact end_a hX hB hA3 rfl (Or.inr ⟨_, rfl⟩) (by obtain ⟨rfl, rfl, rfl, rfl⟩ := pr4 hR; exact (Or.inr ⟨rfl, g22, b23, rfl, ⟨⟨by omega, by omega, by omega, by omega⟩, (by first | exact TS_0 (by assumption) | exact TS_1 hyy.1 (by assumption) (by assumption) | exact TS_2 (by assumption) | exact TS_3 (by assumption) | exact TS_4 hyy.2 (by assumption) (by assumption) (by assumption))⟩, rfl⟩)) (Nat.le_of_ble_eq_true rfl) (Nat.le_of_ble_eq_true rfl) dX10_toldOf_40
      · replace hR := ifp c33 hR
        refine lv_aload_n hx hb dX10_toldOf_29 rfl (lv_at hl 0 rfl) ?_
        refine gf (k0 := 4) hX hB rfl rfl in8 0 (by decide) wm_6_160 rfl rfl dX10_toldOf_30 ?_
        refine lv_goto (tgt := 40) hx hb dX10_toldOf_33 (by decide) ?_
        replace hB : Bd κ A s (lA κ b23 (R_o * 5) F26 :: gO g22 R_o R_o b23 :: lA κ b25 (R_o * 5) F27 :: gO g24 R_o C_o b25 :: w) H locs := Bd_del 4 hB
        replace hB : Bd κ A s (lA κ b23 (R_o * 5) F26 :: lA κ b25 (R_o * 5) F27 :: gO g24 R_o C_o b25 :: w) H locs := Bd_del 1 hB
        replace hB : Bd κ A s (lA κ b25 (R_o * 5) F27 :: gO g24 R_o C_o b25 :: w) H locs := Bd_del 0 hB
        rw [← hQ]
        exact end_a hX hB hA3 rfl (Or.inr ⟨_, rfl⟩) (by obtain ⟨rfl, rfl, rfl, rfl⟩ := pr4 hR; exact (Or.inr ⟨rfl, g24, b25, rfl, ⟨⟨by omega, by omega, by omega, by omega⟩, (by first | exact TS_0 (by assumption) | exact TS_1 hyy.1 (by assumption) (by assumption) | exact TS_2 (by assumption) | exact TS_3 (by assumption) | exact TS_4 hyy.2 (by assumption) (by assumption) (by assumption))⟩, rfl⟩)) (Nat.le_of_ble_eq_true rfl) (Nat.le_of_ble_eq_true rfl) dX10_toldOf_40
    · replace hR := ifn c32 hR
      refine lv_null hx hb dX10_toldOf_21 ?_
      refine lv_goto (tgt := 40) hx hb dX10_toldOf_22 (by decide) ?_
      replace hB : Bd κ A s (lA κ b23 (R_o * 5) F26 :: gO g22 R_o R_o b23 :: lA κ b25 (R_o * 5) F27 :: gO g24 R_o C_o b25 :: w) H locs := Bd_del 4 hB
      replace hB : Bd κ A s (lA κ b23 (R_o * 5) F26 :: gO g22 R_o R_o b23 :: lA κ b25 (R_o * 5) F27 :: w) H locs := Bd_del 3 hB
      replace hB : Bd κ A s (lA κ b23 (R_o * 5) F26 :: gO g22 R_o R_o b23 :: w) H locs := Bd_del 2 hB
      replace hB : Bd κ A s (lA κ b23 (R_o * 5) F26 :: w) H locs := Bd_del 1 hB
      replace hB : Bd κ A s (w) H locs := Bd_del 0 hB
      rw [← hQ]
      exact end_a hX hB hA3 rfl (Or.inl rfl) (by obtain ⟨rfl, rfl, rfl, rfl⟩ := pr4 hR; exact (Or.inl ⟨rfl, rfl, rfl⟩)) (Nat.le_of_ble_eq_true rfl) (Nat.le_of_ble_eq_true rfl) dX10_toldOf_40
noncomputable def D_X10_leaving (R_o : Nat) (C_o : Nat) (f_o : Nat → Int64) : Int32 × Nat × Nat × (Nat → Int64) := (if R_o = C_o then (if (lg_cmp (mnv f_o C_o R_o (2 ^ R_o - 1) (2 ^ C_o - 1)) 0) = 0 then (0, 0, 0, fun _ => 0) else bnd4 (D_X8_init R_o C_o f_o) (fun (F8 : Nat → Int64) (F9 : Nat → Int64) (S10 : Int32) (G11 : Int32) => (if G11 = 0 then (1, R_o, C_o, F9) else (0, 0, 0, fun _ => 0)))) else (0, 0, 0, fun _ => 0))
theorem D_X10_leaving_s {R_o : Nat} {C_o : Nat} {f_o : Nat → Int64} : D_X10_leaving R_o C_o f_o = (if R_o = C_o then (if (lg_cmp (mnv f_o C_o R_o (2 ^ R_o - 1) (2 ^ C_o - 1)) 0) = 0 then (0, 0, 0, fun _ => 0) else bnd4 (D_X8_init R_o C_o f_o) (fun (F8 : Nat → Int64) (F9 : Nat → Int64) (S10 : Int32) (G11 : Int32) => (if G11 = 0 then (1, R_o, C_o, F9) else (0, 0, 0, fun _ => 0)))) else (0, 0, 0, fun _ => 0)) := rfl
set_option maxHeartbeats 4000000 in
set_option maxRecDepth 100000 in
theorem k_X10_leaving (κ : Kt) (l : Launch) (w : va_W) (k_o j_o g_o b_o R_o C_o : Nat) (f_o : Nat → Int64) (h_o : w[k_o]? = some (gO g_o R_o C_o b_o)) (i_o : w[j_o]? = some (lA κ b_o (R_o * 5) f_o)) (s_o : shp R_o C_o) (hC4 : C_o ≤ 4) (hng : ∀ k, k < R_o * 5 → ng (f_o k)) (o_z : Int32) (o_R : Nat) (o_C : Nat) (o_F : Nat → Int64) (hR : D_X10_leaving R_o C_o f_o = (o_z, o_R, o_C, o_F)) : CM κ l yX10_leaving cX10_leaving 2 (some (.object "GridmenderModel$Grid")) 7 188 5 50 [.ref g_o] (w) (fun o w' => (o_z = 0 ∧ o = some .null ∧ w' = w) ∨ o_z = 1 ∧ ∃ (q1 q2 : Nat), o = some (.ref q1) ∧ (o_R = R_o ∧ o_C = C_o ∧ R_o = C_o ∧ ∀ j, j < o_R → ¬ o_F (j * 5 + j) = 0) ∧ w' = lA κ q2 (o_R * 5) o_F :: gO q1 o_R o_C q2 :: w) := by
  have z_o := s_o
  obtain ⟨s_o1, s_o2, s_o3, s_o4⟩ := z_o
  refine CM_begin (plainFor_of_name (by decide)) (Nat.le_of_ble_eq_true rfl) ?_
  intro p e s m args below meth c A Q hX hnm hA3 hQ hB ls hl
  have hx := hX.1.1
  have hb := hX.1.2.1
  have hl : lv_has ls 2 [(0, .ref g_o)] := hl
  replace hR := (D_X10_leaving_s).symm.trans hR
  refine lv_aload_n hx hb dX10_leaving_0 rfl (lv_at hl 0 rfl) ?_
  refine gf (k0 := k_o) hX hB h_o rfl in7 0 (by decide) wm_5_148 rfl rfl dX10_leaving_1 ?_
  refine lv_aload_n hx hb dX10_leaving_4 rfl (lv_at hl 0 rfl) ?_
  refine gf (k0 := k_o) hX hB h_o rfl in7 1 (by decide) wm_5_152 rfl rfl dX10_leaving_5 ?_
  refine lv_icmp_ne (tgt := 20) hx hb dX10_leaving_8 (by decide) (fun c1 => ?_) (fun c1 => ?_)
  · rw [neqP (a := R_o) (b := C_o) (by omega) (by omega)] at c1
    replace hR := ifn c1 hR
    refine lv_null hx hb dX10_leaving_20 ?_
    rw [← hQ]
    exact end_a hX hB hA3 rfl (Or.inl rfl) (by obtain ⟨rfl, rfl, rfl, rfl⟩ := pr4 hR; exact (Or.inl ⟨rfl, rfl, rfl⟩)) (Nat.le_of_ble_eq_true rfl) (Nat.le_of_ble_eq_true rfl) dX10_leaving_21
  · rw [neqP (a := R_o) (b := C_o) (by omega) (by omega)] at c1
    replace hR := ifp c1 hR
    refine lv_aload_n hx hb dX10_leaving_11 rfl (lv_at hl 0 rfl) ?_
    refine call_S (n := 1) (As := [.ref g_o]) (rest := []) hX hB (k_X10_determinantOf κ l (w) k_o j_o g_o b_o R_o C_o f_o h_o i_o s_o (by omega)) ⟨by decide, by decide, by decide +kernel⟩ wm_7_76 wm_7_77 wm_1_6 wm_7_78 ⟨Nat.le_of_ble_eq_true rfl, Nat.le_of_ble_eq_true rfl⟩ ⟨Nat.le_of_ble_eq_true rfl, Nat.le_of_ble_eq_true rfl⟩ rfl hl.1 rfl (Nat.le_of_ble_eq_true rfl) dX10_leaving_12 (fun o w' H locs hp hB => ?_)
    obtain ⟨rfl, hw9⟩ := hp
    replace hB : Bd κ A s (w) H locs := by rw [hw9] at hB; exact hB
    refine W.eq (g2 := F0 m 15 ls [.long (mnv f_o C_o R_o (2 ^ R_o - 1) (2 ^ C_o - 1))]) rfl ?_
    refine lv_lconst (v := 0) hx hb dX10_leaving_15 (by decide) ?_
    refine W.lcmp hx hb dX10_leaving_16 ?_
    refine lv_if_ne (tgt := 22) hx hb dX10_leaving_17 (by decide) (fun c2 => ?_) (fun c2 => ?_)
    · replace hR := ifn c2 hR
      refine newO (fs := [.null, .null, .int 0, .int 0]) hX hB (ci := 9) rfl in8 tyX8_ok wm_6_127 wm_6_128 wm_1_15 df9 (Nat.le_of_ble_eq_true rfl) (Nat.le_of_ble_eq_true rfl) dX10_leaving_22 (fun q3 H hB => ?_)
      refine lv_dup hx hb dX10_leaving_25 rfl ?_
      refine lv_aload_n hx hb dX10_leaving_26 rfl (lv_at hl 0 rfl) ?_
      obtain ⟨F8, F9, S10, G11, hd12⟩ := ex4 (D_X8_init R_o C_o f_o)
      replace hR := bnd4_use hd12 hR
      refine call_I (n := 1) (As := [.ref g_o]) (rest := [.ref q3]) hX hB (k_X8_init κ l (w) q3 k_o j_o g_o b_o R_o C_o f_o h_o i_o s_o hng F8 F9 S10 G11 hd12) ⟨by decide, by decide, by decide +kernel⟩ rfl wm_6_129 wm_6_130 wm_1_15 wm_6_131 ⟨Nat.le_of_ble_eq_true rfl, Nat.le_of_ble_eq_true rfl⟩ ⟨Nat.le_of_ble_eq_true rfl, Nat.le_of_ble_eq_true rfl⟩ rfl hl.1 rfl (Nat.le_of_ble_eq_true rfl) dX10_leaving_27 (fun o w' H locs hp hB => ?_)
      obtain ⟨g4, b5, g6, b7, rfl, hf13, hw9⟩ := hp
      replace hB : Bd κ A s (lA κ b5 (R_o * 5) F8 :: gO g4 R_o R_o b5 :: lA κ b7 (R_o * 5) F9 :: gO g6 R_o C_o b7 :: (q3, .inr (9, [.ref g6, .ref g4, .int S10, .int G11])) :: w) H locs := by rw [hw9] at hB; exact hB
      refine W.eq (g2 := F0 m 30 ls [.ref q3]) rfl ?_
      refine lv_astore_n (lv' := [(1, .ref q3), (0, .ref g_o)]) hx hb dX10_leaving_30 rfl hl (by decide) rfl (fun ls hl => ?_)
      refine lv_aload_n hx hb dX10_leaving_31 rfl (lv_at hl 0 rfl) ?_
      refine gf (k0 := 4) hX hB rfl rfl in8 3 (by decide) wm_6_166 rfl rfl dX10_leaving_32 ?_
      refine lv_if_eq (tgt := 42) hx hb dX10_leaving_35 (by decide) (fun c14 => ?_) (fun c14 => ?_)
      · replace hR := ifp c14 hR
        have hG0 := c14
        refine lv_aload_n hx hb dX10_leaving_42 rfl (lv_at hl 0 rfl) ?_
        refine gf (k0 := 4) hX hB rfl rfl in8 0 (by decide) wm_6_160 rfl rfl dX10_leaving_43 ?_
        replace hB : Bd κ A s (lA κ b5 (R_o * 5) F8 :: gO g4 R_o R_o b5 :: lA κ b7 (R_o * 5) F9 :: gO g6 R_o C_o b7 :: w) H locs := Bd_del 4 hB
        replace hB : Bd κ A s (lA κ b5 (R_o * 5) F8 :: lA κ b7 (R_o * 5) F9 :: gO g6 R_o C_o b7 :: w) H locs := Bd_del 1 hB
        replace hB : Bd κ A s (lA κ b7 (R_o * 5) F9 :: gO g6 R_o C_o b7 :: w) H locs := Bd_del 0 hB
        rw [← hQ]
        exact end_a hX hB hA3 rfl (Or.inr ⟨_, rfl⟩) (by obtain ⟨rfl, rfl, rfl, rfl⟩ := pr4 hR; exact (Or.inr ⟨rfl, g6, b7, rfl, ⟨rfl, rfl, by omega, hf13 hG0 (by omega) (dt_ne s_o1 s_o2 (by omega) (by assumption))⟩, rfl⟩)) (Nat.le_of_ble_eq_true rfl) (Nat.le_of_ble_eq_true rfl) dX10_leaving_46
      · replace hR := ifn c14 hR
        refine lv_null hx hb dX10_leaving_38 ?_
        refine lv_goto (tgt := 46) hx hb dX10_leaving_39 (by decide) ?_
        replace hB : Bd κ A s (lA κ b5 (R_o * 5) F8 :: gO g4 R_o R_o b5 :: lA κ b7 (R_o * 5) F9 :: gO g6 R_o C_o b7 :: w) H locs := Bd_del 4 hB
        replace hB : Bd κ A s (lA κ b5 (R_o * 5) F8 :: gO g4 R_o R_o b5 :: lA κ b7 (R_o * 5) F9 :: w) H locs := Bd_del 3 hB
        replace hB : Bd κ A s (lA κ b5 (R_o * 5) F8 :: gO g4 R_o R_o b5 :: w) H locs := Bd_del 2 hB
        replace hB : Bd κ A s (lA κ b5 (R_o * 5) F8 :: w) H locs := Bd_del 1 hB
        replace hB : Bd κ A s (w) H locs := Bd_del 0 hB
        rw [← hQ]
        exact end_a hX hB hA3 rfl (Or.inl rfl) (by obtain ⟨rfl, rfl, rfl, rfl⟩ := pr4 hR; exact (Or.inl ⟨rfl, rfl, rfl⟩)) (Nat.le_of_ble_eq_true rfl) (Nat.le_of_ble_eq_true rfl) dX10_leaving_46
    · replace hR := ifp c2 hR
      refine lv_null hx hb dX10_leaving_20 ?_
      rw [← hQ]
      exact end_a hX hB hA3 rfl (Or.inl rfl) (by obtain ⟨rfl, rfl, rfl, rfl⟩ := pr4 hR; exact (Or.inl ⟨rfl, rfl, rfl⟩)) (Nat.le_of_ble_eq_true rfl) (Nat.le_of_ble_eq_true rfl) dX10_leaving_21
noncomputable def D_X10_isByDivisors_j69 (y3_20 : Nat) (lb31 : Nat → (Nat → Int64) → Int32) (y4_31 : Nat) (fb2_31 : Nat → Int64) (z0_69 : Int64) : Int32 := (lb31 (y4_31 + 1) (vp_updL fb2_31 (y3_20 * 5 + y4_31) z0_69))
theorem D_X10_isByDivisors_j69_s {y3_20 : Nat} {lb31 : Nat → (Nat → Int64) → Int32} {y4_31 : Nat} {fb2_31 : Nat → Int64} {z0_69 : Int64} : D_X10_isByDivisors_j69 y3_20 lb31 y4_31 fb2_31 z0_69 = (lb31 (y4_31 + 1) (vp_updL fb2_31 (y3_20 * 5 + y4_31) z0_69)) := rfl
noncomputable def D_X10_isByDivisors_31 (C_o : Nat) (f_o : Nat → Int64) (f_u : Nat → Int64) (lb20 : Nat → (Nat → Int64) → Int32) (y3_20 : Nat) (nn : Nat) : Nat → (Nat → Int64) → Int32 := @Nat.rec (fun _ => Nat → (Nat → Int64) → Int32) (fun _ _ => default) (fun _ lb31 (y4_31 : Nat) (fb2_31 : Nat → Int64) => (if (C_o + 1) ≤ y4_31 then (lb20 (y3_20 + 1) fb2_31) else (if C_o ≤ y4_31 then (D_X10_isByDivisors_j69 y3_20 lb31 y4_31 fb2_31 (f_u (y3_20 * 5 + 0))) else (D_X10_isByDivisors_j69 y3_20 lb31 y4_31 fb2_31 (f_o (y3_20 * 5 + y4_31)))))) nn
theorem D_X10_isByDivisors_31_s {C_o : Nat} {f_o : Nat → Int64} {f_u : Nat → Int64} {lb20 : Nat → (Nat → Int64) → Int32} {y3_20 : Nat} {nn : Nat} {y4_31 : Nat} {fb2_31 : Nat → Int64} : D_X10_isByDivisors_31 C_o f_o f_u lb20 y3_20 (nn + 1) y4_31 fb2_31 = (if (C_o + 1) ≤ y4_31 then (lb20 (y3_20 + 1) fb2_31) else (if C_o ≤ y4_31 then (D_X10_isByDivisors_j69 y3_20 (D_X10_isByDivisors_31 C_o f_o f_u lb20 y3_20 nn) y4_31 fb2_31 (f_u (y3_20 * 5 + 0))) else (D_X10_isByDivisors_j69 y3_20 (D_X10_isByDivisors_31 C_o f_o f_u lb20 y3_20 nn) y4_31 fb2_31 (f_o (y3_20 * 5 + y4_31))))) := rfl
noncomputable def D_X10_isByDivisors_20 (R_o : Nat) (C_o : Nat) (f_o : Nat → Int64) (f_u : Nat → Int64) (nn : Nat) : Nat → (Nat → Int64) → Int32 := @Nat.rec (fun _ => Nat → (Nat → Int64) → Int32) (fun _ _ => default) (fun _ lb20 (y3_20 : Nat) (fb2_20 : Nat → Int64) => (if R_o ≤ y3_20 then bnd1 (D_X7_rank R_o C_o f_o) (fun (x74 : Int32) => bnd1 (D_X7_rank R_o (C_o + 1) fb2_20) (fun (x76 : Int32) => (if x76 = x74 then bnd1 (D_X7_divisor R_o (C_o + 1) fb2_20 x74) (fun (x79 : Int64) => bnd1 (D_X7_divisor R_o C_o f_o x74) (fun (x81 : Int64) => (if (lg_cmp x79 x81) = 0 then 1 else 0))) else 0))) else (D_X10_isByDivisors_31 C_o f_o f_u lb20 y3_20 ((C_o + 1) + 1 - 0 + 1) 0 fb2_20))) nn
theorem D_X10_isByDivisors_20_s {R_o : Nat} {C_o : Nat} {f_o : Nat → Int64} {f_u : Nat → Int64} {nn : Nat} {y3_20 : Nat} {fb2_20 : Nat → Int64} : D_X10_isByDivisors_20 R_o C_o f_o f_u (nn + 1) y3_20 fb2_20 = (if R_o ≤ y3_20 then bnd1 (D_X7_rank R_o C_o f_o) (fun (x74 : Int32) => bnd1 (D_X7_rank R_o (C_o + 1) fb2_20) (fun (x76 : Int32) => (if x76 = x74 then bnd1 (D_X7_divisor R_o (C_o + 1) fb2_20 x74) (fun (x79 : Int64) => bnd1 (D_X7_divisor R_o C_o f_o x74) (fun (x81 : Int64) => (if (lg_cmp x79 x81) = 0 then 1 else 0))) else 0))) else (D_X10_isByDivisors_31 C_o f_o f_u (D_X10_isByDivisors_20 R_o C_o f_o f_u nn) y3_20 ((C_o + 1) + 1 - 0 + 1) 0 fb2_20)) := rfl
noncomputable def D_X10_isByDivisors (R_o : Nat) (C_o : Nat) (f_o : Nat → Int64) (R_u : Nat) (C_u : Nat) (f_u : Nat → Int64) : Int32 := (D_X10_isByDivisors_20 R_o C_o f_o f_u (R_o + 1 - 0 + 1) 0 (fun _ => 0))
theorem D_X10_isByDivisors_s {R_o : Nat} {C_o : Nat} {f_o : Nat → Int64} {R_u : Nat} {C_u : Nat} {f_u : Nat → Int64} : D_X10_isByDivisors R_o C_o f_o R_u C_u f_u = (D_X10_isByDivisors_20 R_o C_o f_o f_u (R_o + 1 - 0 + 1) 0 (fun _ => 0)) := rfl
set_option maxHeartbeats 4000000 in
set_option maxRecDepth 100000 in
theorem k_X10_isByDivisors (κ : Kt) (l : Launch) (w : va_W) (k_o j_o g_o b_o R_o C_o : Nat) (f_o : Nat → Int64) (k_u j_u g_u b_u R_u C_u : Nat) (f_u : Nat → Int64) (h_o : w[k_o]? = some (gO g_o R_o C_o b_o)) (i_o : w[j_o]? = some (lA κ b_o (R_o * 5) f_o)) (s_o : shp R_o C_o) (h_u : w[k_u]? = some (gO g_u R_u C_u b_u)) (i_u : w[j_u]? = some (lA κ b_u (R_u * 5) f_u)) (s_u : shp R_u C_u) (hC4 : C_o ≤ 4) (hRu : R_o ≤ R_u) (o_x : Int32) (hR : D_X10_isByDivisors R_o C_o f_o R_u C_u f_u = o_x) : CM κ l yX10_isByDivisors cX10_isByDivisors 5 (some .boolean) 132 3037 2 23 [.ref g_o, .ref g_u] (w) (fun o w' => o = some (.int o_x) ∧ (o_x = 0 ∨ o_x = 1) ∧ w' = w) := by
  have z_o := s_o
  obtain ⟨s_o1, s_o2, s_o3, s_o4⟩ := z_o
  have z_u := s_u
  obtain ⟨s_u1, s_u2, s_u3, s_u4⟩ := z_u
  refine CM_begin (plainFor_of_name (by decide)) (Nat.le_of_ble_eq_true rfl) ?_
  intro p e s m args below meth c A Q hX hnm hA3 hQ hB ls hl
  have hx := hX.1.1
  have hb := hX.1.2.1
  have hl : lv_has ls 5 [(0, .ref g_o), (1, .ref g_u)] := hl
  replace hR := (D_X10_isByDivisors_s).symm.trans hR
  refine newO (fs := [.int 0, .int 0, .null]) hX hB (ci := 8) rfl in7 tyX7_ok wm_5_138 wm_5_140 wm_1_7 df8 (Nat.le_of_ble_eq_true rfl) (Nat.le_of_ble_eq_true rfl) dX10_isByDivisors_0 (fun q1 H hB => ?_)
  refine lv_dup hx hb dX10_isByDivisors_3 rfl ?_
  refine lv_aload_n hx hb dX10_isByDivisors_4 rfl (lv_at hl 0 rfl) ?_
  refine gf (k0 := k_o + 1) hX hB h_o rfl in7 0 (by decide) wm_5_148 rfl rfl dX10_isByDivisors_5 ?_
  refine lv_aload_n hx hb dX10_isByDivisors_8 rfl (lv_at hl 0 rfl) ?_
  refine gf (k0 := k_o + 1) hX hB h_o rfl in7 1 (by decide) wm_5_152 rfl rfl dX10_isByDivisors_9 ?_
  refine lv_iconst (v := 1) hx hb dX10_isByDivisors_12 (by decide) ?_
  refine lv_iadd hx hb dX10_isByDivisors_13 ?_
  refine eqi (y := nI (C_o + 1)) (nI_add C_o 1) ?_
  refine call_I (n := 2) (As := [.int (nI R_o), .int (nI (C_o + 1))]) (rest := [.ref q1]) hX hB (k_X7_init κ l (w) q1 (nI R_o) R_o (nI (C_o + 1)) (C_o + 1) rfl rfl (by omega)) ⟨by decide, by decide, by decide +kernel⟩ rfl wm_5_141 wm_5_142 wm_1_7 wm_5_143 ⟨Nat.le_of_ble_eq_true rfl, Nat.le_of_ble_eq_true rfl⟩ ⟨Nat.le_of_ble_eq_true rfl, Nat.le_of_ble_eq_true rfl⟩ rfl hl.1 rfl (Nat.le_of_ble_eq_true rfl) dX10_isByDivisors_14 (fun o w' H locs hp hB => ?_)
  obtain ⟨b2, rfl, hw9⟩ := hp
  replace hB : Bd κ A s (lA κ b2 (R_o * 5) (fun _ => 0) :: gO q1 R_o (C_o + 1) b2 :: w) H locs := by rw [hw9] at hB; exact hB
  refine W.eq (g2 := F0 m 17 ls [.ref q1]) rfl ?_
  refine lv_astore_n (lv' := [(2, .ref q1), (0, .ref g_o), (1, .ref g_u)]) hx hb dX10_isByDivisors_17 rfl hl (by decide) rfl (fun ls hl => ?_)
  refine lv_iconst (v := 0) hx hb dX10_isByDivisors_18 (by decide) ?_
  refine lv_istore_n (lv' := [(3, .int 0), (2, .ref q1), (0, .ref g_o), (1, .ref g_u)]) hx hb dX10_isByDivisors_19 rfl hl (by decide) rfl (fun ls hl => ?_)
  have lp20 : ∀ (nn20 : Nat) (y3_20 : Nat) (fb2_20 : Nat → Int64) (H : Heap) (locs : List Loc), (y3_20 ≤ R_o) → R_o + 1 - y3_20 < nn20 → D_X10_isByDivisors_20 R_o C_o f_o f_u nn20 y3_20 fb2_20 = o_x → Bd κ A s (lA κ b2 (R_o * 5) fb2_20 :: gO q1 R_o (C_o + 1) b2 :: w) H locs → ∀ ls : Array Slot, lv_has ls 5 [(3, .int (nI y3_20)), (2, .ref q1), (0, .ref g_o), (1, .ref g_u)] → W p l e (Rm 132 3037 2 23) s m args below meth c H locs (2) (23) Q (F0 m 20 ls []) := by
    intro nn20
    induction nn20 with
    | zero => intro y3_20 fb2_20 H locs hn3_20 hμ; exact absurd hμ (Nat.not_lt_zero _)
    | succ nn20 ih20 =>
      intro y3_20 fb2_20 H locs hn3_20 hμ20 hR hB ls hl
      replace hR := (D_X10_isByDivisors_20_s).symm.trans hR
      refine lv_iload_n hx hb dX10_isByDivisors_20 rfl (lv_at hl 0 rfl) ?_
      refine lv_aload_n hx hb dX10_isByDivisors_21 rfl (lv_at hl 2 rfl) ?_
      refine gf (k0 := k_o + 2) hX hB h_o rfl in7 0 (by decide) wm_5_148 rfl rfl dX10_isByDivisors_22 ?_
      refine lv_icmp_ge (tgt := 84) hx hb dX10_isByDivisors_25 (by decide) (fun c73 => ?_) (fun c73 => ?_)
      · rw [nleP (a := R_o) (b := y3_20) (by omega) (by omega)] at c73
        replace hR := ifp c73 hR
        refine lv_aload_n hx hb dX10_isByDivisors_84 rfl (lv_at hl 2 rfl) ?_
        obtain ⟨x74, hd75⟩ := ex1 (D_X7_rank R_o C_o f_o)
        replace hR := bnd1_use hd75 hR
        refine call_V (n := 0) (k0 := (k_o + 2)) (As := []) (rest := []) hX hB (k_X7_rank κ l (lA κ b2 (R_o * 5) fb2_20 :: gO q1 R_o (C_o + 1) b2 :: w) (k_o + 2) (j_o + 2) g_o b_o R_o C_o f_o h_o i_o s_o x74 hd75) ⟨rfl, by decide, by decide, by decide +kernel⟩ wm_7_115 wm_7_116 wm_7_117 wm_1_7 wm_7_118 ⟨Nat.le_of_ble_eq_true rfl, Nat.le_of_ble_eq_true rfl⟩ ⟨Nat.le_of_ble_eq_true rfl, Nat.le_of_ble_eq_true rfl⟩ h_o rfl rfl rfl hl.1 rfl (Nat.le_of_ble_eq_true rfl) dX10_isByDivisors_85 (fun o w' H locs hp hB => ?_)
        obtain ⟨rfl, hw9⟩ := hp
        replace hB : Bd κ A s (lA κ b2 (R_o * 5) fb2_20 :: gO q1 R_o (C_o + 1) b2 :: w) H locs := by rw [hw9] at hB; exact hB
        refine W.eq (g2 := F0 m 88 ls [.int x74]) rfl ?_
        refine lv_istore_n (lv' := [(3, .int x74), (2, .ref q1), (0, .ref g_o), (1, .ref g_u)]) hx hb dX10_isByDivisors_88 rfl hl (by decide) rfl (fun ls hl => ?_)
        refine lv_aload_n hx hb dX10_isByDivisors_89 rfl (lv_at hl 1 rfl) ?_
        obtain ⟨x76, hd77⟩ := ex1 (D_X7_rank R_o (C_o + 1) fb2_20)
        replace hR := bnd1_use hd77 hR
        refine call_V (n := 0) (k0 := 1) (As := []) (rest := []) hX hB (k_X7_rank κ l (lA κ b2 (R_o * 5) fb2_20 :: gO q1 R_o (C_o + 1) b2 :: w) 1 0 q1 b2 R_o (C_o + 1) fb2_20 rfl rfl ⟨by omega, by omega, by omega, by omega⟩ x76 hd77) ⟨rfl, by decide, by decide, by decide +kernel⟩ wm_7_115 wm_7_116 wm_7_117 wm_1_7 wm_7_118 ⟨Nat.le_of_ble_eq_true rfl, Nat.le_of_ble_eq_true rfl⟩ ⟨Nat.le_of_ble_eq_true rfl, Nat.le_of_ble_eq_true rfl⟩ rfl rfl rfl rfl hl.1 rfl (Nat.le_of_ble_eq_true rfl) dX10_isByDivisors_90 (fun o w' H locs hp hB => ?_)
        obtain ⟨rfl, hw9⟩ := hp
        replace hB : Bd κ A s (lA κ b2 (R_o * 5) fb2_20 :: gO q1 R_o (C_o + 1) b2 :: w) H locs := by rw [hw9] at hB; exact hB
        refine W.eq (g2 := F0 m 93 ls [.int x76]) rfl ?_
        refine lv_iload_n hx hb dX10_isByDivisors_93 rfl (lv_at hl 0 rfl) ?_
        refine lv_icmp_ne (tgt := 115) hx hb dX10_isByDivisors_94 (by decide) (fun c78 => ?_) (fun c78 => ?_)
        · replace hR := ifn c78 hR
          refine lv_iconst (v := 0) hx hb dX10_isByDivisors_115 (by decide) ?_
          replace hB : Bd κ A s (lA κ b2 (R_o * 5) fb2_20 :: w) H locs := Bd_del 1 hB
          replace hB : Bd κ A s (w) H locs := Bd_del 0 hB
          rw [← hQ]
          exact end_i hX hB hA3 rfl rfl (by obtain rfl := hR; exact ⟨rfl, (Or.inl rfl), rfl⟩) (Nat.le_of_ble_eq_true rfl) (Nat.le_of_ble_eq_true rfl) dX10_isByDivisors_116
        · replace hR := ifp c78 hR
          refine lv_aload_n hx hb dX10_isByDivisors_97 rfl (lv_at hl 1 rfl) ?_
          refine lv_iload_n hx hb dX10_isByDivisors_98 rfl (lv_at hl 0 rfl) ?_
          obtain ⟨x79, hd80⟩ := ex1 (D_X7_divisor R_o (C_o + 1) fb2_20 x74)
          replace hR := bnd1_use hd80 hR
          refine call_V (n := 1) (k0 := 1) (As := [.int x74]) (rest := []) hX hB (k_X7_divisor κ l (lA κ b2 (R_o * 5) fb2_20 :: gO q1 R_o (C_o + 1) b2 :: w) 1 0 q1 b2 R_o (C_o + 1) fb2_20 x74 rfl rfl ⟨by omega, by omega, by omega, by omega⟩ x79 hd80) ⟨rfl, by decide, by decide, by decide +kernel⟩ wm_7_101 wm_7_102 wm_7_103 wm_1_7 wm_7_104 ⟨Nat.le_of_ble_eq_true rfl, Nat.le_of_ble_eq_true rfl⟩ ⟨Nat.le_of_ble_eq_true rfl, Nat.le_of_ble_eq_true rfl⟩ rfl rfl rfl rfl hl.1 rfl (Nat.le_of_ble_eq_true rfl) dX10_isByDivisors_99 (fun o w' H locs hp hB => ?_)
          obtain ⟨rfl, hw9⟩ := hp
          replace hB : Bd κ A s (lA κ b2 (R_o * 5) fb2_20 :: gO q1 R_o (C_o + 1) b2 :: w) H locs := by rw [hw9] at hB; exact hB
          refine W.eq (g2 := F0 m 102 ls [.long x79]) rfl ?_
          refine lv_aload_n hx hb dX10_isByDivisors_102 rfl (lv_at hl 2 rfl) ?_
          refine lv_iload_n hx hb dX10_isByDivisors_103 rfl (lv_at hl 0 rfl) ?_
          obtain ⟨x81, hd82⟩ := ex1 (D_X7_divisor R_o C_o f_o x74)
          replace hR := bnd1_use hd82 hR
          refine call_V (n := 1) (k0 := (k_o + 2)) (As := [.int x74]) (rest := [.long x79]) hX hB (k_X7_divisor κ l (lA κ b2 (R_o * 5) fb2_20 :: gO q1 R_o (C_o + 1) b2 :: w) (k_o + 2) (j_o + 2) g_o b_o R_o C_o f_o x74 h_o i_o s_o x81 hd82) ⟨rfl, by decide, by decide, by decide +kernel⟩ wm_7_101 wm_7_102 wm_7_103 wm_1_7 wm_7_104 ⟨Nat.le_of_ble_eq_true rfl, Nat.le_of_ble_eq_true rfl⟩ ⟨Nat.le_of_ble_eq_true rfl, Nat.le_of_ble_eq_true rfl⟩ h_o rfl rfl rfl hl.1 rfl (Nat.le_of_ble_eq_true rfl) dX10_isByDivisors_104 (fun o w' H locs hp hB => ?_)
          obtain ⟨rfl, hw9⟩ := hp
          replace hB : Bd κ A s (lA κ b2 (R_o * 5) fb2_20 :: gO q1 R_o (C_o + 1) b2 :: w) H locs := by rw [hw9] at hB; exact hB
          refine W.eq (g2 := F0 m 107 ls [.long x81, .long x79]) rfl ?_
          refine W.lcmp hx hb dX10_isByDivisors_107 ?_
          refine lv_if_ne (tgt := 115) hx hb dX10_isByDivisors_108 (by decide) (fun c83 => ?_) (fun c83 => ?_)
          · replace hR := ifn c83 hR
            refine lv_iconst (v := 0) hx hb dX10_isByDivisors_115 (by decide) ?_
            replace hB : Bd κ A s (lA κ b2 (R_o * 5) fb2_20 :: w) H locs := Bd_del 1 hB
            replace hB : Bd κ A s (w) H locs := Bd_del 0 hB
            rw [← hQ]
            exact end_i hX hB hA3 rfl rfl (by obtain rfl := hR; exact ⟨rfl, (Or.inl rfl), rfl⟩) (Nat.le_of_ble_eq_true rfl) (Nat.le_of_ble_eq_true rfl) dX10_isByDivisors_116
          · replace hR := ifp c83 hR
            refine lv_iconst (v := 1) hx hb dX10_isByDivisors_111 (by decide) ?_
            refine lv_goto (tgt := 116) hx hb dX10_isByDivisors_112 (by decide) ?_
            replace hB : Bd κ A s (lA κ b2 (R_o * 5) fb2_20 :: w) H locs := Bd_del 1 hB
            replace hB : Bd κ A s (w) H locs := Bd_del 0 hB
            rw [← hQ]
            exact end_i hX hB hA3 rfl rfl (by obtain rfl := hR; exact ⟨rfl, (Or.inr rfl), rfl⟩) (Nat.le_of_ble_eq_true rfl) (Nat.le_of_ble_eq_true rfl) dX10_isByDivisors_116
      · rw [nleP (a := R_o) (b := y3_20) (by omega) (by omega)] at c73
        replace hR := ifn c73 hR
        refine lv_iconst (v := 0) hx hb dX10_isByDivisors_28 (by decide) ?_
        refine lv_istore (lv' := [(4, .int 0), (3, .int (nI y3_20)), (2, .ref q1), (0, .ref g_o), (1, .ref g_u)]) hx hb dX10_isByDivisors_29 hl (by decide) rfl (fun ls hl => ?_)
        have lp31 : ∀ (nn31 : Nat) (y4_31 : Nat) (fb2_31 : Nat → Int64) (H : Heap) (locs : List Loc), (y4_31 ≤ (C_o + 1)) → (C_o + 1) + 1 - y4_31 < nn31 → D_X10_isByDivisors_31 C_o f_o f_u (D_X10_isByDivisors_20 R_o C_o f_o f_u nn20) y3_20 nn31 y4_31 fb2_31 = o_x → Bd κ A s (lA κ b2 (R_o * 5) fb2_31 :: gO q1 R_o (C_o + 1) b2 :: w) H locs → ∀ ls : Array Slot, lv_has ls 5 [(4, .int (nI y4_31)), (3, .int (nI y3_20)), (2, .ref q1), (0, .ref g_o), (1, .ref g_u)] → W p l e (Rm 132 3037 2 23) s m args below meth c H locs (2) (23) Q (F0 m 31 ls []) := by
          intro nn31
          induction nn31 with
          | zero => intro y4_31 fb2_31 H locs hn4_31 hμ; exact absurd hμ (Nat.not_lt_zero _)
          | succ nn31 ih31 =>
            intro y4_31 fb2_31 H locs hn4_31 hμ31 hR hB ls hl
            replace hR := (D_X10_isByDivisors_31_s).symm.trans hR
            refine lv_iload hx hb dX10_isByDivisors_31 (lv_at hl 0 rfl) ?_
            refine lv_aload_n hx hb dX10_isByDivisors_33 rfl (lv_at hl 2 rfl) ?_
            refine gf (k0 := 1) hX hB rfl rfl in7 1 (by decide) wm_5_152 rfl rfl dX10_isByDivisors_34 ?_
            refine lv_icmp_ge (tgt := 78) hx hb dX10_isByDivisors_37 (by decide) (fun c90 => ?_) (fun c90 => ?_)
            · rw [nleP (a := C_o + 1) (b := y4_31) (by omega) (by omega)] at c90
              replace hR := ifp c90 hR
              refine lv_iinc (v := nI (y3_20 + 1)) (lv' := [(3, .int (nI (y3_20 + 1))), (4, .int (nI y4_31)), (2, .ref q1), (0, .ref g_o), (1, .ref g_u)]) hx hb dX10_isByDivisors_78 hl (k := 1) rfl (nI_add y3_20 1) (by decide) rfl (fun ls hl => ?_)
              refine lv_goto (tgt := 20) hx hb dX10_isByDivisors_81 (by decide) ?_
              exact ih20 (y3_20 + 1) fb2_31 _ _ (by omega) (by omega) hR hB _ (lv_sub hl [0, 2, 3, 4] rfl)
            · rw [nleP (a := C_o + 1) (b := y4_31) (by omega) (by omega)] at c90
              replace hR := ifn c90 hR
              refine lv_aload_n hx hb dX10_isByDivisors_40 rfl (lv_at hl 2 rfl) ?_
              refine lv_iload_n hx hb dX10_isByDivisors_41 rfl (lv_at hl 1 rfl) ?_
              refine lv_iload hx hb dX10_isByDivisors_42 (lv_at hl 0 rfl) ?_
              refine lv_iload hx hb dX10_isByDivisors_44 (lv_at hl 0 rfl) ?_
              refine lv_aload_n hx hb dX10_isByDivisors_46 rfl (lv_at hl 3 rfl) ?_
              refine gf (k0 := k_o + 2) hX hB h_o rfl in7 1 (by decide) wm_5_152 rfl rfl dX10_isByDivisors_47 ?_
              have jn69 : ∀ (z0_69 : Int64) (H : Heap) (locs : List Loc), D_X10_isByDivisors_j69 y3_20 (D_X10_isByDivisors_31 C_o f_o f_u (D_X10_isByDivisors_20 R_o C_o f_o f_u nn20) y3_20 nn31) y4_31 fb2_31 z0_69 = o_x → Bd κ A s (lA κ b2 (R_o * 5) fb2_31 :: gO q1 R_o (C_o + 1) b2 :: w) H locs → ∀ ls : Array Slot, lv_has ls 5 [(4, .int (nI y4_31)), (3, .int (nI y3_20)), (2, .ref q1), (0, .ref g_o), (1, .ref g_u)] → W p l e (Rm 132 3037 2 23) s m args below meth c H locs (2) (23) Q (F0 m 69 ls [.long z0_69, .int (nI y4_31), .int (nI y3_20), .ref q1]) := by
                intro z0_69 H locs hR hB ls hl
                replace hR := (D_X10_isByDivisors_j69_s).symm.trans hR
                refine call_V (n := 3) (k0 := 1) (As := [.int (nI y3_20), .int (nI y4_31), .long z0_69]) (rest := []) hX hB (k_X7_put κ l (lA κ b2 (R_o * 5) fb2_31 :: gO q1 R_o (C_o + 1) b2 :: w) 1 0 q1 b2 R_o (C_o + 1) fb2_31 (nI y3_20) y3_20 (nI y4_31) y4_31 z0_69 rfl rfl ⟨by omega, by omega, by omega, by omega⟩ rfl rfl (by omega)) ⟨rfl, by decide, by decide, by decide +kernel⟩ wm_6_1 wm_5_222 wm_5_223 wm_1_7 wm_5_224 ⟨Nat.le_of_ble_eq_true rfl, Nat.le_of_ble_eq_true rfl⟩ ⟨Nat.le_of_ble_eq_true rfl, Nat.le_of_ble_eq_true rfl⟩ rfl rfl rfl rfl hl.1 rfl (Nat.le_of_ble_eq_true rfl) dX10_isByDivisors_69 (fun o w' H locs hp hB => ?_)
                obtain ⟨rfl, hw9⟩ := hp
                replace hB : Bd κ A s (lA κ b2 (R_o * 5) (vp_updL fb2_31 (y3_20 * 5 + y4_31) z0_69) :: gO q1 R_o (C_o + 1) b2 :: w) H locs := by rw [hw9] at hB; exact hB
                refine W.eq (g2 := F0 m 72 ls []) rfl ?_
                refine lv_iinc (v := nI (y4_31 + 1)) (lv' := [(4, .int (nI (y4_31 + 1))), (3, .int (nI y3_20)), (2, .ref q1), (0, .ref g_o), (1, .ref g_u)]) hx hb dX10_isByDivisors_72 hl (k := 0) rfl (nI_add y4_31 1) (by decide) rfl (fun ls hl => ?_)
                refine lv_goto (tgt := 31) hx hb dX10_isByDivisors_75 (by decide) ?_
                exact ih31 (y4_31 + 1) (vp_updL fb2_31 (y3_20 * 5 + y4_31) z0_69) _ _ (by omega) (by omega) hR hB _ hl
              refine lv_icmp_ge (tgt := 63) hx hb dX10_isByDivisors_50 (by decide) (fun c92 => ?_) (fun c92 => ?_)
              · rw [nleP (a := C_o) (b := y4_31) (by omega) (by omega)] at c92
                replace hR := ifp c92 hR
                refine lv_aload_n hx hb dX10_isByDivisors_63 rfl (lv_at hl 4 rfl) ?_
                refine lv_iload_n hx hb dX10_isByDivisors_64 rfl (lv_at hl 1 rfl) ?_
                refine lv_iconst (v := 0) hx hb dX10_isByDivisors_65 (by decide) ?_
                refine call_V (n := 2) (k0 := (k_u + 2)) (As := [.int (nI y3_20), .int 0]) (rest := [.int (nI y4_31), .int (nI y3_20), .ref q1]) hX hB (k_X7_at κ l (lA κ b2 (R_o * 5) fb2_31 :: gO q1 R_o (C_o + 1) b2 :: w) (k_u + 2) (j_u + 2) g_u b_u R_u C_u f_u (nI y3_20) y3_20 0 0 h_u i_u s_u rfl rfl (by omega)) ⟨rfl, by decide, by decide, by decide +kernel⟩ wm_5_237 wm_5_238 wm_5_239 wm_1_7 wm_6_0 ⟨Nat.le_of_ble_eq_true rfl, Nat.le_of_ble_eq_true rfl⟩ ⟨Nat.le_of_ble_eq_true rfl, Nat.le_of_ble_eq_true rfl⟩ h_u rfl rfl rfl hl.1 rfl (Nat.le_of_ble_eq_true rfl) dX10_isByDivisors_66 (fun o w' H locs hp hB => ?_)
                obtain ⟨rfl, hw9⟩ := hp
                replace hB : Bd κ A s (lA κ b2 (R_o * 5) fb2_31 :: gO q1 R_o (C_o + 1) b2 :: w) H locs := by rw [hw9] at hB; exact hB
                refine W.eq (g2 := F0 m 69 ls [.long (f_u (y3_20 * 5 + 0)), .int (nI y4_31), .int (nI y3_20), .ref q1]) rfl ?_
                exact jn69 (f_u (y3_20 * 5 + 0)) _ _  hR hB _ hl
              · rw [nleP (a := C_o) (b := y4_31) (by omega) (by omega)] at c92
                replace hR := ifn c92 hR
                refine lv_aload_n hx hb dX10_isByDivisors_53 rfl (lv_at hl 3 rfl) ?_
                refine lv_iload_n hx hb dX10_isByDivisors_54 rfl (lv_at hl 1 rfl) ?_
                refine lv_iload hx hb dX10_isByDivisors_55 (lv_at hl 0 rfl) ?_
                refine call_V (n := 2) (k0 := (k_o + 2)) (As := [.int (nI y3_20), .int (nI y4_31)]) (rest := [.int (nI y4_31), .int (nI y3_20), .ref q1]) hX hB (k_X7_at κ l (lA κ b2 (R_o * 5) fb2_31 :: gO q1 R_o (C_o + 1) b2 :: w) (k_o + 2) (j_o + 2) g_o b_o R_o C_o f_o (nI y3_20) y3_20 (nI y4_31) y4_31 h_o i_o s_o rfl rfl (by omega)) ⟨rfl, by decide, by decide, by decide +kernel⟩ wm_5_237 wm_5_238 wm_5_239 wm_1_7 wm_6_0 ⟨Nat.le_of_ble_eq_true rfl, Nat.le_of_ble_eq_true rfl⟩ ⟨Nat.le_of_ble_eq_true rfl, Nat.le_of_ble_eq_true rfl⟩ h_o rfl rfl rfl hl.1 rfl (Nat.le_of_ble_eq_true rfl) dX10_isByDivisors_57 (fun o w' H locs hp hB => ?_)
                obtain ⟨rfl, hw9⟩ := hp
                replace hB : Bd κ A s (lA κ b2 (R_o * 5) fb2_31 :: gO q1 R_o (C_o + 1) b2 :: w) H locs := by rw [hw9] at hB; exact hB
                refine W.eq (g2 := F0 m 60 ls [.long (f_o (y3_20 * 5 + y4_31)), .int (nI y4_31), .int (nI y3_20), .ref q1]) rfl ?_
                refine lv_goto (tgt := 69) hx hb dX10_isByDivisors_60 (by decide) ?_
                exact jn69 (f_o (y3_20 * 5 + y4_31)) _ _  hR hB _ hl
        exact lp31 _ 0 fb2_20 _ _ (by omega) (Nat.lt_succ_self _) hR hB _ hl
  exact lp20 _ 0 (fun _ => 0) _ _ (by omega) (Nat.lt_succ_self _) hR hB _ hl
noncomputable def D_X10_goes_2 (f_w : Nat → Int64) (K_t : Nat) (R_u : Nat) (f_u : Nat → Int64) (nn : Nat) : Nat → Int32 := @Nat.rec (fun _ => Nat → Int32) (fun _ => default) (fun _ lb2 (y2_2 : Nat) => (if R_u ≤ y2_2 then 1 else (if K_t ≤ y2_2 then (if (lg_cmp (f_u (y2_2 * 5 + 0)) 0) = 0 then (lb2 (y2_2 + 1)) else 0) else (if (lg_cmp ((f_u (y2_2 * 5 + 0)) - (f_u (y2_2 * 5 + 0)) / (f_w (y2_2 * 5 + y2_2)) * (f_w (y2_2 * 5 + y2_2))) 0) = 0 then (lb2 (y2_2 + 1)) else 0)))) nn
theorem D_X10_goes_2_s {f_w : Nat → Int64} {K_t : Nat} {R_u : Nat} {f_u : Nat → Int64} {nn : Nat} {y2_2 : Nat} : D_X10_goes_2 f_w K_t R_u f_u (nn + 1) y2_2 = (if R_u ≤ y2_2 then 1 else (if K_t ≤ y2_2 then (if (lg_cmp (f_u (y2_2 * 5 + 0)) 0) = 0 then ((D_X10_goes_2 f_w K_t R_u f_u nn) (y2_2 + 1)) else 0) else (if (lg_cmp ((f_u (y2_2 * 5 + 0)) - (f_u (y2_2 * 5 + 0)) / (f_w (y2_2 * 5 + y2_2)) * (f_w (y2_2 * 5 + y2_2))) 0) = 0 then ((D_X10_goes_2 f_w K_t R_u f_u nn) (y2_2 + 1)) else 0))) := rfl
noncomputable def D_X10_goes (R_w : Nat) (C_w : Nat) (f_w : Nat → Int64) (K_t : Nat) (p_t : Int32) (q_t : Int32) (r_t : Int32) (R_u : Nat) (C_u : Nat) (f_u : Nat → Int64) : Int32 := (D_X10_goes_2 f_w K_t R_u f_u (R_u + 1 - 0 + 1) 0)
theorem D_X10_goes_s {R_w : Nat} {C_w : Nat} {f_w : Nat → Int64} {K_t : Nat} {p_t : Int32} {q_t : Int32} {r_t : Int32} {R_u : Nat} {C_u : Nat} {f_u : Nat → Int64} : D_X10_goes R_w C_w f_w K_t p_t q_t r_t R_u C_u f_u = (D_X10_goes_2 f_w K_t R_u f_u (R_u + 1 - 0 + 1) 0) := rfl
set_option maxHeartbeats 4000000 in
set_option maxRecDepth 100000 in
theorem k_X10_goes (κ : Kt) (l : Launch) (w : va_W) (k_w j_w g_w b_w R_w C_w : Nat) (f_w : Nat → Int64) (k_t a_t l_t m_t K_t : Nat) (p_t q_t r_t : Int32) (k_u j_u g_u b_u R_u C_u : Nat) (f_u : Nat → Int64) (h_w : w[k_w]? = some (gO g_w R_w C_w b_w)) (i_w : w[j_w]? = some (lA κ b_w (R_w * 5) f_w)) (s_w : shp R_w C_w) (h_t : w[k_t]? = some (a_t, .inr (10, [.ref g_w, .ref l_t, .ref m_t, .int p_t, .int q_t, .int (nI K_t), .int r_t]))) (h_u : w[k_u]? = some (gO g_u R_u C_u b_u)) (i_u : w[j_u]? = some (lA κ b_u (R_u * 5) f_u)) (s_u : shp R_u C_u) (hK : K_t ≤ R_w ∧ K_t ≤ C_w ∧ ∀ j, j < K_t → ¬ f_w (j * 5 + j) = 0) (o_x : Int32) (hR : D_X10_goes R_w C_w f_w K_t p_t q_t r_t R_u C_u f_u = o_x) : CM κ l yX10_goes cX10_goes 3 (some .boolean) 1 22 0 0 [.ref a_t, .ref g_u] (w) (fun o w' => o = some (.int o_x) ∧ (o_x = 0 ∨ o_x = 1) ∧ w' = w) := by
  have z_w := s_w
  obtain ⟨s_w1, s_w2, s_w3, s_w4⟩ := z_w
  have z_u := s_u
  obtain ⟨s_u1, s_u2, s_u3, s_u4⟩ := z_u
  refine CM_begin (plainFor_of_name (by decide)) (Nat.le_of_ble_eq_true rfl) ?_
  intro p e s m args below meth c A Q hX hnm hA3 hQ hB ls hl
  have hx := hX.1.1
  have hb := hX.1.2.1
  have hl : lv_has ls 3 [(0, .ref a_t), (1, .ref g_u)] := hl
  obtain ⟨hK1, hK2, hK3⟩ := hK
  replace hR := (D_X10_goes_s).symm.trans hR
  refine lv_iconst (v := 0) hx hb dX10_goes_0 (by decide) ?_
  refine lv_istore_n (lv' := [(2, .int 0), (0, .ref a_t), (1, .ref g_u)]) hx hb dX10_goes_1 rfl hl (by decide) rfl (fun ls hl => ?_)
  have lp2 : ∀ (nn2 : Nat) (y2_2 : Nat) (H : Heap) (locs : List Loc), (y2_2 ≤ R_u) → R_u + 1 - y2_2 < nn2 → D_X10_goes_2 f_w K_t R_u f_u nn2 y2_2 = o_x → Bd κ A s (w) H locs → ∀ ls : Array Slot, lv_has ls 3 [(2, .int (nI y2_2)), (0, .ref a_t), (1, .ref g_u)] → W p l e (Rm 1 22 0 0) s m args below meth c H locs (0) (0) Q (F0 m 2 ls []) := by
    intro nn2
    induction nn2 with
    | zero => intro y2_2 H locs hn2_2 hμ; exact absurd hμ (Nat.not_lt_zero _)
    | succ nn2 ih2 =>
      intro y2_2 H locs hn2_2 hμ2 hR hB ls hl
      replace hR := (D_X10_goes_2_s).symm.trans hR
      refine lv_iload_n hx hb dX10_goes_2 rfl (lv_at hl 0 rfl) ?_
      refine lv_aload_n hx hb dX10_goes_3 rfl (lv_at hl 2 rfl) ?_
      refine gf (k0 := k_u) hX hB h_u rfl in7 0 (by decide) wm_5_148 rfl rfl dX10_goes_4 ?_
      refine lv_icmp_ge (tgt := 61) hx hb dX10_goes_7 (by decide) (fun c9 => ?_) (fun c9 => ?_)
      · rw [nleP (a := R_u) (b := y2_2) (by omega) (by omega)] at c9
        replace hR := ifp c9 hR
        refine lv_iconst (v := 1) hx hb dX10_goes_61 (by decide) ?_
        rw [← hQ]
        exact end_i hX hB hA3 rfl rfl (by obtain rfl := hR; exact ⟨rfl, (Or.inr rfl), rfl⟩) (Nat.le_of_ble_eq_true rfl) (Nat.le_of_ble_eq_true rfl) dX10_goes_62
      · rw [nleP (a := R_u) (b := y2_2) (by omega) (by omega)] at c9
        replace hR := ifn c9 hR
        refine lv_iload_n hx hb dX10_goes_10 rfl (lv_at hl 0 rfl) ?_
        refine lv_aload_n hx hb dX10_goes_11 rfl (lv_at hl 1 rfl) ?_
        refine gf (k0 := k_t) hX hB h_t rfl in9 5 (by decide) wm_6_232 rfl rfl dX10_goes_12 ?_
        refine lv_icmp_ge (tgt := 42) hx hb dX10_goes_15 (by decide) (fun c10 => ?_) (fun c10 => ?_)
        · rw [nleP (a := K_t) (b := y2_2) (by omega) (by omega)] at c10
          replace hR := ifp c10 hR
          refine lv_aload_n hx hb dX10_goes_42 rfl (lv_at hl 2 rfl) ?_
          refine lv_iload_n hx hb dX10_goes_43 rfl (lv_at hl 0 rfl) ?_
          refine lv_iconst (v := 0) hx hb dX10_goes_44 (by decide) ?_
          refine call_V (n := 2) (k0 := k_u) (As := [.int (nI y2_2), .int 0]) (rest := []) hX hB (k_X7_at κ l (w) k_u j_u g_u b_u R_u C_u f_u (nI y2_2) y2_2 0 0 h_u i_u s_u rfl rfl (by omega)) ⟨rfl, by decide, by decide, by decide +kernel⟩ wm_5_237 wm_5_238 wm_5_239 wm_1_7 wm_6_0 ⟨Nat.le_of_ble_eq_true rfl, Nat.le_of_ble_eq_true rfl⟩ ⟨Nat.le_of_ble_eq_true rfl, Nat.le_of_ble_eq_true rfl⟩ h_u rfl rfl rfl hl.1 rfl (Nat.le_of_ble_eq_true rfl) dX10_goes_45 (fun o w' H locs hp hB => ?_)
          obtain ⟨rfl, hw9⟩ := hp
          replace hB : Bd κ A s (w) H locs := by rw [hw9] at hB; exact hB
          refine W.eq (g2 := F0 m 48 ls [.long (f_u (y2_2 * 5 + 0))]) rfl ?_
          refine lv_lconst (v := 0) hx hb dX10_goes_48 (by decide) ?_
          refine W.lcmp hx hb dX10_goes_49 ?_
          refine lv_if_eq (tgt := 55) hx hb dX10_goes_50 (by decide) (fun c11 => ?_) (fun c11 => ?_)
          · replace hR := ifp c11 hR
            refine lv_iinc (v := nI (y2_2 + 1)) (lv' := [(2, .int (nI (y2_2 + 1))), (0, .ref a_t), (1, .ref g_u)]) hx hb dX10_goes_55 hl (k := 0) rfl (nI_add y2_2 1) (by decide) rfl (fun ls hl => ?_)
            refine lv_goto (tgt := 2) hx hb dX10_goes_58 (by decide) ?_
            exact ih2 (y2_2 + 1) _ _ (by omega) (by omega) hR hB _ hl
          · replace hR := ifn c11 hR
            refine lv_iconst (v := 0) hx hb dX10_goes_53 (by decide) ?_
            rw [← hQ]
            exact end_i hX hB hA3 rfl rfl (by obtain rfl := hR; exact ⟨rfl, (Or.inl rfl), rfl⟩) (Nat.le_of_ble_eq_true rfl) (Nat.le_of_ble_eq_true rfl) dX10_goes_54
        · rw [nleP (a := K_t) (b := y2_2) (by omega) (by omega)] at c10
          replace hR := ifn c10 hR
          refine lv_aload_n hx hb dX10_goes_18 rfl (lv_at hl 2 rfl) ?_
          refine lv_iload_n hx hb dX10_goes_19 rfl (lv_at hl 0 rfl) ?_
          refine lv_iconst (v := 0) hx hb dX10_goes_20 (by decide) ?_
          refine call_V (n := 2) (k0 := k_u) (As := [.int (nI y2_2), .int 0]) (rest := []) hX hB (k_X7_at κ l (w) k_u j_u g_u b_u R_u C_u f_u (nI y2_2) y2_2 0 0 h_u i_u s_u rfl rfl (by omega)) ⟨rfl, by decide, by decide, by decide +kernel⟩ wm_5_237 wm_5_238 wm_5_239 wm_1_7 wm_6_0 ⟨Nat.le_of_ble_eq_true rfl, Nat.le_of_ble_eq_true rfl⟩ ⟨Nat.le_of_ble_eq_true rfl, Nat.le_of_ble_eq_true rfl⟩ h_u rfl rfl rfl hl.1 rfl (Nat.le_of_ble_eq_true rfl) dX10_goes_21 (fun o w' H locs hp hB => ?_)
          obtain ⟨rfl, hw9⟩ := hp
          replace hB : Bd κ A s (w) H locs := by rw [hw9] at hB; exact hB
          refine W.eq (g2 := F0 m 24 ls [.long (f_u (y2_2 * 5 + 0))]) rfl ?_
          refine lv_aload_n hx hb dX10_goes_24 rfl (lv_at hl 1 rfl) ?_
          refine gf (k0 := k_t) hX hB h_t rfl in9 0 (by decide) wm_6_222 rfl rfl dX10_goes_25 ?_
          refine lv_iload_n hx hb dX10_goes_28 rfl (lv_at hl 0 rfl) ?_
          refine lv_iload_n hx hb dX10_goes_29 rfl (lv_at hl 0 rfl) ?_
          refine call_V (n := 2) (k0 := k_w) (As := [.int (nI y2_2), .int (nI y2_2)]) (rest := [.long (f_u (y2_2 * 5 + 0))]) hX hB (k_X7_at κ l (w) k_w j_w g_w b_w R_w C_w f_w (nI y2_2) y2_2 (nI y2_2) y2_2 h_w i_w s_w rfl rfl (by omega)) ⟨rfl, by decide, by decide, by decide +kernel⟩ wm_5_237 wm_5_238 wm_5_239 wm_1_7 wm_6_0 ⟨Nat.le_of_ble_eq_true rfl, Nat.le_of_ble_eq_true rfl⟩ ⟨Nat.le_of_ble_eq_true rfl, Nat.le_of_ble_eq_true rfl⟩ h_w rfl rfl rfl hl.1 rfl (Nat.le_of_ble_eq_true rfl) dX10_goes_30 (fun o w' H locs hp hB => ?_)
          obtain ⟨rfl, hw9⟩ := hp
          replace hB : Bd κ A s (w) H locs := by rw [hw9] at hB; exact hB
          refine W.eq (g2 := F0 m 33 ls [.long (f_w (y2_2 * 5 + y2_2)), .long (f_u (y2_2 * 5 + 0))]) rfl ?_
          refine lv_lrem hx hb dX10_goes_33 (hK3 _ (by omega)) ?_
          refine lv_lconst (v := 0) hx hb dX10_goes_34 (by decide) ?_
          refine W.lcmp hx hb dX10_goes_35 ?_
          refine lv_if_eq (tgt := 55) hx hb dX10_goes_36 (by decide) (fun c12 => ?_) (fun c12 => ?_)
          · replace hR := ifp c12 hR
            refine lv_iinc (v := nI (y2_2 + 1)) (lv' := [(2, .int (nI (y2_2 + 1))), (0, .ref a_t), (1, .ref g_u)]) hx hb dX10_goes_55 hl (k := 0) rfl (nI_add y2_2 1) (by decide) rfl (fun ls hl => ?_)
            refine lv_goto (tgt := 2) hx hb dX10_goes_58 (by decide) ?_
            exact ih2 (y2_2 + 1) _ _ (by omega) (by omega) hR hB _ hl
          · replace hR := ifn c12 hR
            refine lv_goto (tgt := 53) hx hb dX10_goes_39 (by decide) ?_
            refine lv_iconst (v := 0) hx hb dX10_goes_53 (by decide) ?_
            rw [← hQ]
            exact end_i hX hB hA3 rfl rfl (by obtain rfl := hR; exact ⟨rfl, (Or.inl rfl), rfl⟩) (Nat.le_of_ble_eq_true rfl) (Nat.le_of_ble_eq_true rfl) dX10_goes_54
  exact lp2 _ 0 _ _ (by omega) (Nat.lt_succ_self _) hR hB _ hl
noncomputable def D_X10_column_21 (R_o : Nat) (f_o : Nat → Int64) (c0 : Nat) (nn : Nat) : Nat → (Nat → Int64) → (Nat → Int64) := @Nat.rec (fun _ => Nat → (Nat → Int64) → (Nat → Int64)) (fun _ _ => default) (fun _ lb21 (y4_21 : Nat) (fb2_21 : Nat → Int64) => (if R_o ≤ y4_21 then fb2_21 else (lb21 (y4_21 + 1) (vp_updL fb2_21 (y4_21 * 5 + 0) (f_o (y4_21 * 5 + c0)))))) nn
theorem D_X10_column_21_s {R_o : Nat} {f_o : Nat → Int64} {c0 : Nat} {nn : Nat} {y4_21 : Nat} {fb2_21 : Nat → Int64} : D_X10_column_21 R_o f_o c0 (nn + 1) y4_21 fb2_21 = (if R_o ≤ y4_21 then fb2_21 else ((D_X10_column_21 R_o f_o c0 nn) (y4_21 + 1) (vp_updL fb2_21 (y4_21 * 5 + 0) (f_o (y4_21 * 5 + c0))))) := rfl
noncomputable def D_X10_column (p_x : Int32) (q_x : Int32) (r_x : Int32) (u_x : Int32) (R_o : Nat) (C_o : Nat) (f_o : Nat → Int64) (y : Int32) (c0 : Nat) : (Nat → Int64) := (D_X10_column_21 R_o f_o c0 (R_o + 1 - 0 + 1) 0 (fun _ => 0))
theorem D_X10_column_s {p_x : Int32} {q_x : Int32} {r_x : Int32} {u_x : Int32} {R_o : Nat} {C_o : Nat} {f_o : Nat → Int64} {y : Int32} {c0 : Nat} : D_X10_column p_x q_x r_x u_x R_o C_o f_o y c0 = (D_X10_column_21 R_o f_o c0 (R_o + 1 - 0 + 1) 0 (fun _ => 0)) := rfl
set_option maxHeartbeats 4000000 in
set_option maxRecDepth 100000 in
theorem k_X10_column (κ : Kt) (l : Launch) (w : va_W) (k_x a_x t_x j_x : Nat) (p_x q_x r_x u_x : Int32) (T_x : Nat → Option Nat) (k_o j_o g_o b_o R_o C_o : Nat) (f_o : Nat → Int64) (y : Int32) (xc0 : Int32) (c0 : Nat) (h_x : w[k_x]? = some (a_x, .inr (11, [.ref t_x, .int p_x, .int q_x, .int r_x, .int u_x]))) (i_x : w[j_x]? = some (t_x, .inl (κ.2.1 2, 4, .inr (.inr (.inr (.inr T_x)))))) (h_o : w[k_o]? = some (gO g_o R_o C_o b_o)) (i_o : w[j_o]? = some (lA κ b_o (R_o * 5) f_o)) (s_o : shp R_o C_o) (hxc0 : xc0 = nI c0) (hy : vp_in y 4) (hT : T_x y.toNatClampNeg = some g_o) (hc0 : c0 < C_o) (o_F : Nat → Int64) (hR : D_X10_column p_x q_x r_x u_x R_o C_o f_o y c0 = o_F) : CM κ l yX10_column cX10_column 5 (some (.object "GridmenderModel$Grid")) 2 42 2 23 [.ref a_x, .int y, .int xc0] (w) (fun o w' => ∃ (q1 : Nat) (q2 : Nat), o = some (.ref q1) ∧ w' = lA κ q2 (R_o * 5) o_F :: gO q1 R_o 1 q2 :: w) := by
  have z_o := s_o
  obtain ⟨s_o1, s_o2, s_o3, s_o4⟩ := z_o
  subst hxc0
  refine CM_begin (plainFor_of_name (by decide)) (Nat.le_of_ble_eq_true rfl) ?_
  intro p e s m args below meth c A Q hX hnm hA3 hQ hB ls hl
  have hx := hX.1.1
  have hb := hX.1.2.1
  have hl : lv_has ls 5 [(0, .ref a_x), (1, .int y), (2, .int (nI c0))] := hl
  replace hR := (D_X10_column_s).symm.trans hR
  refine newO (fs := [.int 0, .int 0, .null]) hX hB (ci := 8) rfl in7 tyX7_ok wm_5_138 wm_5_140 wm_1_7 df8 (Nat.le_of_ble_eq_true rfl) (Nat.le_of_ble_eq_true rfl) dX10_column_0 (fun q1 H hB => ?_)
  refine lv_dup hx hb dX10_column_3 rfl ?_
  refine lv_aload_n hx hb dX10_column_4 rfl (lv_at hl 0 rfl) ?_
  refine gf (k0 := k_x + 1) hX hB h_x rfl in10 0 (by decide) wm_5_162 rfl rfl dX10_column_5 ?_
  refine lv_iload_n hx hb dX10_column_8 rfl (lv_at hl 1 rfl) ?_
  refine aaldM (k0 := j_x + 1) hX hB i_x hy hT dX10_column_9 ?_
  refine gf (k0 := k_o + 1) hX hB h_o rfl in7 0 (by decide) wm_5_148 rfl rfl dX10_column_10 ?_
  refine lv_iconst (v := 1) hx hb dX10_column_13 (by decide) ?_
  refine call_I (n := 2) (As := [.int (nI R_o), .int 1]) (rest := [.ref q1]) hX hB (k_X7_init κ l (w) q1 (nI R_o) R_o 1 1 rfl rfl (by omega)) ⟨by decide, by decide, by decide +kernel⟩ rfl wm_5_141 wm_5_142 wm_1_7 wm_5_143 ⟨Nat.le_of_ble_eq_true rfl, Nat.le_of_ble_eq_true rfl⟩ ⟨Nat.le_of_ble_eq_true rfl, Nat.le_of_ble_eq_true rfl⟩ rfl hl.1 rfl (Nat.le_of_ble_eq_true rfl) dX10_column_14 (fun o w' H locs hp hB => ?_)
  obtain ⟨b2, rfl, hw9⟩ := hp
  replace hB : Bd κ A s (lA κ b2 (R_o * 5) (fun _ => 0) :: gO q1 R_o 1 b2 :: w) H locs := by rw [hw9] at hB; exact hB
  refine W.eq (g2 := F0 m 17 ls [.ref q1]) rfl ?_
  refine lv_astore_n (lv' := [(3, .ref q1), (0, .ref a_x), (1, .int y), (2, .int (nI c0))]) hx hb dX10_column_17 rfl hl (by decide) rfl (fun ls hl => ?_)
  refine lv_iconst (v := 0) hx hb dX10_column_18 (by decide) ?_
  refine lv_istore (lv' := [(4, .int 0), (3, .ref q1), (0, .ref a_x), (1, .int y), (2, .int (nI c0))]) hx hb dX10_column_19 hl (by decide) rfl (fun ls hl => ?_)
  have lp21 : ∀ (nn21 : Nat) (y4_21 : Nat) (fb2_21 : Nat → Int64) (H : Heap) (locs : List Loc), (y4_21 ≤ R_o) → R_o + 1 - y4_21 < nn21 → D_X10_column_21 R_o f_o c0 nn21 y4_21 fb2_21 = o_F → Bd κ A s (lA κ b2 (R_o * 5) fb2_21 :: gO q1 R_o 1 b2 :: w) H locs → ∀ ls : Array Slot, lv_has ls 5 [(4, .int (nI y4_21)), (3, .ref q1), (0, .ref a_x), (1, .int y), (2, .int (nI c0))] → W p l e (Rm 2 42 2 23) s m args below meth c H locs (2) (23) Q (F0 m 21 ls []) := by
    intro nn21
    induction nn21 with
    | zero => intro y4_21 fb2_21 H locs hn4_21 hμ; exact absurd hμ (Nat.not_lt_zero _)
    | succ nn21 ih21 =>
      intro y4_21 fb2_21 H locs hn4_21 hμ21 hR hB ls hl
      replace hR := (D_X10_column_21_s).symm.trans hR
      refine lv_iload hx hb dX10_column_21 (lv_at hl 0 rfl) ?_
      refine lv_aload_n hx hb dX10_column_23 rfl (lv_at hl 1 rfl) ?_
      refine gf (k0 := 1) hX hB rfl rfl in7 0 (by decide) wm_5_148 rfl rfl dX10_column_24 ?_
      refine lv_icmp_ge (tgt := 55) hx hb dX10_column_27 (by decide) (fun c5 => ?_) (fun c5 => ?_)
      · rw [nleP (a := R_o) (b := y4_21) (by omega) (by omega)] at c5
        replace hR := ifp c5 hR
        refine lv_aload_n hx hb dX10_column_55 rfl (lv_at hl 1 rfl) ?_
        rw [← hQ]
        exact end_a hX hB hA3 rfl (Or.inr ⟨_, rfl⟩) (by obtain rfl := hR; exact ⟨q1, b2, rfl, rfl⟩) (Nat.le_of_ble_eq_true rfl) (Nat.le_of_ble_eq_true rfl) dX10_column_56
      · rw [nleP (a := R_o) (b := y4_21) (by omega) (by omega)] at c5
        replace hR := ifn c5 hR
        refine lv_aload_n hx hb dX10_column_30 rfl (lv_at hl 1 rfl) ?_
        refine lv_iload hx hb dX10_column_31 (lv_at hl 0 rfl) ?_
        refine lv_iconst (v := 0) hx hb dX10_column_33 (by decide) ?_
        refine lv_aload_n hx hb dX10_column_34 rfl (lv_at hl 2 rfl) ?_
        refine gf (k0 := k_x + 2) hX hB h_x rfl in10 0 (by decide) wm_5_162 rfl rfl dX10_column_35 ?_
        refine lv_iload_n hx hb dX10_column_38 rfl (lv_at hl 3 rfl) ?_
        refine aaldM (k0 := j_x + 2) hX hB i_x hy hT dX10_column_39 ?_
        refine lv_iload hx hb dX10_column_40 (lv_at hl 0 rfl) ?_
        refine lv_iload_n hx hb dX10_column_42 rfl (lv_at hl 4 rfl) ?_
        refine call_V (n := 2) (k0 := (k_o + 2)) (As := [.int (nI y4_21), .int (nI c0)]) (rest := [.int 0, .int (nI y4_21), .ref q1]) hX hB (k_X7_at κ l (lA κ b2 (R_o * 5) fb2_21 :: gO q1 R_o 1 b2 :: w) (k_o + 2) (j_o + 2) g_o b_o R_o C_o f_o (nI y4_21) y4_21 (nI c0) c0 h_o i_o s_o rfl rfl (by omega)) ⟨rfl, by decide, by decide, by decide +kernel⟩ wm_5_237 wm_5_238 wm_5_239 wm_1_7 wm_6_0 ⟨Nat.le_of_ble_eq_true rfl, Nat.le_of_ble_eq_true rfl⟩ ⟨Nat.le_of_ble_eq_true rfl, Nat.le_of_ble_eq_true rfl⟩ h_o rfl rfl rfl hl.1 rfl (Nat.le_of_ble_eq_true rfl) dX10_column_43 (fun o w' H locs hp hB => ?_)
        obtain ⟨rfl, hw9⟩ := hp
        replace hB : Bd κ A s (lA κ b2 (R_o * 5) fb2_21 :: gO q1 R_o 1 b2 :: w) H locs := by rw [hw9] at hB; exact hB
        refine W.eq (g2 := F0 m 46 ls [.long (f_o (y4_21 * 5 + c0)), .int 0, .int (nI y4_21), .ref q1]) rfl ?_
        refine call_V (n := 3) (k0 := 1) (As := [.int (nI y4_21), .int 0, .long (f_o (y4_21 * 5 + c0))]) (rest := []) hX hB (k_X7_put κ l (lA κ b2 (R_o * 5) fb2_21 :: gO q1 R_o 1 b2 :: w) 1 0 q1 b2 R_o 1 fb2_21 (nI y4_21) y4_21 0 0 (f_o (y4_21 * 5 + c0)) rfl rfl ⟨by omega, by omega, by omega, by omega⟩ rfl rfl (by omega)) ⟨rfl, by decide, by decide, by decide +kernel⟩ wm_6_1 wm_5_222 wm_5_223 wm_1_7 wm_5_224 ⟨Nat.le_of_ble_eq_true rfl, Nat.le_of_ble_eq_true rfl⟩ ⟨Nat.le_of_ble_eq_true rfl, Nat.le_of_ble_eq_true rfl⟩ rfl rfl rfl rfl hl.1 rfl (Nat.le_of_ble_eq_true rfl) dX10_column_46 (fun o w' H locs hp hB => ?_)
        obtain ⟨rfl, hw9⟩ := hp
        replace hB : Bd κ A s (lA κ b2 (R_o * 5) (vp_updL fb2_21 (y4_21 * 5 + 0) (f_o (y4_21 * 5 + c0))) :: gO q1 R_o 1 b2 :: w) H locs := by rw [hw9] at hB; exact hB
        refine W.eq (g2 := F0 m 49 ls []) rfl ?_
        refine lv_iinc (v := nI (y4_21 + 1)) (lv' := [(4, .int (nI (y4_21 + 1))), (3, .ref q1), (0, .ref a_x), (1, .int y), (2, .int (nI c0))]) hx hb dX10_column_49 hl (k := 0) rfl (nI_add y4_21 1) (by decide) rfl (fun ls hl => ?_)
        refine lv_goto (tgt := 21) hx hb dX10_column_52 (by decide) ?_
        exact ih21 (y4_21 + 1) (vp_updL fb2_21 (y4_21 * 5 + 0) (f_o (y4_21 * 5 + c0))) _ _ (by omega) (by omega) hR hB _ hl
  exact lp21 _ 0 (fun _ => 0) _ _ (by omega) (Nat.lt_succ_self _) hR hB _ hl
