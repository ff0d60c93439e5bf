theorem Bd_comm {κ : Kt} {A : Nat → Prop} {s : State} {w1 w2 : va_W} {H : Heap} {locs : List Loc} (hB : Bd κ A s (w1 ++ w2) H locs) : Bd κ A s (w2 ++ w1) H locs := by
  refine Bd_pick (fun k => if k < w2.length then w1.length + k else if k < w2.length + w1.length then k - w2.length else k) (fun i j h => ?_) (fun k q h => ?_) hB
  · repeat' split at h
    all_goals omega
  · by_cases hk : k < w2.length
    · rw [List.getElem?_append_left hk] at h
      rw [if_pos hk, List.getElem?_append_right (Nat.le_add_right _ _), Nat.add_sub_cancel_left]
      exact h
    · rw [List.getElem?_append_right (by omega)] at h
      have h1 := (List.getElem?_eq_some_iff.mp h).1
      rw [if_neg hk, if_pos (by omega), List.getElem?_append_left h1]
      exact h
theorem app_at {w Wr : va_W} {k : Nat} {x : Nat × va_E} (h : w[k]? = some x) : (w ++ Wr)[k]? = some x := by
  rw [List.getElem?_append_left (List.getElem?_eq_some_iff.mp h).1]; exact h
theorem cwGn {κ : Kt} {a : Nat → Nat} {r q : Nat → Int32} {f : Nat → Nat → Int64} {i RR CC : Nat} (hi : i < 15) (hR : r (2 * i) = nI RR) (hC : r (2 * i + 1) = nI CC) : (cw κ a r q f)[6 + 2 * i]? = some (a (6 + 2 * i), .inr (4, [.ref (a (7 + 2 * i)), .int (nI RR), .int (nI CC)])) := by
  rw [← hR, ← hC]; exact cwG hi
theorem nI_le15 {x : Int32} {n : Nat} (hn : n < 100) (h0 : 1 ≤ x) (h1 : x ≤ nI n) : ∃ R, x = nI R ∧ 1 ≤ R ∧ R ≤ n := by
  have z : ¬ x < 0 := fun z => absurd (Int32.lt_of_le_of_lt h0 z) (by decide)
  obtain ⟨j, hj, rfl⟩ := nI_of z
  have h0 : nI 1 ≤ nI j := h0
  rw [nI_leI (by omega) hj] at h0
  rw [nI_leI hj (by omega)] at h1
  exact ⟨j, rfl, h0, h1⟩
theorem okr_R {r : Nat → Int32} (h : okr r) {i : Nat} (hi : i < 15) : ∃ R, r (2 * i) = nI R ∧ 1 ≤ R ∧ R ≤ 4 := nI_le15 (by omega) (h i hi).1.1 (h i hi).1.2
theorem okr_C {r : Nat → Int32} (h : okr r) {i : Nat} (hi : i < 15) : ∃ R, r (2 * i + 1) = nI R ∧ 1 ≤ R ∧ R ≤ 5 := nI_le15 (by omega) (h i hi).2.1 (h i hi).2.2

set_option maxHeartbeats 4000000 in
set_option maxRecDepth 100000 in
theorem k_X5_text (κ : Kt) (l : Launch) (hst : l.stackTraces = false) (a : Nat → Nat) (r q : Nat → Int32) (f : Nat → Nat → Int64) (p0 : Int32) (hok : okr r) : CX κ l yX5_text cX5_text 6 (some (.object "java/lang/String")) 7 171 49 38094 [.ref (a 0), .int p0] (cw κ a r q f) (fun o w' => ∃ q1 : Nat, ∃ (r' q' : Nat → Int32) (f' : Nat → Nat → Int64), o = some (.ref q1) ∧ (okr r → okr r') ∧ q' 4 = q 4 ∧ Ks r q f r' q' f' ∧ w' = cw κ a r' q' f') (fun E w' => E ∈ (["java/lang/IndexOutOfBoundsException"] : List String) ∧ ∃ (r' q' : Nat → Int32) (f' : Nat → Nat → Int64), (okr r → okr r') ∧ q' 4 = q 4 ∧ Ks r q f r' q' f' ∧ w' = cw κ a r' q' f') := by
  refine CX_begin (by decide) (Nat.le_of_ble_eq_true rfl) ?_
  intro p e s m args below meth c A Q hX hne hA3 hQ hB ls hl
  have hx := hX.1.1
  have hb := hX.1.2.1
  have hl : lv_has ls 6 [(0, .ref (a 0)), (1, .int p0)] := hl
  refine lv_aload_n hx hb dX5_text_0 rfl (lv_at hl 0 rfl) ?_
  refine lv_iload_n hx hb dX5_text_1 rfl (lv_at hl 1 rfl) ?_
  refine CX_after2 hX hB (run_XV (n := 1) (k0 := 0) (As := [.int p0]) (rest := []) hX hB (o_X5_needTable κ l hst a r q f p0) ⟨rfl, by decide, by decide, by decide +kernel⟩ wm_2_165 wm_2_167 wp_17 wm_1_1 wm_2_168 ⟨Nat.le_of_ble_eq_true rfl, Nat.le_of_ble_eq_true rfl⟩ ⟨Nat.le_of_ble_eq_true rfl, Nat.le_of_ble_eq_true rfl⟩ cw0 rfl rfl rfl hl.1 rfl (Nat.le_of_ble_eq_true rfl) dX5_text_2) (fun E ce q9 w' H locs hp hB hce hcv hcl => ?_) (fun o w' H locs hp hB => ?_)
  · obtain ⟨hE3, rfl⟩ := hp
    rw [← hQ]
    exact thrown_on hX hne hB hA3 hce hcv hcl ⟨((by decide : ∀ x ∈ (["java/lang/IndexOutOfBoundsException"] : List String), x ∈ (["java/lang/IndexOutOfBoundsException"] : List String)) _ hE3), r, q, f, (fun h => h), rfl, Ks_rf, rfl⟩ (Nat.le_of_ble_eq_true rfl) (Nat.le_of_ble_eq_true rfl)
  obtain ⟨i1, hi2, rfl, hw9⟩ := hp
  replace hB : Bd κ A s (cw κ a r q f) H locs := by rw [hw9] at hB; exact hB
  obtain ⟨RR, hRR, hRR1, hRR4⟩ := okr_R ((fun h => h) hok) (i := i1) (by omega)
  obtain ⟨CC, hCC, hCC1, hCC5⟩ := okr_C ((fun h => h) hok) (i := i1) (by omega)
  refine W.eq (g2 := F0 m 5 ls [.ref (a (6 + 2 * i1))]) rfl ?_
  refine lv_astore_n (lv' := [(2, .ref (a (6 + 2 * i1))), (0, .ref (a 0)), (1, .int p0)]) hx hb dX5_text_5 rfl hl (by decide) rfl (fun ls hl => ?_)
  refine newO (fs := [.null, .int 0, .int 0, .int 0]) hX hB (ci := 1) rfl inJ4 tyJ4_ok wm_3_230 wm_3_231 wm_1_18 df1 (Nat.le_of_ble_eq_true rfl) (Nat.le_of_ble_eq_true rfl) dX5_text_6 (fun q4 H hB => ?_)
  refine lv_dup hx hb dX5_text_9 rfl ?_
  refine call_I (n := 0) (As := []) (rest := [.ref q4]) hX hB (k_J4_init_da8c8 κ l (cw κ a r q f) q4 ) ⟨by decide, by decide, by decide +kernel⟩ rfl wm_3_232 wm_3_233 wm_1_18 wm_3_234 ⟨Nat.le_of_ble_eq_true rfl, Nat.le_of_ble_eq_true rfl⟩ ⟨Nat.le_of_ble_eq_true rfl, Nat.le_of_ble_eq_true rfl⟩ rfl hl.1 rfl (Nat.le_of_ble_eq_true rfl) dX5_text_10 (fun o w' H locs hp hB => ?_)
  obtain ⟨b5, rfl, hw9⟩ := hp
  replace hB : Bd κ A s (bA κ b5 16 (fun _ => 0) :: (q4, .inr (1, [.ref b5, .int 0, .int 0, .int (nI 0)])) :: cw κ a r q f) H locs := by rw [hw9] at hB; exact hB
  refine W.eq (g2 := F0 m 13 ls [.ref q4]) rfl ?_
  refine lv_astore_n (lv' := [(3, .ref q4), (2, .ref (a (6 + 2 * i1))), (0, .ref (a 0)), (1, .int p0)]) hx hb dX5_text_13 rfl hl (by decide) rfl (fun ls hl => ?_)
  refine lv_iconst (v := 0) hx hb dX5_text_14 (by decide) ?_
  refine lv_istore (lv' := [(4, .int 0), (3, .ref q4), (2, .ref (a (6 + 2 * i1))), (0, .ref (a 0)), (1, .int p0)]) hx hb dX5_text_15 hl (by decide) rfl (fun ls hl => ?_)
  have lp17 : ∀ (nn : Nat) (y4_17 : Nat) (Pb_17 : Nat) (Pc_17 : Nat) (Pn_17 : Nat) (bs_17 : Nat → Int32) (H : Heap) (locs : List Loc), (y4_17 ≤ RR) → (Pc_17 ≤ Pn_17 ∧ Pn_17 ≤ 1000 ∧ Pn_17 ≤ 2 * Pc_17 + 16 ∧ Pc_17 ≤ y4_17 * 61) → (sb_Fit bs_17) → RR + 1 - y4_17 < nn → Bd κ A s (bA κ Pb_17 Pn_17 bs_17 :: (q4, .inr (1, [.ref Pb_17, .int 0, .int 0, .int (nI Pc_17)])) :: cw κ a r q f) H locs → ∀ ls : Array Slot, lv_has ls 6 [(4, .int (nI y4_17)), (3, .ref q4), (2, .ref (a (6 + 2 * i1))), (0, .ref (a 0)), (1, .int p0)] → W p l e (Rm 7 171 49 38094) s m args below meth c H locs (3 + y4_17 * 11) (1010 + y4_17 * 9020) Q (F0 m 17 ls []) := by
    intro nn
    induction nn with
    | zero => intro y4_17 Pb_17 Pc_17 Pn_17 bs_17 H locs hn4_17 hsb17 hfb17 hμ; exact absurd hμ (Nat.not_lt_zero _)
    | succ nn ih17 =>
      intro y4_17 Pb_17 Pc_17 Pn_17 bs_17 H locs hn4_17 hsb17 hfb17 hμ17 hB ls hl
      refine lv_iload hx hb dX5_text_17 (lv_at hl 0 rfl) ?_
      refine lv_aload_n hx hb dX5_text_19 rfl (lv_at hl 2 rfl) ?_
      refine gfN (k0 := 6 + 2 * i1 + 2) hX hB (cwGn (a := a) (r := r) (q := q) (f := f) (i := i1) (by omega) hRR hCC) rfl in3 1 (by decide) wn_1_51 rfl rfl dX5_text_20 ?_
      refine lv_icmp_ge (tgt := 88) hx hb dX5_text_23 (by decide) (fun c441 => ?_) (fun c441 => ?_)
      · rw [nleP (a := RR) (b := y4_17) (by omega) (by omega)] at c441
        refine W.widen (k := 47) (n := 37090) (by omega) (by omega) ?_
        refine lv_aload_n hx hb dX5_text_88 rfl (lv_at hl 1 rfl) ?_
        refine call_V (n := 0) (k0 := 1) (As := []) (rest := []) hX hB (k_J4_toString_0e30d κ l (cw κ a r q f) q4 Pb_17 Pn_17 Pc_17 0 bs_17 (by omega) (by omega) hfb17) ⟨rfl, by decide, by decide, by decide +kernel⟩ wm_4_146 wm_4_147 wm_4_148 wm_1_18 wm_4_149 ⟨Nat.le_of_ble_eq_true rfl, Nat.le_of_ble_eq_true rfl⟩ ⟨Nat.le_of_ble_eq_true rfl, Nat.le_of_ble_eq_true rfl⟩ rfl rfl rfl rfl hl.1 rfl (Nat.le_of_ble_eq_true rfl) dX5_text_89 (fun o w' H locs hp hB => ?_)
        obtain ⟨q442, rfl, hw9⟩ := hp
        replace hB : Bd κ A s (bA κ Pb_17 Pn_17 bs_17 :: (q4, .inr (1, [.ref Pb_17, .int 0, .int 0, .int (nI Pc_17)])) :: cw κ a r q f) H locs := by rw [hw9] at hB; exact hB
        refine W.eq (g2 := F0 m 92 ls [.ref q442]) rfl ?_
        replace hB : Bd κ A s (cw κ a r q f) H locs := Bd_tail (Bd_tail hB)
        rw [← hQ]
        exact vx_ret ( end_a hX hB hA3 rfl (Or.inr ⟨_, rfl⟩) ⟨q442, r, q, f, rfl, (fun h => h), rfl, Ks_rf, rfl⟩ (Nat.le_of_ble_eq_true rfl) (Nat.le_of_ble_eq_true rfl) dX5_text_92)
      · rw [nleP (a := RR) (b := y4_17) (by omega) (by omega)] at c441
        refine lv_iload hx hb dX5_text_26 (lv_at hl 0 rfl) ?_
        refine lv_if_le (tgt := 38) hx hb dX5_text_28 (by decide) (fun c443 => ?_) (fun c443 => ?_)
        · replace c443 : nI y4_17 ≤ nI 0 := c443
          rw [nleP (by omega) (by omega)] at c443
          refine lv_iconst (v := 0) hx hb dX5_text_38 (by decide) ?_
          refine lv_istore (lv' := [(5, .int 0), (4, .int (nI y4_17)), (3, .ref q4), (2, .ref (a (6 + 2 * i1))), (0, .ref (a 0)), (1, .int p0)]) hx hb dX5_text_39 hl (by decide) rfl (fun ls hl => ?_)
          have lp41 : ∀ (nn : Nat) (y5_41 : Nat) (Pb_41 : Nat) (Pc_41 : Nat) (Pn_41 : Nat) (bs_41 : Nat → Int32) (H : Heap) (locs : List Loc), (y5_41 ≤ CC) → (Pc_41 ≤ Pn_41 ∧ Pn_41 ≤ 1000 ∧ Pn_41 ≤ 2 * Pc_41 + 16 ∧ Pc_41 ≤ y4_17 * 61 + 1 + y5_41 * 12) → (sb_Fit bs_41) → CC + 1 - y5_41 < nn → Bd κ A s (bA κ Pb_41 Pn_41 bs_41 :: (q4, .inr (1, [.ref Pb_41, .int 0, .int 0, .int (nI Pc_41)])) :: cw κ a r q f) H locs → ∀ ls : Array Slot, lv_has ls 6 [(5, .int (nI y5_41)), (4, .int (nI y4_17)), (3, .ref q4), (2, .ref (a (6 + 2 * i1))), (0, .ref (a 0)), (1, .int p0)] → W p l e (Rm 7 171 49 38094) s m args below meth c H locs (3 + y4_17 * 11 + y5_41 * 2) (1010 + y4_17 * 9020 + y5_41 * 1640) Q (F0 m 41 ls []) := by
            intro nn
            induction nn with
            | zero => intro y5_41 Pb_41 Pc_41 Pn_41 bs_41 H locs hn5_41 hsb41 hfb41 hμ; exact absurd hμ (Nat.not_lt_zero _)
            | succ nn ih41 =>
              intro y5_41 Pb_41 Pc_41 Pn_41 bs_41 H locs hn5_41 hsb41 hfb41 hμ41 hB ls hl
              refine lv_iload hx hb dX5_text_41 (lv_at hl 0 rfl) ?_
              refine lv_aload_n hx hb dX5_text_43 rfl (lv_at hl 3 rfl) ?_
              refine gfN (k0 := 6 + 2 * i1 + 2) hX hB (cwGn (a := a) (r := r) (q := q) (f := f) (i := i1) (by omega) hRR hCC) rfl in3 2 (by decide) wn_1_57 rfl rfl dX5_text_44 ?_
              refine lv_icmp_ge (tgt := 82) hx hb dX5_text_47 (by decide) (fun c474 => ?_) (fun c474 => ?_)
              · rw [nleP (a := CC) (b := y5_41) (by omega) (by omega)] at c474
                refine W.widen (k := 13 + y4_17 * 11) (n := 9210 + y4_17 * 9020) (by omega) (by omega) ?_
                refine lv_iinc (v := nI (y4_17 + 1)) (lv' := [(4, .int (nI (y4_17 + 1))), (5, .int (nI y5_41)), (3, .ref q4), (2, .ref (a (6 + 2 * i1))), (0, .ref (a 0)), (1, .int p0)]) hx hb dX5_text_82 hl (k := 1) rfl (nI_add y4_17 1) (by decide) rfl (fun ls hl => ?_)
                refine lv_goto (tgt := 17) hx hb dX5_text_85 (by decide) ?_
                refine W.widen (k := 3 + (y4_17 + 1) * 11) (n := 1010 + (y4_17 + 1) * 9020) (by omega) (by omega) ?_
                exact ih17 (y4_17 + 1) Pb_41 Pc_41 Pn_41 bs_41 _ _ (by omega) (⟨by omega, by omega, by omega, by omega⟩) hfb41 (by omega) hB _ (lv_sub hl [0, 2, 3, 4, 5] rfl)
              · rw [nleP (a := CC) (b := y5_41) (by omega) (by omega)] at c474
                refine lv_iload hx hb dX5_text_50 (lv_at hl 0 rfl) ?_
                refine lv_if_le (tgt := 62) hx hb dX5_text_52 (by decide) (fun c475 => ?_) (fun c475 => ?_)
                · replace c475 : nI y5_41 ≤ nI 0 := c475
                  rw [nleP (by omega) (by omega)] at c475
                  refine lv_aload_n hx hb dX5_text_62 rfl (lv_at hl 2 rfl) ?_
                  refine lv_aload_n hx hb dX5_text_63 rfl (lv_at hl 3 rfl) ?_
                  refine lv_iload hx hb dX5_text_64 (lv_at hl 1 rfl) ?_
                  refine lv_iload hx hb dX5_text_66 (lv_at hl 0 rfl) ?_
                  replace hB : Bd κ A s (cw κ a r q f ++ [bA κ Pb_41 Pn_41 bs_41, (q4, .inr (1, [.ref Pb_41, .int 0, .int 0, .int (nI Pc_41)]))]) H locs := Bd_comm (w1 := [bA κ Pb_41 Pn_41 bs_41, (q4, .inr (1, [.ref Pb_41, .int 0, .int 0, .int (nI Pc_41)]))]) (w2 := cw κ a r q f) hB
                  refine call_V (n := 2) (k0 := (6 + 2 * i1)) (As := [.int (nI y4_17), .int (nI y5_41)]) (rest := [.ref q4]) hX hB (CM_frame [bA κ Pb_41 Pn_41 bs_41, (q4, .inr (1, [.ref Pb_41, .int 0, .int 0, .int (nI Pc_41)]))] (o_X3_get κ l a r q f i1 (nI y4_17) (nI y5_41) (by omega))) ⟨rfl, by decide, by decide, by decide +kernel⟩ wm_2_123 wm_1_187 wm_1_188 wm_1_2 wm_1_189 ⟨Nat.le_of_ble_eq_true rfl, Nat.le_of_ble_eq_true rfl⟩ ⟨by dsimp only [Rm]; omega, by dsimp only [Rm]; omega⟩ (app_at (cwG (κ := κ) (a := a) (r := r) (q := q) (f := f) (i := i1) (by omega))) rfl rfl rfl hl.1 rfl (Nat.le_of_ble_eq_true rfl) dX5_text_68 (fun o w' H locs hp hB => ?_)
                  obtain ⟨_, ⟨x476, rfl, rfl⟩, hw9⟩ := hp
                  replace hB : Bd κ A s (bA κ Pb_41 Pn_41 bs_41 :: (q4, .inr (1, [.ref Pb_41, .int 0, .int 0, .int (nI Pc_41)])) :: cw κ a r q f) H locs := by rw [hw9] at hB; exact Bd_comm (w1 := cw κ a r q f) (w2 := [bA κ Pb_41 Pn_41 bs_41, (q4, .inr (1, [.ref Pb_41, .int 0, .int 0, .int (nI Pc_41)]))]) hB
                  refine W.eq (g2 := F0 m 71 ls [.long x476, .ref q4]) rfl ?_
                  refine lv_l2i hx hb dX5_text_71 rfl ?_
                  refine call_V (n := 1) (k0 := 1) (As := [.int ((x476).toInt32)]) (rest := []) hX hB (k_J4_append_bf812 κ l (cw κ a r q f) q4 Pb_41 Pn_41 Pc_41 0 bs_41 ((x476).toInt32) (by omega) (by omega) hfb41 (by omega) (by omega)) ⟨rfl, by decide, by decide, by decide +kernel⟩ wm_4_112 wm_4_113 wm_4_114 wm_1_18 wm_4_115 ⟨Nat.le_of_ble_eq_true rfl, Nat.le_of_ble_eq_true rfl⟩ ⟨by dsimp only [Rm]; omega, by dsimp only [Rm]; omega⟩ rfl rfl rfl rfl hl.1 rfl (Nat.le_of_ble_eq_true rfl) dX5_text_72 (fun o w' H locs hp hB => ?_)
                  obtain ⟨q477, n478, F479, c480, rfl, hf481, hf482, hw9⟩ := hp
                  replace hB : Bd κ A s (bA κ q477 n478 F479 :: (q4, .inr (1, [.ref q477, .int 0, .int 0, .int (nI c480)])) :: cw κ a r q f) H locs := by rw [hw9] at hB; exact hB
                  refine W.eq (g2 := F0 m 75 ls [.ref q4]) rfl ?_
                  refine lv_pop hx hb dX5_text_75 rfl ?_
                  refine lv_iinc (v := nI (y5_41 + 1)) (lv' := [(5, .int (nI (y5_41 + 1))), (4, .int (nI y4_17)), (3, .ref q4), (2, .ref (a (6 + 2 * i1))), (0, .ref (a 0)), (1, .int p0)]) hx hb dX5_text_76 hl (k := 0) rfl (nI_add y5_41 1) (by decide) rfl (fun ls hl => ?_)
                  refine lv_goto (tgt := 41) hx hb dX5_text_79 (by decide) ?_
                  refine W.widen (k := 3 + y4_17 * 11 + (y5_41 + 1) * 2) (n := 1010 + y4_17 * 9020 + (y5_41 + 1) * 1640) (by omega) (by omega) ?_
                  exact ih41 (y5_41 + 1) q477 c480 n478 F479 _ _ (by omega) (⟨by omega, by omega, by omega, by omega⟩) hf482 (by omega) hB _ hl
                · replace c475 : ¬ nI y5_41 ≤ nI 0 := c475
                  rw [nleP (by omega) (by omega)] at c475
                  refine lv_aload_n hx hb dX5_text_55 rfl (lv_at hl 2 rfl) ?_
                  refine lv_bipush (v := 32) hx hb dX5_text_56 (by decide) ?_
                  refine call_V (n := 1) (k0 := 1) (As := [.int 32]) (rest := []) hX hB (k_J4_append_cf468 κ l (cw κ a r q f) q4 Pb_41 Pn_41 Pc_41 0 bs_41 32 32 (by omega) (by omega) hfb41 rfl (by omega) (by omega) (by omega)) ⟨rfl, by decide, by decide, by decide +kernel⟩ wm_4_21 wm_4_22 wm_4_23 wm_1_18 wm_4_24 ⟨Nat.le_of_ble_eq_true rfl, Nat.le_of_ble_eq_true rfl⟩ ⟨by dsimp only [Rm]; omega, by dsimp only [Rm]; omega⟩ rfl rfl rfl rfl hl.1 rfl (Nat.le_of_ble_eq_true rfl) dX5_text_58 (fun o w' H locs hp hB => ?_)
                  obtain ⟨q483, n484, F485, rfl, hf486, hf487, hw9⟩ := hp
                  replace hB : Bd κ A s (bA κ q483 n484 F485 :: (q4, .inr (1, [.ref q483, .int 0, .int 0, .int (nI (Pc_41 + 1))])) :: cw κ a r q f) H locs := by rw [hw9] at hB; exact hB
                  refine W.eq (g2 := F0 m 61 ls [.ref q4]) rfl ?_
                  refine lv_pop hx hb dX5_text_61 rfl ?_
                  refine lv_aload_n hx hb dX5_text_62 rfl (lv_at hl 2 rfl) ?_
                  refine lv_aload_n hx hb dX5_text_63 rfl (lv_at hl 3 rfl) ?_
                  refine lv_iload hx hb dX5_text_64 (lv_at hl 1 rfl) ?_
                  refine lv_iload hx hb dX5_text_66 (lv_at hl 0 rfl) ?_
                  replace hB : Bd κ A s (cw κ a r q f ++ [bA κ q483 n484 F485, (q4, .inr (1, [.ref q483, .int 0, .int 0, .int (nI (Pc_41 + 1))]))]) H locs := Bd_comm (w1 := [bA κ q483 n484 F485, (q4, .inr (1, [.ref q483, .int 0, .int 0, .int (nI (Pc_41 + 1))]))]) (w2 := cw κ a r q f) hB
                  refine call_V (n := 2) (k0 := (6 + 2 * i1)) (As := [.int (nI y4_17), .int (nI y5_41)]) (rest := [.ref q4]) hX hB (CM_frame [bA κ q483 n484 F485, (q4, .inr (1, [.ref q483, .int 0, .int 0, .int (nI (Pc_41 + 1))]))] (o_X3_get κ l a r q f i1 (nI y4_17) (nI y5_41) (by omega))) ⟨rfl, by decide, by decide, by decide +kernel⟩ wm_2_123 wm_1_187 wm_1_188 wm_1_2 wm_1_189 ⟨Nat.le_of_ble_eq_true rfl, Nat.le_of_ble_eq_true rfl⟩ ⟨by dsimp only [Rm]; omega, by dsimp only [Rm]; omega⟩ (app_at (cwG (κ := κ) (a := a) (r := r) (q := q) (f := f) (i := i1) (by omega))) rfl rfl rfl hl.1 rfl (Nat.le_of_ble_eq_true rfl) dX5_text_68 (fun o w' H locs hp hB => ?_)
                  obtain ⟨_, ⟨x488, rfl, rfl⟩, hw9⟩ := hp
                  replace hB : Bd κ A s (bA κ q483 n484 F485 :: (q4, .inr (1, [.ref q483, .int 0, .int 0, .int (nI (Pc_41 + 1))])) :: cw κ a r q f) H locs := by rw [hw9] at hB; exact Bd_comm (w1 := cw κ a r q f) (w2 := [bA κ q483 n484 F485, (q4, .inr (1, [.ref q483, .int 0, .int 0, .int (nI (Pc_41 + 1))]))]) hB
                  refine W.eq (g2 := F0 m 71 ls [.long x488, .ref q4]) rfl ?_
                  refine lv_l2i hx hb dX5_text_71 rfl ?_
                  refine call_V (n := 1) (k0 := 1) (As := [.int ((x488).toInt32)]) (rest := []) hX hB (k_J4_append_bf812 κ l (cw κ a r q f) q4 q483 n484 (Pc_41 + 1) 0 F485 ((x488).toInt32) (by omega) (by omega) hf487 (by omega) (by omega)) ⟨rfl, by decide, by decide, by decide +kernel⟩ wm_4_112 wm_4_113 wm_4_114 wm_1_18 wm_4_115 ⟨Nat.le_of_ble_eq_true rfl, Nat.le_of_ble_eq_true rfl⟩ ⟨by dsimp only [Rm]; omega, by dsimp only [Rm]; omega⟩ rfl rfl rfl rfl hl.1 rfl (Nat.le_of_ble_eq_true rfl) dX5_text_72 (fun o w' H locs hp hB => ?_)
                  obtain ⟨q489, n490, F491, c492, rfl, hf493, hf494, hw9⟩ := hp
                  replace hB : Bd κ A s (bA κ q489 n490 F491 :: (q4, .inr (1, [.ref q489, .int 0, .int 0, .int (nI c492)])) :: cw κ a r q f) H locs := by rw [hw9] at hB; exact hB
                  refine W.eq (g2 := F0 m 75 ls [.ref q4]) rfl ?_
                  refine lv_pop hx hb dX5_text_75 rfl ?_
                  refine lv_iinc (v := nI (y5_41 + 1)) (lv' := [(5, .int (nI (y5_41 + 1))), (4, .int (nI y4_17)), (3, .ref q4), (2, .ref (a (6 + 2 * i1))), (0, .ref (a 0)), (1, .int p0)]) hx hb dX5_text_76 hl (k := 0) rfl (nI_add y5_41 1) (by decide) rfl (fun ls hl => ?_)
                  refine lv_goto (tgt := 41) hx hb dX5_text_79 (by decide) ?_
                  refine W.widen (k := 3 + y4_17 * 11 + (y5_41 + 1) * 2) (n := 1010 + y4_17 * 9020 + (y5_41 + 1) * 1640) (by omega) (by omega) ?_
                  exact ih41 (y5_41 + 1) q489 c492 n490 F491 _ _ (by omega) (⟨by omega, by omega, by omega, by omega⟩) hf494 (by omega) hB _ hl
          refine W.widen (k := 3 + y4_17 * 11 + 0 * 2) (n := 1010 + y4_17 * 9020 + 0 * 1640) (by omega) (by omega) ?_
          exact lp41 _ 0 Pb_17 Pc_17 Pn_17 bs_17 _ _ (by omega) (⟨by omega, by omega, by omega, by omega⟩) hfb17 (Nat.lt_succ_self _) hB _ hl
        · replace c443 : ¬ nI y4_17 ≤ nI 0 := c443
          rw [nleP (by omega) (by omega)] at c443
          refine lv_aload_n hx hb dX5_text_31 rfl (lv_at hl 1 rfl) ?_
          refine lv_bipush (v := 47) hx hb dX5_text_32 (by decide) ?_
          refine call_V (n := 1) (k0 := 1) (As := [.int 47]) (rest := []) hX hB (k_J4_append_cf468 κ l (cw κ a r q f) q4 Pb_17 Pn_17 Pc_17 0 bs_17 47 47 (by omega) (by omega) hfb17 rfl (by omega) (by omega) (by omega)) ⟨rfl, by decide, by decide, by decide +kernel⟩ wm_4_21 wm_4_22 wm_4_23 wm_1_18 wm_4_24 ⟨Nat.le_of_ble_eq_true rfl, Nat.le_of_ble_eq_true rfl⟩ ⟨by dsimp only [Rm]; omega, by dsimp only [Rm]; omega⟩ rfl rfl rfl rfl hl.1 rfl (Nat.le_of_ble_eq_true rfl) dX5_text_34 (fun o w' H locs hp hB => ?_)
          obtain ⟨q495, n496, F497, rfl, hf498, hf499, hw9⟩ := hp
          replace hB : Bd κ A s (bA κ q495 n496 F497 :: (q4, .inr (1, [.ref q495, .int 0, .int 0, .int (nI (Pc_17 + 1))])) :: cw κ a r q f) H locs := by rw [hw9] at hB; exact hB
          refine W.eq (g2 := F0 m 37 ls [.ref q4]) rfl ?_
          refine lv_pop hx hb dX5_text_37 rfl ?_
          refine lv_iconst (v := 0) hx hb dX5_text_38 (by decide) ?_
          refine lv_istore (lv' := [(5, .int 0), (4, .int (nI y4_17)), (3, .ref q4), (2, .ref (a (6 + 2 * i1))), (0, .ref (a 0)), (1, .int p0)]) hx hb dX5_text_39 hl (by decide) rfl (fun ls hl => ?_)
          have lp41 : ∀ (nn : Nat) (y5_41 : Nat) (Pb_41 : Nat) (Pc_41 : Nat) (Pn_41 : Nat) (bs_41 : Nat → Int32) (H : Heap) (locs : List Loc), (y5_41 ≤ CC) → (Pc_41 ≤ Pn_41 ∧ Pn_41 ≤ 1000 ∧ Pn_41 ≤ 2 * Pc_41 + 16 ∧ Pc_41 ≤ y4_17 * 61 + 1 + y5_41 * 12) → (sb_Fit bs_41) → CC + 1 - y5_41 < nn → Bd κ A s (bA κ Pb_41 Pn_41 bs_41 :: (q4, .inr (1, [.ref Pb_41, .int 0, .int 0, .int (nI Pc_41)])) :: cw κ a r q f) H locs → ∀ ls : Array Slot, lv_has ls 6 [(5, .int (nI y5_41)), (4, .int (nI y4_17)), (3, .ref q4), (2, .ref (a (6 + 2 * i1))), (0, .ref (a 0)), (1, .int p0)] → W p l e (Rm 7 171 49 38094) s m args below meth c H locs (4 + y4_17 * 11 + y5_41 * 2) (1830 + y4_17 * 9020 + y5_41 * 1640) Q (F0 m 41 ls []) := by
            intro nn
            induction nn with
            | zero => intro y5_41 Pb_41 Pc_41 Pn_41 bs_41 H locs hn5_41 hsb41 hfb41 hμ; exact absurd hμ (Nat.not_lt_zero _)
            | succ nn ih41 =>
              intro y5_41 Pb_41 Pc_41 Pn_41 bs_41 H locs hn5_41 hsb41 hfb41 hμ41 hB ls hl
              refine lv_iload hx hb dX5_text_41 (lv_at hl 0 rfl) ?_
              refine lv_aload_n hx hb dX5_text_43 rfl (lv_at hl 3 rfl) ?_
              refine gfN (k0 := 6 + 2 * i1 + 2) hX hB (cwGn (a := a) (r := r) (q := q) (f := f) (i := i1) (by omega) hRR hCC) rfl in3 2 (by decide) wn_1_57 rfl rfl dX5_text_44 ?_
              refine lv_icmp_ge (tgt := 82) hx hb dX5_text_47 (by decide) (fun c530 => ?_) (fun c530 => ?_)
              · rw [nleP (a := CC) (b := y5_41) (by omega) (by omega)] at c530
                refine W.widen (k := 14 + y4_17 * 11) (n := 10030 + y4_17 * 9020) (by omega) (by omega) ?_
                refine lv_iinc (v := nI (y4_17 + 1)) (lv' := [(4, .int (nI (y4_17 + 1))), (5, .int (nI y5_41)), (3, .ref q4), (2, .ref (a (6 + 2 * i1))), (0, .ref (a 0)), (1, .int p0)]) hx hb dX5_text_82 hl (k := 1) rfl (nI_add y4_17 1) (by decide) rfl (fun ls hl => ?_)
                refine lv_goto (tgt := 17) hx hb dX5_text_85 (by decide) ?_
                refine W.widen (k := 3 + (y4_17 + 1) * 11) (n := 1010 + (y4_17 + 1) * 9020) (by omega) (by omega) ?_
                exact ih17 (y4_17 + 1) Pb_41 Pc_41 Pn_41 bs_41 _ _ (by omega) (⟨by omega, by omega, by omega, by omega⟩) hfb41 (by omega) hB _ (lv_sub hl [0, 2, 3, 4, 5] rfl)
              · rw [nleP (a := CC) (b := y5_41) (by omega) (by omega)] at c530
                refine lv_iload hx hb dX5_text_50 (lv_at hl 0 rfl) ?_
                refine lv_if_le (tgt := 62) hx hb dX5_text_52 (by decide) (fun c531 => ?_) (fun c531 => ?_)
                · replace c531 : nI y5_41 ≤ nI 0 := c531
                  rw [nleP (by omega) (by omega)] at c531
                  refine lv_aload_n hx hb dX5_text_62 rfl (lv_at hl 2 rfl) ?_
                  refine lv_aload_n hx hb dX5_text_63 rfl (lv_at hl 3 rfl) ?_
                  refine lv_iload hx hb dX5_text_64 (lv_at hl 1 rfl) ?_
                  refine lv_iload hx hb dX5_text_66 (lv_at hl 0 rfl) ?_
                  replace hB : Bd κ A s (cw κ a r q f ++ [bA κ Pb_41 Pn_41 bs_41, (q4, .inr (1, [.ref Pb_41, .int 0, .int 0, .int (nI Pc_41)]))]) H locs := Bd_comm (w1 := [bA κ Pb_41 Pn_41 bs_41, (q4, .inr (1, [.ref Pb_41, .int 0, .int 0, .int (nI Pc_41)]))]) (w2 := cw κ a r q f) hB
                  refine call_V (n := 2) (k0 := (6 + 2 * i1)) (As := [.int (nI y4_17), .int (nI y5_41)]) (rest := [.ref q4]) hX hB (CM_frame [bA κ Pb_41 Pn_41 bs_41, (q4, .inr (1, [.ref Pb_41, .int 0, .int 0, .int (nI Pc_41)]))] (o_X3_get κ l a r q f i1 (nI y4_17) (nI y5_41) (by omega))) ⟨rfl, by decide, by decide, by decide +kernel⟩ wm_2_123 wm_1_187 wm_1_188 wm_1_2 wm_1_189 ⟨Nat.le_of_ble_eq_true rfl, Nat.le_of_ble_eq_true rfl⟩ ⟨by dsimp only [Rm]; omega, by dsimp only [Rm]; omega⟩ (app_at (cwG (κ := κ) (a := a) (r := r) (q := q) (f := f) (i := i1) (by omega))) rfl rfl rfl hl.1 rfl (Nat.le_of_ble_eq_true rfl) dX5_text_68 (fun o w' H locs hp hB => ?_)
                  obtain ⟨_, ⟨x532, rfl, rfl⟩, hw9⟩ := hp
                  replace hB : Bd κ A s (bA κ Pb_41 Pn_41 bs_41 :: (q4, .inr (1, [.ref Pb_41, .int 0, .int 0, .int (nI Pc_41)])) :: cw κ a r q f) H locs := by rw [hw9] at hB; exact Bd_comm (w1 := cw κ a r q f) (w2 := [bA κ Pb_41 Pn_41 bs_41, (q4, .inr (1, [.ref Pb_41, .int 0, .int 0, .int (nI Pc_41)]))]) hB
                  refine W.eq (g2 := F0 m 71 ls [.long x532, .ref q4]) rfl ?_
                  refine lv_l2i hx hb dX5_text_71 rfl ?_
                  refine call_V (n := 1) (k0 := 1) (As := [.int ((x532).toInt32)]) (rest := []) hX hB (k_J4_append_bf812 κ l (cw κ a r q f) q4 Pb_41 Pn_41 Pc_41 0 bs_41 ((x532).toInt32) (by omega) (by omega) hfb41 (by omega) (by omega)) ⟨rfl, by decide, by decide, by decide +kernel⟩ wm_4_112 wm_4_113 wm_4_114 wm_1_18 wm_4_115 ⟨Nat.le_of_ble_eq_true rfl, Nat.le_of_ble_eq_true rfl⟩ ⟨by dsimp only [Rm]; omega, by dsimp only [Rm]; omega⟩ rfl rfl rfl rfl hl.1 rfl (Nat.le_of_ble_eq_true rfl) dX5_text_72 (fun o w' H locs hp hB => ?_)
                  obtain ⟨q533, n534, F535, c536, rfl, hf537, hf538, hw9⟩ := hp
                  replace hB : Bd κ A s (bA κ q533 n534 F535 :: (q4, .inr (1, [.ref q533, .int 0, .int 0, .int (nI c536)])) :: cw κ a r q f) H locs := by rw [hw9] at hB; exact hB
                  refine W.eq (g2 := F0 m 75 ls [.ref q4]) rfl ?_
                  refine lv_pop hx hb dX5_text_75 rfl ?_
                  refine lv_iinc (v := nI (y5_41 + 1)) (lv' := [(5, .int (nI (y5_41 + 1))), (4, .int (nI y4_17)), (3, .ref q4), (2, .ref (a (6 + 2 * i1))), (0, .ref (a 0)), (1, .int p0)]) hx hb dX5_text_76 hl (k := 0) rfl (nI_add y5_41 1) (by decide) rfl (fun ls hl => ?_)
                  refine lv_goto (tgt := 41) hx hb dX5_text_79 (by decide) ?_
                  refine W.widen (k := 4 + y4_17 * 11 + (y5_41 + 1) * 2) (n := 1830 + y4_17 * 9020 + (y5_41 + 1) * 1640) (by omega) (by omega) ?_
                  exact ih41 (y5_41 + 1) q533 c536 n534 F535 _ _ (by omega) (⟨by omega, by omega, by omega, by omega⟩) hf538 (by omega) hB _ hl
                · replace c531 : ¬ nI y5_41 ≤ nI 0 := c531
                  rw [nleP (by omega) (by omega)] at c531
                  refine lv_aload_n hx hb dX5_text_55 rfl (lv_at hl 2 rfl) ?_
                  refine lv_bipush (v := 32) hx hb dX5_text_56 (by decide) ?_
                  refine call_V (n := 1) (k0 := 1) (As := [.int 32]) (rest := []) hX hB (k_J4_append_cf468 κ l (cw κ a r q f) q4 Pb_41 Pn_41 Pc_41 0 bs_41 32 32 (by omega) (by omega) hfb41 rfl (by omega) (by omega) (by omega)) ⟨rfl, by decide, by decide, by decide +kernel⟩ wm_4_21 wm_4_22 wm_4_23 wm_1_18 wm_4_24 ⟨Nat.le_of_ble_eq_true rfl, Nat.le_of_ble_eq_true rfl⟩ ⟨by dsimp only [Rm]; omega, by dsimp only [Rm]; omega⟩ rfl rfl rfl rfl hl.1 rfl (Nat.le_of_ble_eq_true rfl) dX5_text_58 (fun o w' H locs hp hB => ?_)
                  obtain ⟨q539, n540, F541, rfl, hf542, hf543, hw9⟩ := hp
                  replace hB : Bd κ A s (bA κ q539 n540 F541 :: (q4, .inr (1, [.ref q539, .int 0, .int 0, .int (nI (Pc_41 + 1))])) :: cw κ a r q f) H locs := by rw [hw9] at hB; exact hB
                  refine W.eq (g2 := F0 m 61 ls [.ref q4]) rfl ?_
                  refine lv_pop hx hb dX5_text_61 rfl ?_
                  refine lv_aload_n hx hb dX5_text_62 rfl (lv_at hl 2 rfl) ?_
                  refine lv_aload_n hx hb dX5_text_63 rfl (lv_at hl 3 rfl) ?_
                  refine lv_iload hx hb dX5_text_64 (lv_at hl 1 rfl) ?_
                  refine lv_iload hx hb dX5_text_66 (lv_at hl 0 rfl) ?_
                  replace hB : Bd κ A s (cw κ a r q f ++ [bA κ q539 n540 F541, (q4, .inr (1, [.ref q539, .int 0, .int 0, .int (nI (Pc_41 + 1))]))]) H locs := Bd_comm (w1 := [bA κ q539 n540 F541, (q4, .inr (1, [.ref q539, .int 0, .int 0, .int (nI (Pc_41 + 1))]))]) (w2 := cw κ a r q f) hB
                  refine call_V (n := 2) (k0 := (6 + 2 * i1)) (As := [.int (nI y4_17), .int (nI y5_41)]) (rest := [.ref q4]) hX hB (CM_frame [bA κ q539 n540 F541, (q4, .inr (1, [.ref q539, .int 0, .int 0, .int (nI (Pc_41 + 1))]))] (o_X3_get κ l a r q f i1 (nI y4_17) (nI y5_41) (by omega))) ⟨rfl, by decide, by decide, by decide +kernel⟩ wm_2_123 wm_1_187 wm_1_188 wm_1_2 wm_1_189 ⟨Nat.le_of_ble_eq_true rfl, Nat.le_of_ble_eq_true rfl⟩ ⟨by dsimp only [Rm]; omega, by dsimp only [Rm]; omega⟩ (app_at (cwG (κ := κ) (a := a) (r := r) (q := q) (f := f) (i := i1) (by omega))) rfl rfl rfl hl.1 rfl (Nat.le_of_ble_eq_true rfl) dX5_text_68 (fun o w' H locs hp hB => ?_)
                  obtain ⟨_, ⟨x544, rfl, rfl⟩, hw9⟩ := hp
                  replace hB : Bd κ A s (bA κ q539 n540 F541 :: (q4, .inr (1, [.ref q539, .int 0, .int 0, .int (nI (Pc_41 + 1))])) :: cw κ a r q f) H locs := by rw [hw9] at hB; exact Bd_comm (w1 := cw κ a r q f) (w2 := [bA κ q539 n540 F541, (q4, .inr (1, [.ref q539, .int 0, .int 0, .int (nI (Pc_41 + 1))]))]) hB
                  refine W.eq (g2 := F0 m 71 ls [.long x544, .ref q4]) rfl ?_
                  refine lv_l2i hx hb dX5_text_71 rfl ?_
                  refine call_V (n := 1) (k0 := 1) (As := [.int ((x544).toInt32)]) (rest := []) hX hB (k_J4_append_bf812 κ l (cw κ a r q f) q4 q539 n540 (Pc_41 + 1) 0 F541 ((x544).toInt32) (by omega) (by omega) hf543 (by omega) (by omega)) ⟨rfl, by decide, by decide, by decide +kernel⟩ wm_4_112 wm_4_113 wm_4_114 wm_1_18 wm_4_115 ⟨Nat.le_of_ble_eq_true rfl, Nat.le_of_ble_eq_true rfl⟩ ⟨by dsimp only [Rm]; omega, by dsimp only [Rm]; omega⟩ rfl rfl rfl rfl hl.1 rfl (Nat.le_of_ble_eq_true rfl) dX5_text_72 (fun o w' H locs hp hB => ?_)
                  obtain ⟨q545, n546, F547, c548, rfl, hf549, hf550, hw9⟩ := hp
                  replace hB : Bd κ A s (bA κ q545 n546 F547 :: (q4, .inr (1, [.ref q545, .int 0, .int 0, .int (nI c548)])) :: cw κ a r q f) H locs := by rw [hw9] at hB; exact hB
                  refine W.eq (g2 := F0 m 75 ls [.ref q4]) rfl ?_
                  refine lv_pop hx hb dX5_text_75 rfl ?_
                  refine lv_iinc (v := nI (y5_41 + 1)) (lv' := [(5, .int (nI (y5_41 + 1))), (4, .int (nI y4_17)), (3, .ref q4), (2, .ref (a (6 + 2 * i1))), (0, .ref (a 0)), (1, .int p0)]) hx hb dX5_text_76 hl (k := 0) rfl (nI_add y5_41 1) (by decide) rfl (fun ls hl => ?_)
                  refine lv_goto (tgt := 41) hx hb dX5_text_79 (by decide) ?_
                  refine W.widen (k := 4 + y4_17 * 11 + (y5_41 + 1) * 2) (n := 1830 + y4_17 * 9020 + (y5_41 + 1) * 1640) (by omega) (by omega) ?_
                  exact ih41 (y5_41 + 1) q545 c548 n546 F547 _ _ (by omega) (⟨by omega, by omega, by omega, by omega⟩) hf550 (by omega) hB _ hl
          refine W.widen (k := 4 + y4_17 * 11 + 0 * 2) (n := 1830 + y4_17 * 9020 + 0 * 1640) (by omega) (by omega) ?_
          exact lp41 _ 0 q495 (Pc_17 + 1) n496 F497 _ _ (by omega) (⟨by omega, by omega, by omega, by omega⟩) hf499 (Nat.lt_succ_self _) hB _ hl
  refine W.widen (k := 3 + 0 * 11) (n := 1010 + 0 * 9020) (by omega) (by omega) ?_
  exact lp17 _ 0 b5 0 16 (fun _ => 0) _ _ (by omega) (⟨by omega, by omega, by omega, by omega⟩) sb_fit0 (Nat.lt_succ_self _) hB _ hl
set_option maxHeartbeats 4000000 in
set_option maxRecDepth 100000 in
theorem k_X5_rest (κ : Kt) (l : Launch) (hst : l.stackTraces = false) (a : Nat → Nat) (r q : Nat → Int32) (f : Nat → Nat → Int64) (p0 : Int32) (p1 : Int32) (hok : okr r) : CX κ l yX5_rest cX5_rest 9 (some (.object "java/lang/String")) 7 186 17 10226 [.ref (a 0), .int p0, .int p1] (cw κ a r q f) (fun o w' => ∃ q1 : Nat, ∃ (r' q' : Nat → Int32) (f' : Nat → Nat → Int64), o = some (.ref q1) ∧ (okr r → okr r') ∧ q' 4 = q 4 ∧ Ks r q f r' q' f' ∧ w' = cw κ a r' q' f') (fun E w' => E ∈ (["java/lang/IndexOutOfBoundsException", "java/lang/IllegalStateException", "java/lang/IllegalArgumentException"] : List String) ∧ ∃ (r' q' : Nat → Int32) (f' : Nat → Nat → Int64), (okr r → okr r') ∧ q' 4 = q 4 ∧ Ks r q f r' q' f' ∧ w' = cw κ a r' q' f') := by
  refine CX_begin (by decide) (Nat.le_of_ble_eq_true rfl) ?_
  intro p e s m args below meth c A Q hX hne hA3 hQ hB ls hl
  have hx := hX.1.1
  have hb := hX.1.2.1
  have hl : lv_has ls 9 [(0, .ref (a 0)), (1, .int p0), (2, .int p1)] := hl
  refine lv_aload_n hx hb dX5_rest_0 rfl (lv_at hl 0 rfl) ?_
  refine lv_iload_n hx hb dX5_rest_1 rfl (lv_at hl 1 rfl) ?_
  refine CX_after2 hX hB (run_XV (n := 1) (k0 := 0) (As := [.int p0]) (rest := []) hX hB (o_X5_needTable κ l hst a r q f p0) ⟨rfl, by decide, by decide, by decide +kernel⟩ wm_2_165 wm_2_167 wp_17 wm_1_1 wm_2_168 ⟨Nat.le_of_ble_eq_true rfl, Nat.le_of_ble_eq_true rfl⟩ ⟨Nat.le_of_ble_eq_true rfl, Nat.le_of_ble_eq_true rfl⟩ cw0 rfl rfl rfl hl.1 rfl (Nat.le_of_ble_eq_true rfl) dX5_rest_2) (fun E ce q9 w' H locs hp hB hce hcv hcl => ?_) (fun o w' H locs hp hB => ?_)
  · obtain ⟨hE3, rfl⟩ := hp
    rw [← hQ]
    exact thrown_on hX hne hB hA3 hce hcv hcl ⟨((by decide : ∀ x ∈ (["java/lang/IndexOutOfBoundsException"] : List String), x ∈ (["java/lang/IndexOutOfBoundsException", "java/lang/IllegalStateException", "java/lang/IllegalArgumentException"] : List String)) _ hE3), r, q, f, (fun h => h), rfl, Ks_rf, rfl⟩ (Nat.le_of_ble_eq_true rfl) (Nat.le_of_ble_eq_true rfl)
  obtain ⟨i1, hi2, rfl, hw9⟩ := hp
  replace hB : Bd κ A s (cw κ a r q f) H locs := by rw [hw9] at hB; exact hB
  obtain ⟨RR, hRR, hRR1, hRR4⟩ := okr_R ((fun h => h) hok) (i := i1) (by omega)
  obtain ⟨CC, hCC, hCC1, hCC5⟩ := okr_C ((fun h => h) hok) (i := i1) (by omega)
  refine W.eq (g2 := F0 m 5 ls [.ref (a (6 + 2 * i1))]) rfl ?_
  refine lv_astore_n (lv' := [(3, .ref (a (6 + 2 * i1))), (0, .ref (a 0)), (1, .int p0), (2, .int p1)]) hx hb dX5_rest_5 rfl hl (by decide) rfl (fun ls hl => ?_)
  refine lv_aload_n hx hb dX5_rest_6 rfl (lv_at hl 1 rfl) ?_
  refine lv_aload_n hx hb dX5_rest_7 rfl (lv_at hl 0 rfl) ?_
  refine call_V (n := 1) (k0 := 0) (As := [.ref (a (6 + 2 * i1))]) (rest := []) hX hB (o_X5_leavesRests κ l a r q f i1 (by omega)) ⟨rfl, by decide, by decide, by decide +kernel⟩ wm_5_105 wm_5_107 wp_24 wm_1_1 wm_5_108 ⟨Nat.le_of_ble_eq_true rfl, Nat.le_of_ble_eq_true rfl⟩ ⟨Nat.le_of_ble_eq_true rfl, Nat.le_of_ble_eq_true rfl⟩ cw0 rfl rfl rfl hl.1 rfl (Nat.le_of_ble_eq_true rfl) dX5_rest_8 (fun o w' H locs hp hB => ?_)
  obtain ⟨x4, r5, q6, f7, rfl, bx4, ho8, hq9, hk10, hw9⟩ := hp
  replace hB : Bd κ A s (cw κ a r5 q6 f7) H locs := by rw [hw9] at hB; exact hB
  obtain ⟨RR, hRR, hRR1, hRR4⟩ := okr_R ((fun h => ho8 ((fun h => h) h)) hok) (i := i1) (by omega)
  obtain ⟨CC, hCC, hCC1, hCC5⟩ := okr_C ((fun h => ho8 ((fun h => h) h)) hok) (i := i1) (by omega)
  refine W.eq (g2 := F0 m 11 ls [.int x4]) rfl ?_
  refine CX_after2 hX hB (run_XS (n := 1) (As := [.int x4]) (rest := []) hX hB (o_X5_needState κ l hst a r5 q6 f7 x4) ⟨by decide, by decide, by decide +kernel⟩ wm_5_26 wm_5_27 wm_1_1 wm_5_28 ⟨Nat.le_of_ble_eq_true rfl, Nat.le_of_ble_eq_true rfl⟩ ⟨Nat.le_of_ble_eq_true rfl, Nat.le_of_ble_eq_true rfl⟩ rfl hl.1 rfl (Nat.le_of_ble_eq_true rfl) dX5_rest_11) (fun E ce q9 w' H locs hp hB hce hcv hcl => ?_) (fun o w' H locs hp hB => ?_)
  · obtain ⟨hE11, rfl⟩ := hp
    rw [← hQ]
    exact thrown_on hX hne hB hA3 hce hcv hcl ⟨((by decide : ∀ x ∈ (["java/lang/IllegalStateException"] : List String), x ∈ (["java/lang/IndexOutOfBoundsException", "java/lang/IllegalStateException", "java/lang/IllegalArgumentException"] : List String)) _ hE11), r5, q6, f7, (fun h => ho8 ((fun h => h) h)), (hq9.trans rfl), (Ks_tr hk10 Ks_rf), rfl⟩ (Nat.le_of_ble_eq_true rfl) (Nat.le_of_ble_eq_true rfl)
  obtain ⟨rfl, hw9⟩ := hp
  replace hB : Bd κ A s (cw κ a r5 q6 f7) H locs := by rw [hw9] at hB; exact hB
  refine W.eq (g2 := F0 m 14 ls []) rfl ?_
  refine lv_iload_n hx hb dX5_rest_14 rfl (lv_at hl 3 rfl) ?_
  refine lv_i2l hx hb dX5_rest_15 rfl ?_
  refine lv_lstore (lv' := [(4, .long ((p1).toInt64)), (3, .ref (a (6 + 2 * i1))), (0, .ref (a 0)), (1, .int p0), (2, .int p1)]) hx hb dX5_rest_16 hl (by decide) rfl (fun ls hl => ?_)
  refine lv_aload_n hx hb dX5_rest_18 rfl (lv_at hl 1 rfl) ?_
  refine gfN (k0 := 6 + 2 * i1) hX hB (cwGn (a := a) (r := r5) (q := q6) (f := f7) (i := i1) (by omega) hRR hCC) rfl in3 2 (by decide) wn_1_57 rfl rfl dX5_rest_19 ?_
  refine lv_iconst (v := 1) hx hb dX5_rest_22 (by decide) ?_
  refine lv_isub hx hb dX5_rest_23 ?_
  refine eqi (y := nI (CC - 1)) (nI_sub (a := CC) (b := 1) (by omega)) ?_
  refine lv_istore (lv' := [(6, .int (nI (CC - 1))), (4, .long ((p1).toInt64)), (3, .ref (a (6 + 2 * i1))), (0, .ref (a 0)), (1, .int p0), (2, .int p1)]) hx hb dX5_rest_24 hl (by decide) rfl (fun ls hl => ?_)
  have lp26 : ∀ (nn : Nat) (y6_26 : Int32) (y4_26 : Int64) (f_26 : Nat → Nat → Int64) (H : Heap) (locs : List Loc), (Ks r q f r5 q6 f_26) → gapd y6_26 < nn → Bd κ A s (cw κ a r5 q6 f_26) H locs → ∀ ls : Array Slot, lv_has ls 9 [(6, .int y6_26), (4, .long y4_26), (3, .ref (a (6 + 2 * i1))), (0, .ref (a 0)), (1, .int p0), (2, .int p1)] → W p l e (Rm 7 186 17 10226) s m args below meth c H locs (2) (12) Q (F0 m 26 ls []) := by
    intro nn
    induction nn with
    | zero => intro y6_26 y4_26 f_26 H locs hks26 hμ; exact absurd hμ (Nat.not_lt_zero _)
    | succ nn ih26 =>
      intro y6_26 y4_26 f_26 H locs hks26 hμ26 hB ls hl
      refine lv_iload hx hb dX5_rest_26 (lv_at hl 0 rfl) ?_
      refine lv_if_lt (tgt := 75) hx hb dX5_rest_28 (by decide) (fun c148 => ?_) (fun c148 => ?_)
      · refine lv_iload_n hx hb dX5_rest_75 rfl (lv_at hl 5 rfl) ?_
        have jn91 : ∀ (z0_91 : Int32) (H : Heap) (locs : List Loc), (z0_91 = 0 ∨ z0_91 = 1) → Bd κ A s (cw κ a r5 q6 f_26) H locs → ∀ ls : Array Slot, lv_has ls 9 [(6, .int y6_26), (4, .long y4_26), (3, .ref (a (6 + 2 * i1))), (0, .ref (a 0)), (1, .int p0), (2, .int p1)] → W p l e (Rm 7 186 17 10226) s m args below meth c H locs (2) (12) Q (F0 m 91 ls [.int z0_91]) := by
          intro z0_91 H locs hz0_91 hB ls hl
          refine CX_after2 hX hB (run_XS (n := 1) (As := [.int z0_91]) (rest := []) hX hB (o_X5_needArgument κ l hst a r5 q6 f_26 z0_91) ⟨by decide, by decide, by decide +kernel⟩ wm_3_0 wm_3_1 wm_1_1 wm_3_2 ⟨Nat.le_of_ble_eq_true rfl, Nat.le_of_ble_eq_true rfl⟩ ⟨Nat.le_of_ble_eq_true rfl, Nat.le_of_ble_eq_true rfl⟩ rfl hl.1 rfl (Nat.le_of_ble_eq_true rfl) dX5_rest_91) (fun E ce q9 w' H locs hp hB hce hcv hcl => ?_) (fun o w' H locs hp hB => ?_)
          · obtain ⟨hE151, rfl⟩ := hp
            rw [← hQ]
            exact thrown_on hX hne hB hA3 hce hcv hcl ⟨((by decide : ∀ x ∈ (["java/lang/IllegalArgumentException"] : List String), x ∈ (["java/lang/IndexOutOfBoundsException", "java/lang/IllegalStateException", "java/lang/IllegalArgumentException"] : List String)) _ hE151), r5, q6, f_26, (fun h => ho8 ((fun h => h) h)), (hq9.trans rfl), hks26, rfl⟩ (Nat.le_of_ble_eq_true rfl) (Nat.le_of_ble_eq_true rfl)
          obtain ⟨rfl, hw9⟩ := hp
          replace hB : Bd κ A s (cw κ a r5 q6 f_26) H locs := by rw [hw9] at hB; exact hB
          refine W.eq (g2 := F0 m 94 ls []) rfl ?_
          refine newO (fs := [.null, .int 0, .int 0, .int 0]) hX hB (ci := 1) rfl inJ4 tyJ4_ok wm_3_230 wm_3_231 wm_1_18 df1 (Nat.le_of_ble_eq_true rfl) (Nat.le_of_ble_eq_true rfl) dX5_rest_94 (fun q152 H hB => ?_)
          refine lv_dup hx hb dX5_rest_97 rfl ?_
          refine call_I (n := 0) (As := []) (rest := [.ref q152]) hX hB (k_J4_init_da8c8 κ l (cw κ a r5 q6 f_26) q152 ) ⟨by decide, by decide, by decide +kernel⟩ rfl wm_3_232 wm_3_233 wm_1_18 wm_3_234 ⟨Nat.le_of_ble_eq_true rfl, Nat.le_of_ble_eq_true rfl⟩ ⟨Nat.le_of_ble_eq_true rfl, Nat.le_of_ble_eq_true rfl⟩ rfl hl.1 rfl (Nat.le_of_ble_eq_true rfl) dX5_rest_98 (fun o w' H locs hp hB => ?_)
          obtain ⟨b153, rfl, hw9⟩ := hp
          replace hB : Bd κ A s (bA κ b153 16 (fun _ => 0) :: (q152, .inr (1, [.ref b153, .int 0, .int 0, .int (nI 0)])) :: cw κ a r5 q6 f_26) H locs := by rw [hw9] at hB; exact hB
          refine W.eq (g2 := F0 m 101 ls [.ref q152]) rfl ?_
          refine lv_astore (lv' := [(6, .ref q152), (4, .long y4_26), (3, .ref (a (6 + 2 * i1))), (0, .ref (a 0)), (1, .int p0), (2, .int p1)]) hx hb dX5_rest_101 hl (by decide) rfl (fun ls hl => ?_)
          refine lv_iconst (v := 0) hx hb dX5_rest_103 (by decide) ?_
          refine lv_istore (lv' := [(7, .int 0), (6, .ref q152), (4, .long y4_26), (3, .ref (a (6 + 2 * i1))), (0, .ref (a 0)), (1, .int p0), (2, .int p1)]) hx hb dX5_rest_104 hl (by decide) rfl (fun ls hl => ?_)
          have lp106 : ∀ (nn : Nat) (y7_106 : Nat) (Pb_106 : Nat) (Pc_106 : Nat) (Pn_106 : Nat) (bs_106 : Nat → Int32) (H : Heap) (locs : List Loc), (y7_106 ≤ CC) → (Pc_106 ≤ Pn_106 ∧ Pn_106 ≤ 1000 ∧ Pn_106 ≤ 2 * Pc_106 + 16 ∧ Pc_106 ≤ y7_106 * 12) → (sb_Fit bs_106) → CC + 1 - y7_106 < nn → Bd κ A s (bA κ Pb_106 Pn_106 bs_106 :: (q152, .inr (1, [.ref Pb_106, .int 0, .int 0, .int (nI Pc_106)])) :: cw κ a r5 q6 f_26) H locs → ∀ ls : Array Slot, lv_has ls 9 [(7, .int (nI y7_106)), (6, .ref q152), (4, .long y4_26), (3, .ref (a (6 + 2 * i1))), (0, .ref (a 0)), (1, .int p0), (2, .int p1)] → W p l e (Rm 7 186 17 10226) s m args below meth c H locs (5 + y7_106 * 2) (1022 + y7_106 * 1640) Q (F0 m 106 ls []) := by
            intro nn
            induction nn with
            | zero => intro y7_106 Pb_106 Pc_106 Pn_106 bs_106 H locs hn7_106 hsb106 hfb106 hμ; exact absurd hμ (Nat.not_lt_zero _)
            | succ nn ih106 =>
              intro y7_106 Pb_106 Pc_106 Pn_106 bs_106 H locs hn7_106 hsb106 hfb106 hμ106 hB ls hl
              refine lv_iload hx hb dX5_rest_106 (lv_at hl 0 rfl) ?_
              refine lv_aload_n hx hb dX5_rest_108 rfl (lv_at hl 3 rfl) ?_
              refine gfN (k0 := 6 + 2 * i1 + 2) hX hB (cwGn (a := a) (r := r5) (q := q6) (f := f_26) (i := i1) (by omega) hRR hCC) rfl in3 2 (by decide) wn_1_57 rfl rfl dX5_rest_109 ?_
              refine lv_icmp_ge (tgt := 147) hx hb dX5_rest_112 (by decide) (fun c237 => ?_) (fun c237 => ?_)
              · rw [nleP (a := CC) (b := y7_106) (by omega) (by omega)] at c237
                refine W.widen (k := 15) (n := 9222) (by omega) (by omega) ?_
                refine lv_aload hx hb dX5_rest_147 (lv_at hl 1 rfl) ?_
                refine call_V (n := 0) (k0 := 1) (As := []) (rest := []) hX hB (k_J4_toString_0e30d κ l (cw κ a r5 q6 f_26) q152 Pb_106 Pn_106 Pc_106 0 bs_106 (by omega) (by omega) hfb106) ⟨rfl, by decide, by decide, by decide +kernel⟩ wm_4_146 wm_4_147 wm_4_148 wm_1_18 wm_4_149 ⟨Nat.le_of_ble_eq_true rfl, Nat.le_of_ble_eq_true rfl⟩ ⟨Nat.le_of_ble_eq_true rfl, Nat.le_of_ble_eq_true rfl⟩ rfl rfl rfl rfl hl.1 rfl (Nat.le_of_ble_eq_true rfl) dX5_rest_149 (fun o w' H locs hp hB => ?_)
                obtain ⟨q238, rfl, hw9⟩ := hp
                replace hB : Bd κ A s (bA κ Pb_106 Pn_106 bs_106 :: (q152, .inr (1, [.ref Pb_106, .int 0, .int 0, .int (nI Pc_106)])) :: cw κ a r5 q6 f_26) H locs := by rw [hw9] at hB; exact hB
                refine W.eq (g2 := F0 m 152 ls [.ref q238]) rfl ?_
                replace hB : Bd κ A s (cw κ a r5 q6 f_26) H locs := Bd_tail (Bd_tail hB)
                rw [← hQ]
                exact vx_ret ( end_a hX hB hA3 rfl (Or.inr ⟨_, rfl⟩) ⟨q238, r5, q6, f_26, rfl, (fun h => ho8 ((fun h => h) h)), (hq9.trans rfl), hks26, rfl⟩ (Nat.le_of_ble_eq_true rfl) (Nat.le_of_ble_eq_true rfl) dX5_rest_152)
              · rw [nleP (a := CC) (b := y7_106) (by omega) (by omega)] at c237
                refine lv_iload hx hb dX5_rest_115 (lv_at hl 0 rfl) ?_
                refine lv_if_le (tgt := 128) hx hb dX5_rest_117 (by decide) (fun c239 => ?_) (fun c239 => ?_)
                · replace c239 : nI y7_106 ≤ nI 0 := c239
                  rw [nleP (by omega) (by omega)] at c239
                  refine lv_aload hx hb dX5_rest_128 (lv_at hl 1 rfl) ?_
                  refine lv_aload_n hx hb dX5_rest_130 rfl (lv_at hl 4 rfl) ?_
                  refine lv_iload hx hb dX5_rest_131 (lv_at hl 0 rfl) ?_
                  replace hB : Bd κ A s (cw κ a r5 q6 f_26 ++ [bA κ Pb_106 Pn_106 bs_106, (q152, .inr (1, [.ref Pb_106, .int 0, .int 0, .int (nI Pc_106)]))]) H locs := Bd_comm (w1 := [bA κ Pb_106 Pn_106 bs_106, (q152, .inr (1, [.ref Pb_106, .int 0, .int 0, .int (nI Pc_106)]))]) (w2 := cw κ a r5 q6 f_26) hB
                  refine call_V (n := 1) (k0 := 0) (As := [.int (nI y7_106)]) (rest := [.ref q152]) hX hB (CM_frame [bA κ Pb_106 Pn_106 bs_106, (q152, .inr (1, [.ref Pb_106, .int 0, .int 0, .int (nI Pc_106)]))] (o_X5_rowNumber κ l a r5 q6 f_26 (nI y7_106))) ⟨rfl, by decide, by decide, by decide +kernel⟩ wm_5_114 wm_5_116 wp_26 wm_1_1 wm_5_117 ⟨Nat.le_of_ble_eq_true rfl, Nat.le_of_ble_eq_true rfl⟩ ⟨by dsimp only [Rm]; omega, by dsimp only [Rm]; omega⟩ (app_at (cw0 (κ := κ) (a := a) (r := r5) (q := q6) (f := f_26))) rfl rfl rfl hl.1 rfl (Nat.le_of_ble_eq_true rfl) dX5_rest_133 (fun o w' H locs hp hB => ?_)
                  obtain ⟨_, ⟨x240, rfl, rfl⟩, hw9⟩ := hp
                  replace hB : Bd κ A s (bA κ Pb_106 Pn_106 bs_106 :: (q152, .inr (1, [.ref Pb_106, .int 0, .int 0, .int (nI Pc_106)])) :: cw κ a r5 q6 f_26) H locs := by rw [hw9] at hB; exact Bd_comm (w1 := cw κ a r5 q6 f_26) (w2 := [bA κ Pb_106 Pn_106 bs_106, (q152, .inr (1, [.ref Pb_106, .int 0, .int 0, .int (nI Pc_106)]))]) hB
                  refine W.eq (g2 := F0 m 136 ls [.long x240, .ref q152]) rfl ?_
                  refine lv_l2i hx hb dX5_rest_136 rfl ?_
                  refine call_V (n := 1) (k0 := 1) (As := [.int ((x240).toInt32)]) (rest := []) hX hB (k_J4_append_bf812 κ l (cw κ a r5 q6 f_26) q152 Pb_106 Pn_106 Pc_106 0 bs_106 ((x240).toInt32) (by omega) (by omega) hfb106 (by omega) (by omega)) ⟨rfl, by decide, by decide, by decide +kernel⟩ wm_4_112 wm_4_113 wm_4_114 wm_1_18 wm_4_115 ⟨Nat.le_of_ble_eq_true rfl, Nat.le_of_ble_eq_true rfl⟩ ⟨by dsimp only [Rm]; omega, by dsimp only [Rm]; omega⟩ rfl rfl rfl rfl hl.1 rfl (Nat.le_of_ble_eq_true rfl) dX5_rest_137 (fun o w' H locs hp hB => ?_)
                  obtain ⟨q241, n242, F243, c244, rfl, hf245, hf246, hw9⟩ := hp
                  replace hB : Bd κ A s (bA κ q241 n242 F243 :: (q152, .inr (1, [.ref q241, .int 0, .int 0, .int (nI c244)])) :: cw κ a r5 q6 f_26) H locs := by rw [hw9] at hB; exact hB
                  refine W.eq (g2 := F0 m 140 ls [.ref q152]) rfl ?_
                  refine lv_pop hx hb dX5_rest_140 rfl ?_
                  refine lv_iinc (v := nI (y7_106 + 1)) (lv' := [(7, .int (nI (y7_106 + 1))), (6, .ref q152), (4, .long y4_26), (3, .ref (a (6 + 2 * i1))), (0, .ref (a 0)), (1, .int p0), (2, .int p1)]) hx hb dX5_rest_141 hl (k := 0) rfl (nI_add y7_106 1) (by decide) rfl (fun ls hl => ?_)
                  refine lv_goto (tgt := 106) hx hb dX5_rest_144 (by decide) ?_
                  refine W.widen (k := 5 + (y7_106 + 1) * 2) (n := 1022 + (y7_106 + 1) * 1640) (by omega) (by omega) ?_
                  exact ih106 (y7_106 + 1) q241 c244 n242 F243 _ _ (by omega) (⟨by omega, by omega, by omega, by omega⟩) hf246 (by omega) hB _ hl
                · replace c239 : ¬ nI y7_106 ≤ nI 0 := c239
                  rw [nleP (by omega) (by omega)] at c239
                  refine lv_aload hx hb dX5_rest_120 (lv_at hl 1 rfl) ?_
                  refine lv_bipush (v := 32) hx hb dX5_rest_122 (by decide) ?_
                  refine call_V (n := 1) (k0 := 1) (As := [.int 32]) (rest := []) hX hB (k_J4_append_cf468 κ l (cw κ a r5 q6 f_26) q152 Pb_106 Pn_106 Pc_106 0 bs_106 32 32 (by omega) (by omega) hfb106 rfl (by omega) (by omega) (by omega)) ⟨rfl, by decide, by decide, by decide +kernel⟩ wm_4_21 wm_4_22 wm_4_23 wm_1_18 wm_4_24 ⟨Nat.le_of_ble_eq_true rfl, Nat.le_of_ble_eq_true rfl⟩ ⟨by dsimp only [Rm]; omega, by dsimp only [Rm]; omega⟩ rfl rfl rfl rfl hl.1 rfl (Nat.le_of_ble_eq_true rfl) dX5_rest_124 (fun o w' H locs hp hB => ?_)
                  obtain ⟨q247, n248, F249, rfl, hf250, hf251, hw9⟩ := hp
                  replace hB : Bd κ A s (bA κ q247 n248 F249 :: (q152, .inr (1, [.ref q247, .int 0, .int 0, .int (nI (Pc_106 + 1))])) :: cw κ a r5 q6 f_26) H locs := by rw [hw9] at hB; exact hB
                  refine W.eq (g2 := F0 m 127 ls [.ref q152]) rfl ?_
                  refine lv_pop hx hb dX5_rest_127 rfl ?_
                  refine lv_aload hx hb dX5_rest_128 (lv_at hl 1 rfl) ?_
                  refine lv_aload_n hx hb dX5_rest_130 rfl (lv_at hl 4 rfl) ?_
                  refine lv_iload hx hb dX5_rest_131 (lv_at hl 0 rfl) ?_
                  replace hB : Bd κ A s (cw κ a r5 q6 f_26 ++ [bA κ q247 n248 F249, (q152, .inr (1, [.ref q247, .int 0, .int 0, .int (nI (Pc_106 + 1))]))]) H locs := Bd_comm (w1 := [bA κ q247 n248 F249, (q152, .inr (1, [.ref q247, .int 0, .int 0, .int (nI (Pc_106 + 1))]))]) (w2 := cw κ a r5 q6 f_26) hB
                  refine call_V (n := 1) (k0 := 0) (As := [.int (nI y7_106)]) (rest := [.ref q152]) hX hB (CM_frame [bA κ q247 n248 F249, (q152, .inr (1, [.ref q247, .int 0, .int 0, .int (nI (Pc_106 + 1))]))] (o_X5_rowNumber κ l a r5 q6 f_26 (nI y7_106))) ⟨rfl, by decide, by decide, by decide +kernel⟩ wm_5_114 wm_5_116 wp_26 wm_1_1 wm_5_117 ⟨Nat.le_of_ble_eq_true rfl, Nat.le_of_ble_eq_true rfl⟩ ⟨by dsimp only [Rm]; omega, by dsimp only [Rm]; omega⟩ (app_at (cw0 (κ := κ) (a := a) (r := r5) (q := q6) (f := f_26))) rfl rfl rfl hl.1 rfl (Nat.le_of_ble_eq_true rfl) dX5_rest_133 (fun o w' H locs hp hB => ?_)
                  obtain ⟨_, ⟨x252, rfl, rfl⟩, hw9⟩ := hp
                  replace hB : Bd κ A s (bA κ q247 n248 F249 :: (q152, .inr (1, [.ref q247, .int 0, .int 0, .int (nI (Pc_106 + 1))])) :: cw κ a r5 q6 f_26) H locs := by rw [hw9] at hB; exact Bd_comm (w1 := cw κ a r5 q6 f_26) (w2 := [bA κ q247 n248 F249, (q152, .inr (1, [.ref q247, .int 0, .int 0, .int (nI (Pc_106 + 1))]))]) hB
                  refine W.eq (g2 := F0 m 136 ls [.long x252, .ref q152]) rfl ?_
                  refine lv_l2i hx hb dX5_rest_136 rfl ?_
                  refine call_V (n := 1) (k0 := 1) (As := [.int ((x252).toInt32)]) (rest := []) hX hB (k_J4_append_bf812 κ l (cw κ a r5 q6 f_26) q152 q247 n248 (Pc_106 + 1) 0 F249 ((x252).toInt32) (by omega) (by omega) hf251 (by omega) (by omega)) ⟨rfl, by decide, by decide, by decide +kernel⟩ wm_4_112 wm_4_113 wm_4_114 wm_1_18 wm_4_115 ⟨Nat.le_of_ble_eq_true rfl, Nat.le_of_ble_eq_true rfl⟩ ⟨by dsimp only [Rm]; omega, by dsimp only [Rm]; omega⟩ rfl rfl rfl rfl hl.1 rfl (Nat.le_of_ble_eq_true rfl) dX5_rest_137 (fun o w' H locs hp hB => ?_)
                  obtain ⟨q253, n254, F255, c256, rfl, hf257, hf258, hw9⟩ := hp
                  replace hB : Bd κ A s (bA κ q253 n254 F255 :: (q152, .inr (1, [.ref q253, .int 0, .int 0, .int (nI c256)])) :: cw κ a r5 q6 f_26) H locs := by rw [hw9] at hB; exact hB
                  refine W.eq (g2 := F0 m 140 ls [.ref q152]) rfl ?_
                  refine lv_pop hx hb dX5_rest_140 rfl ?_
                  refine lv_iinc (v := nI (y7_106 + 1)) (lv' := [(7, .int (nI (y7_106 + 1))), (6, .ref q152), (4, .long y4_26), (3, .ref (a (6 + 2 * i1))), (0, .ref (a 0)), (1, .int p0), (2, .int p1)]) hx hb dX5_rest_141 hl (k := 0) rfl (nI_add y7_106 1) (by decide) rfl (fun ls hl => ?_)
                  refine lv_goto (tgt := 106) hx hb dX5_rest_144 (by decide) ?_
                  refine W.widen (k := 5 + (y7_106 + 1) * 2) (n := 1022 + (y7_106 + 1) * 1640) (by omega) (by omega) ?_
                  exact ih106 (y7_106 + 1) q253 c256 n254 F255 _ _ (by omega) (⟨by omega, by omega, by omega, by omega⟩) hf258 (by omega) hB _ hl
          refine W.widen (k := 5 + 0 * 2) (n := 1022 + 0 * 1640) (by omega) (by omega) ?_
          exact lp106 _ 0 b153 0 16 (fun _ => 0) _ _ (by omega) (⟨by omega, by omega, by omega, by omega⟩) sb_fit0 (Nat.lt_succ_self _) hB _ hl
        refine lv_if_lt (tgt := 90) hx hb dX5_rest_76 (by decide) (fun c259 => ?_) (fun c259 => ?_)
        · refine lv_iconst (v := 0) hx hb dX5_rest_90 (by decide) ?_
          exact jn91 0 _ _ (Or.inl rfl) hB _ hl
        · refine lv_lload hx hb dX5_rest_79 (lv_at hl 1 rfl) ?_
          refine lv_lconst (v := 0) hx hb dX5_rest_81 (by decide) ?_
          refine W.lcmp hx hb dX5_rest_82 ?_
          refine lv_if_ne (tgt := 90) hx hb dX5_rest_83 (by decide) (fun c260 => ?_) (fun c260 => ?_)
          · refine lv_iconst (v := 0) hx hb dX5_rest_90 (by decide) ?_
            exact jn91 0 _ _ (Or.inl rfl) hB _ hl
          · refine lv_iconst (v := 1) hx hb dX5_rest_86 (by decide) ?_
            refine lv_goto (tgt := 91) hx hb dX5_rest_87 (by decide) ?_
            exact jn91 1 _ _ (Or.inr rfl) hB _ hl
      · refine lv_aload_n hx hb dX5_rest_31 rfl (lv_at hl 3 rfl) ?_
        refine gf (k0 := 0) hX hB (cw0 (a := a) (r := r5) (q := q6) (f := f_26)) rfl in5 3 (by decide) wm_1_140 rfl rfl dX5_rest_32 ?_
        refine gfN (k0 := 2) hX hB (cw2 (a := a) (r := r5) (q := q6) (f := f_26)) rfl in4 0 (by decide) wn_1_75 rfl rfl dX5_rest_35 ?_
        refine lv_iload hx hb dX5_rest_38 (lv_at hl 0 rfl) ?_
        refine lv_iload hx hb dX5_rest_40 (lv_at hl 0 rfl) ?_
        refine call_V (n := 2) (k0 := 18) (As := [.int y6_26, .int y6_26]) (rest := []) hX hB (o_X3_get κ l a r5 q6 f_26 6 y6_26 y6_26 (by decide)) ⟨rfl, by decide, by decide, by decide +kernel⟩ wm_2_123 wm_1_187 wm_1_188 wm_1_2 wm_1_189 ⟨Nat.le_of_ble_eq_true rfl, Nat.le_of_ble_eq_true rfl⟩ ⟨Nat.le_of_ble_eq_true rfl, Nat.le_of_ble_eq_true rfl⟩ (cwG (κ := κ) (a := a) (r := r5) (q := q6) (f := f_26) (i := 6) (by decide)) rfl rfl rfl hl.1 rfl (Nat.le_of_ble_eq_true rfl) dX5_rest_42 (fun o w' H locs hp hB => ?_)
        obtain ⟨x261, rfl, hw9⟩ := hp
        replace hB : Bd κ A s (cw κ a r5 q6 f_26) H locs := by rw [hw9] at hB; exact hB
        refine W.eq (g2 := F0 m 45 ls [.long x261]) rfl ?_
        refine lv_lstore (lv' := [(7, .long x261), (6, .int y6_26), (4, .long y4_26), (3, .ref (a (6 + 2 * i1))), (0, .ref (a 0)), (1, .int p0), (2, .int p1)]) hx hb dX5_rest_45 hl (by decide) rfl (fun ls hl => ?_)
        refine lv_aload_n hx hb dX5_rest_47 rfl (lv_at hl 4 rfl) ?_
        refine lv_iload hx hb dX5_rest_48 (lv_at hl 1 rfl) ?_
        refine lv_lload hx hb dX5_rest_50 (lv_at hl 2 rfl) ?_
        refine lv_lload hx hb dX5_rest_52 (lv_at hl 0 rfl) ?_
        refine call_S (n := 2) (As := [.long y4_26, .long x261]) (rest := [.int y6_26, .ref (a 0)]) hX hB (o_X5_remainder κ l (cw κ a r5 q6 f_26) y4_26 x261 ) ⟨by decide, by decide, by decide +kernel⟩ wm_3_61 wm_3_62 wm_1_1 wm_3_63 ⟨Nat.le_of_ble_eq_true rfl, Nat.le_of_ble_eq_true rfl⟩ ⟨Nat.le_of_ble_eq_true rfl, Nat.le_of_ble_eq_true rfl⟩ rfl hl.1 rfl (Nat.le_of_ble_eq_true rfl) dX5_rest_54 (fun o w' H locs hp hB => ?_)
        obtain ⟨x262, rfl, hw9⟩ := hp
        rw [hw9] at hB
        refine W.eq (g2 := F0 m 57 ls [.long x262, .int y6_26, .ref (a 0)]) rfl ?_
        refine call_V (n := 2) (k0 := 0) (As := [.int y6_26, .long x262]) (rest := []) hX hB (o_X5_setRowNumber κ l a r5 q6 f_26 y6_26 x262) ⟨rfl, by decide, by decide, by decide +kernel⟩ wm_5_109 wm_5_111 wp_25 wm_1_1 wm_5_112 ⟨Nat.le_of_ble_eq_true rfl, Nat.le_of_ble_eq_true rfl⟩ ⟨Nat.le_of_ble_eq_true rfl, Nat.le_of_ble_eq_true rfl⟩ cw0 rfl rfl rfl hl.1 rfl (Nat.le_of_ble_eq_true rfl) dX5_rest_57 (fun o w' H locs hp hB => ?_)
        obtain ⟨f263, rfl, hk264, hw9⟩ := hp
        replace hB : Bd κ A s (cw κ a r5 q6 f263) H locs := by rw [hw9] at hB; exact hB
        refine W.eq (g2 := F0 m 60 ls []) rfl ?_
        refine lv_lload hx hb dX5_rest_60 (lv_at hl 2 rfl) ?_
        refine lv_lload hx hb dX5_rest_62 (lv_at hl 0 rfl) ?_
        refine call_S (n := 2) (As := [.long y4_26, .long x261]) (rest := []) hX hB (o_X5_divideDown κ l (cw κ a r5 q6 f263) y4_26 x261 ) ⟨by decide, by decide, by decide +kernel⟩ wm_5_113 wm_2_17 wm_1_1 wm_2_18 ⟨Nat.le_of_ble_eq_true rfl, Nat.le_of_ble_eq_true rfl⟩ ⟨Nat.le_of_ble_eq_true rfl, Nat.le_of_ble_eq_true rfl⟩ rfl hl.1 rfl (Nat.le_of_ble_eq_true rfl) dX5_rest_64 (fun o w' H locs hp hB => ?_)
        obtain ⟨x265, rfl, hw9⟩ := hp
        rw [hw9] at hB
        refine W.eq (g2 := F0 m 67 ls [.long x265]) rfl ?_
        refine lv_lstore (lv' := [(4, .long x265), (7, .long x261), (6, .int y6_26), (3, .ref (a (6 + 2 * i1))), (0, .ref (a 0)), (1, .int p0), (2, .int p1)]) hx hb dX5_rest_67 hl (by decide) rfl (fun ls hl => ?_)
        refine lv_iinc (v := y6_26 + -1) (lv' := [(6, .int (y6_26 + -1)), (4, .long x265), (7, .long x261), (3, .ref (a (6 + 2 * i1))), (0, .ref (a 0)), (1, .int p0), (2, .int p1)]) hx hb dX5_rest_69 hl (k := 2) rfl rfl (by decide) rfl (fun ls hl => ?_)
        refine lv_goto (tgt := 26) hx hb dX5_rest_72 (by decide) ?_
        exact ih26 (y6_26 + -1) x265 f263 _ _ (Ks_tr hk264 hks26) (gapd_step c148 hμ26) hB _ (lv_sub hl [0, 1, 3, 4, 5, 6] rfl)
  exact lp26 _ (nI (CC - 1)) ((p1).toInt64) f7 _ _ (Ks_tr hk10 Ks_rf) (Nat.lt_succ_self _) hB _ hl
