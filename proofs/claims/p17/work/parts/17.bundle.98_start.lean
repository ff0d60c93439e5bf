section
-- 98.start
/-! ===== What holds at the law's start ===== -/
/-- what the claim gives of the start, by its place -/
theorem pmv {args : Array Value} {s : State} (h : (Jvm.Cond.and given_1 narrow_1).before args s = true) {k : Nat} {c : Cond} (hk : (flatC (Jvm.Cond.and given_1 narrow_1))[k]? = some c) : c.before args s = true := flat_of_before _ h _ (List.mem_of_getElem? hk)
theorem dig_t : ∀ j, j < 100 → Cond.eq (.elem (.static "java/lang/Integer" "DigitTens" "[B") (.int (Int32.ofNat j))) (.int (Int32.ofNat (48 + j / 10))) ∈ flatC (Jvm.Cond.and given_1 narrow_1) := by
  have e : ((flatC (Jvm.Cond.and given_1 narrow_1)).drop 117).take 100 = (List.range 100).map (fun j => Cond.eq (.elem (.static "java/lang/Integer" "DigitTens" "[B") (.int (Int32.ofNat j))) (.int (Int32.ofNat (48 + j / 10)))) := by decide +kernel
  intro j hj
  refine List.mem_of_mem_drop (i := 117) (List.mem_of_mem_take (i := 100) ?_)
  rw [e]
  exact List.mem_map.mpr ⟨j, List.mem_range.mpr hj, rfl⟩
theorem dig_o : ∀ j, j < 100 → Cond.eq (.elem (.static "java/lang/Integer" "DigitOnes" "[B") (.int (Int32.ofNat j))) (.int (Int32.ofNat (48 + j % 10))) ∈ flatC (Jvm.Cond.and given_1 narrow_1) := by
  have e : ((flatC (Jvm.Cond.and given_1 narrow_1)).drop 14).take 100 = (List.range 100).map (fun j => Cond.eq (.elem (.static "java/lang/Integer" "DigitOnes" "[B") (.int (Int32.ofNat j))) (.int (Int32.ofNat (48 + j % 10)))) := by decide +kernel
  intro j hj
  refine List.mem_of_mem_drop (i := 14) (List.mem_of_mem_take (i := 100) ?_)
  rw [e]
  exact List.mem_map.mpr ⟨j, List.mem_range.mpr hj, rfl⟩
theorem st_cls {s : State} {args : Array Value} (hts : ∀ w ∈ lw_tbl, w.before args s = true) : ∀ k : Nat, ∃ x : ClassId × (Nat → Nat), ∀ q : vw_C, vwCl[k]? = some q → u_Kn s q.1 q.2.1 q.2.2 x.1 x.2 := by
  have hA : ∀ w ∈ wAll, w.before args s = true := fun w h => hts w (List.mem_filter.mp h).1
  have f : ∀ {C : String} {T : u_T} {N n : Nat}, (∀ w ∈ u_ws C T N, w ∈ wAll) → Cond.instantiable C n ∈ wAll → ∃ x : ClassId × (Nat → Nat), u_Kn s C T N x.1 x.2 := by
    intro C T N n hin hi
    obtain ⟨c, i, h⟩ := u_known hA hin (hA _ hi)
    exact ⟨(c, i), h⟩
  intro k
  match k with
  | 0 => obtain ⟨x, h⟩ := f inJ0 wm_4_151; exact ⟨x, fun q hq => by cases hq; exact h⟩
  | 1 => obtain ⟨x, h⟩ := f inJ4 wm_3_231; exact ⟨x, fun q hq => by cases hq; exact h⟩
  | 2 => obtain ⟨x, h⟩ := f in1 wm_1_88; exact ⟨x, fun q hq => by cases hq; exact h⟩
  | 3 => obtain ⟨x, h⟩ := f in2 wm_1_116; exact ⟨x, fun q hq => by cases hq; exact h⟩
  | 4 => obtain ⟨x, h⟩ := f in3 wm_1_40; exact ⟨x, fun q hq => by cases hq; exact h⟩
  | 5 => obtain ⟨x, h⟩ := f in4 wm_1_67; exact ⟨x, fun q hq => by cases hq; exact h⟩
  | 6 => obtain ⟨x, h⟩ := f in5 wm_1_31; exact ⟨x, fun q hq => by cases hq; exact h⟩
  | 7 => obtain ⟨x, h⟩ := f in6 wm_2_144; exact ⟨x, fun q hq => by cases hq; exact h⟩
  | 8 => obtain ⟨x, h⟩ := f in7 wm_5_140; exact ⟨x, fun q hq => by cases hq; exact h⟩
  | 9 => obtain ⟨x, h⟩ := f in8 wm_6_128; exact ⟨x, fun q hq => by cases hq; exact h⟩
  | 10 => obtain ⟨x, h⟩ := f in9 wm_6_177; exact ⟨x, fun q hq => by cases hq; exact h⟩
  | 11 => obtain ⟨x, h⟩ := f in10 wm_5_133; exact ⟨x, fun q hq => by cases hq; exact h⟩
  | k + 12 => exact ⟨(0, fun _ => 0), fun q hq => by simp [vwCl] at hq⟩
theorem st_ac {s : State} {args : Array Value} {ty : FieldType} (h : (Cond.arrayClass ty).before args s = true) : ∃ cA : ClassId, ArrOfT s cA ty ∧ s.vm.findClass ("[" ++ ty.toString) = some cA := by
  obtain ⟨c, k, comp, h1, h2, h3⟩ := Cond.arrayClass_spec h
  exact ⟨c, fun N z => ⟨(fun k h => by cases h), k, h2, comp, h3⟩, h1⟩
theorem st_ao {s : State} {args : Array Value} {C : String} (h : (Cond.arrayOver (.object C)).before args s = true) : ∃ cA : ClassId, ArrOfT s cA (.object C) ∧ va_RA s cA (.object C) := by
  obtain ⟨comp, c, k, h1, h2, h3, h4, h5⟩ := Cond.arrayOver_spec h
  exact ⟨c, fun N z => ⟨(fun k h => by cases h), k, h3, comp, h4⟩, k, comp, h3, h4, h1, h5⟩
theorem st_zs {κ : Kt} {s : State} {args : Array Value} (hz : κ.2.2 = s.heap.size) (hts : ∀ w ∈ lw_tbl, w.before args s = true) (hgv : (Jvm.Cond.and given_1 narrow_1).before args s = true) : Zs κ s s.heap := by
  have hN : ∀ a : Nat, a < s.heap.size → ¬ Az κ a := fun a h1 h2 => by
    have h2 : κ.2.2 ≤ a := h2
    omega
  have hA : ∀ w ∈ wAll, w.before args s = true := fun w h => hts w (List.mem_filter.mp h).1
  refine ⟨vx_Zqof (hts _ wt_2_196) (hA _ wm_1_9) (pmv hgv (k := 4) (by decide +kernel)) hN, vx_Zqof (hts _ wt_2_198) (hA _ wm_1_9) (pmv hgv (k := 5) (by decide +kernel)) hN, va_Zof (hts _ wt_4_0) (hA _ wm_1_19) (va_eqi (pmv hgv (k := 6) (by decide +kernel))) hN, ?_, ?_⟩
  · obtain ⟨t, ht, hT⟩ := va_Tof (N := 100) (f := fun j => .int (Int32.ofNat (48 + j / 10))) (A := Az κ) (by decide) (pmv hgv (k := 115) (c := Cond.arrayOf (.static "java/lang/Integer" "DigitTens" "[B") .byte) (by decide +kernel)) (va_eqt (pmv hgv (k := 116) (by decide +kernel))) (fun j hj => va_eqt (flat_of_before _ hgv _ (dig_t j hj))) hN
    exact ⟨t, _, va_Zof (hts _ wt_4_128) (hA _ wm_1_26) ht hN, hT⟩
  · obtain ⟨t, ht, hT⟩ := va_Tof (N := 100) (f := fun j => .int (Int32.ofNat (48 + j % 10))) (A := Az κ) (by decide) (pmv hgv (k := 12) (c := Cond.arrayOf (.static "java/lang/Integer" "DigitOnes" "[B") .byte) (by decide +kernel)) (va_eqt (pmv hgv (k := 13) (by decide +kernel))) (fun j hj => va_eqt (flat_of_before _ hgv _ (dig_o j hj))) hN
    exact ⟨t, _, va_Zof (hts _ wt_4_126) (hA _ wm_1_26) ht hN, hT⟩
def tmM (i : Nat) : Term := .string "GridmenderModel" (if i = 0 then 205 else if i = 1 then 210 else 212)
theorem st_sn {s : State} {args : Array Value} (hts : ∀ w ∈ lw_tbl, w.before args s = true) (hgv : (Jvm.Cond.and given_1 narrow_1).before args s = true) : Sn s := by
  refine ⟨fun x hx => ?_, va_AO.of (hts _ wt_1_39), va_AO.of (hts _ wt_5_139), va_Nc.of (pmv hgv (k := 225) (by decide +kernel)), va_Nc.of (pmv hgv (k := 230) (by decide +kernel)), va_Nc.of (pmv hgv (k := 244) (by decide +kernel)), va_Nc.of (pmv hgv (k := 254) (by decide +kernel))⟩
  simp only [strs, List.mem_cons, List.not_mem_nil, or_false] at hx
  rcases hx with rfl | rfl | rfl | rfl | rfl
  · obtain ⟨a, _, _, _, q1, _⟩ := Cond.exactly_spec (pmv hgv (k := 289) (c := Cond.exactly (Term.string "Gridmender" 273) "java/lang/String") (by decide +kernel))
    exact ⟨a, vk_R.of (hts _ wt_2_210) q1⟩
  · obtain ⟨a, _, _, _, q1, _⟩ := Cond.exactly_spec (pmv hgv (k := 327) (c := Cond.exactly (Term.string "Gridmender" 276) "java/lang/String") (by decide +kernel))
    exact ⟨a, vk_R.of (hts _ wt_3_50) q1⟩
  · obtain ⟨a, _, _, _, q1, _⟩ := Cond.exactly_spec (pmv hgv (k := 306) (c := Cond.exactly (Term.string "Gridmender" 280) "java/lang/String") (by decide +kernel))
    exact ⟨a, vk_R.of (hts _ wt_3_12) q1⟩
  · obtain ⟨a, _, _, _, q1, _⟩ := Cond.exactly_spec (pmv hgv (k := 364) (c := Cond.exactly (Term.string "Gridmender" 283) "java/lang/String") (by decide +kernel))
    exact ⟨a, vk_R.of (hts _ wt_5_38) q1⟩
  · obtain ⟨a, _, _, _, q1, _⟩ := Cond.exactly_spec (pmv hgv (k := 399) (c := Cond.exactly (Term.string "Gridmender" 225) "java/lang/String") (by decide +kernel))
    exact ⟨a, vk_R.of (hts _ wt_5_75) q1⟩
/-- the constants of the run, and all that a method asks, at the start -/
theorem ev_start {s : State} {args : Array Value} (hts : ∀ w ∈ lw_tbl, w.before args s = true) (hgv : (Jvm.Cond.and given_1 narrow_1).before args s = true) : ∃ κ : Kt, κ.2.2 = s.heap.size ∧ Ev κ s s.heap := by
  have hA : ∀ w ∈ wAll, w.before args s = true := fun w h => hts w (List.mem_filter.mp h).1
  obtain ⟨adk, adv, hS, hE⟩ := vk_Sof (N := 3) (tm := tmM) (len := [0, 1, 1]) (byt := [[], [32], [47]]) (args := args) (s := s) (A := fun q : Nat => s.heap.size ≤ q) (fun i hi => by match i, hi with | 0, _ => decide | 1, _ => decide | 2, _ => decide) (fun i hi => by match i, hi with | 0, _ => exact pmv hgv (k := 427) (by decide +kernel) | 1, _ => exact pmv hgv (k := 437) (by decide +kernel) | 2, _ => exact pmv hgv (k := 449) (by decide +kernel)) (fun i hi => by match i, hi with | 0, _ => exact pmv hgv (k := 428) (by decide +kernel) | 1, _ => exact pmv hgv (k := 438) (by decide +kernel) | 2, _ => exact pmv hgv (k := 450) (by decide +kernel)) (fun i hi => by match i, hi with | 0, _ => exact pmv hgv (k := 429) (by decide +kernel) | 1, _ => exact pmv hgv (k := 439) (by decide +kernel) | 2, _ => exact pmv hgv (k := 451) (by decide +kernel)) (fun i hi => by match i, hi with | 0, _ => exact pmv hgv (k := 430) (by decide +kernel) | 1, _ => exact pmv hgv (k := 440) (by decide +kernel) | 2, _ => exact pmv hgv (k := 452) (by decide +kernel))
    (fun i hi => by
      match i, hi with
      | 0, _ => exact fun j hj => absurd hj (Nat.not_lt_zero j)
      | 1, _ =>
        intro j hj
        have e : j = 0 := Nat.lt_one_iff.mp hj
        subst e
        exact pmv hgv (k := 441) (by decide +kernel)
      | 2, _ =>
        intro j hj
        have e : j = 0 := Nat.lt_one_iff.mp hj
        subst e
        exact pmv hgv (k := 453) (by decide +kernel))
    (fun i j hi hj hij => by
      match i, j, hi, hj, hij with
      | 0, 0, _, _, h => exact absurd rfl h
      | 0, 1, _, _, _ => exact Or.inl (pmv hgv (k := 448) (by decide +kernel))
      | 0, 2, _, _, _ => exact Or.inl (pmv hgv (k := 460) (by decide +kernel))
      | 1, 0, _, _, _ => exact Or.inr (pmv hgv (k := 448) (by decide +kernel))
      | 1, 1, _, _, h => exact absurd rfl h
      | 1, 2, _, _, _ => exact Or.inl (pmv hgv (k := 461) (by decide +kernel))
      | 2, 0, _, _, _ => exact Or.inr (pmv hgv (k := 460) (by decide +kernel))
      | 2, 1, _, _, _ => exact Or.inr (pmv hgv (k := 461) (by decide +kernel))
      | 2, 2, _, _, h => exact absurd rfl h) (fun a h1 h2 => absurd h1 (Nat.not_lt.mpr h2))
  obtain ⟨g, hg⟩ := Classical.axiomOfChoice (st_cls hts)
  obtain ⟨cL, aL, rL⟩ := st_ac (hA _ wm_1_65)
  obtain ⟨cB, aB, rB⟩ := st_ac (hA _ wm_2_236)
  obtain ⟨cI, aI, rI⟩ := st_ac (hA _ wm_7_152)
  obtain ⟨cG, aG, rG⟩ := st_ao (hts _ wt_1_39)
  obtain ⟨cM, aM, rM⟩ := st_ao (hts _ wt_5_139)
  refine ⟨((fun k => (g k).1, fun k => if k = 100 then adk else if k = 101 then adv else (g k).2), (fun k => if k = 0 then cL else if k = 1 then cG else if k = 2 then cM else if k = 3 then cB else cI), s.heap.size), rfl, ⟨fun c q hq => ?_, fun k q hk => ?_⟩, fun w hw => ?_, ⟨st_zs rfl hts hgv, ⟨vk_R.of (hts _ wt_7_34) (hE 0 (by decide)), vk_R.of (hts _ wt_7_37) (hE 1 (by decide)), vk_R.of (hts _ wt_7_38) (hE 2 (by decide)), hS⟩, st_sn hts hgv⟩, Nat.le_refl _⟩
  · have hc : c < 12 := (List.getElem?_eq_some_iff.mp hq).1
    show u_Kn s q.1 q.2.1 q.2.2 (g c).1 (if c = 100 then adk else if c = 101 then adv else (g c).2)
    rw [if_neg (by omega), if_neg (by omega)]
    exact hg c q hq
  · match k, hk with
    | 0, hk => cases hk; exact ⟨aL, rL⟩
    | 1, hk => cases hk; exact ⟨aG, rG⟩
    | 2, hk => cases hk; exact ⟨aM, rM⟩
    | 3, hk => cases hk; exact ⟨aB, rB⟩
    | 4, hk => cases hk; exact ⟨aI, rI⟩
    | k + 5, hk => simp [tysK] at hk
  · have h1 := List.mem_filter.mp hw
    have h2 := h1.2
    cases w <;> first | (simp [wNk] at h2; done) | exact va_Nw.of rfl (hts _ h1.1)
end
section
-- 99.a_loop
theorem dL_law_0 : decode cL_law 0 = .ok (.new 8, 3) := dz_e2 dz_187 hI_L_law (by decide +kernel)
theorem dL_law_3 : decode cL_law 3 = .ok (.dup, 1) := dz_e0 dz_89 hI_L_law (by decide +kernel)
theorem dL_law_4 : decode cL_law 4 = .ok (.invokespecial 131, 3) := dz_e2 dz_183 hI_L_law (by decide +kernel)
theorem dL_law_7 : decode cL_law 7 = .ok (.astore_n 1, 1) := dz_e0 dz_76 hI_L_law (by decide +kernel)
theorem dL_law_8 : decode cL_law 8 = .ok (.new 132, 3) := dz_e2 dz_187 hI_L_law (by decide +kernel)
theorem dL_law_11 : decode cL_law 11 = .ok (.dup, 1) := dz_e0 dz_89 hI_L_law (by decide +kernel)
theorem dL_law_12 : decode cL_law 12 = .ok (.invokespecial 134, 3) := dz_e2 dz_183 hI_L_law (by decide +kernel)
theorem dL_law_15 : decode cL_law 15 = .ok (.astore_n 2, 1) := dz_e0 dz_77 hI_L_law (by decide +kernel)
theorem dL_law_16 : decode cL_law 16 = .ok (.new 14, 3) := dz_e2 dz_187 hI_L_law (by decide +kernel)
theorem dL_law_19 : decode cL_law 19 = .ok (.dup, 1) := dz_e0 dz_89 hI_L_law (by decide +kernel)
theorem dL_law_20 : decode cL_law 20 = .ok (.invokespecial 135, 3) := dz_e2 dz_183 hI_L_law (by decide +kernel)
theorem dL_law_23 : decode cL_law 23 = .ok (.astore_n 3, 1) := dz_e0 dz_78 hI_L_law (by decide +kernel)
theorem dL_law_24 : decode cL_law 24 = .ok (.iconst 0, 1) := dz_e0 dz_3 hI_L_law (by decide +kernel)
theorem dL_law_25 : decode cL_law 25 = .ok (.istore 4, 2) := dz_e1 dz_54 hI_L_law (by decide +kernel)
theorem dL_law_27 : decode cL_law 27 = .ok (.iload 4, 2) := dz_e1 dz_21 hI_L_law (by decide +kernel)
theorem dL_law_29 : decode cL_law 29 = .ok (.aload_n 0, 1) := dz_e0 dz_42 hI_L_law (by decide +kernel)
theorem dL_law_30 : decode cL_law 30 = .ok (.arraylength, 1) := dz_e0 dz_190 hI_L_law (by decide +kernel)
theorem dL_law_31 : decode cL_law 31 = .ok (.bipush 6, 2) := dz_f1 dz_16 hI_L_law (by decide +kernel)
theorem dL_law_33 : decode cL_law 33 = .ok (.isub, 1) := dz_e0 dz_100 hI_L_law (by decide +kernel)
theorem dL_law_34 : decode cL_law 34 = .ok (.if_icmp .gt 1852, 3) := dz_f2 dz_163 hI_L_law (by decide +kernel)
theorem dL_law_37 : decode cL_law 37 = .ok (.aload_n 0, 1) := dz_e0 dz_42 hI_L_law (by decide +kernel)
theorem dL_law_38 : decode cL_law 38 = .ok (.iload 4, 2) := dz_e1 dz_21 hI_L_law (by decide +kernel)
theorem dL_law_40 : decode cL_law 40 = .ok (.iaload, 1) := dz_e0 dz_46 hI_L_law (by decide +kernel)
theorem dL_law_41 : decode cL_law 41 = .ok (.bipush 63, 2) := dz_f1 dz_16 hI_L_law (by decide +kernel)
theorem dL_law_43 : decode cL_law 43 = .ok (.iand, 1) := dz_e0 dz_126 hI_L_law (by decide +kernel)
theorem dL_law_44 : decode cL_law 44 = .ok (.tableswitch 1836 0 33 #[152, 204, 244, 308, 360, 400, 440, 468, 548, 616, 708, 764, 832, 912, 964, 1016, 1109, 1165, 1217, 1245, 1285, 1325, 1377, 1417, 1457, 1521, 1561, 1625, 1677, 1717, 1769, 1797, 1810, 1823], 152) := by decide +kernel
theorem dL_law_1880 : decode cL_law 1880 = .ok (.iinc 4 6, 3) := dz_ei hI_L_law (by decide +kernel)
theorem dL_law_1883 : decode cL_law 1883 = .ok (.goto (-1856), 3) := dz_f2 dz_167 hI_L_law (by decide +kernel)
theorem dL_law_1886 : decode cL_law 1886 = .ok (.iconst 1, 1) := dz_e0 dz_4 hI_L_law (by decide +kernel)
theorem dL_law_1887 : decode cL_law 1887 = .ok (.ireturn, 1) := dz_e0 dz_172 hI_L_law (by decide +kernel)
theorem scr_more {L i : Nat} (hL : L ≤ 384) (hi : 6 * i ≤ L) (c : ¬ Int32.ofNat L - 6 < nI (6 * i)) : 6 * i + 6 ≤ L := by
  have h1 : (Int32.ofNat L - 6).toInt = (L : Int) - 6 := by
    have e : (Int32.ofNat L).toInt = (L : Int) := nI_toInt (by omega)
    rw [Int32.toInt_sub, e, show (6 : Int32).toInt = 6 from rfl]
    exact Int.bmod_eq_of_le (by omega) (by omega)
  rw [i32_lt, h1, nI_toInt (by omega)] at c
  omega
set_option maxHeartbeats 4000000 in
set_option maxRecDepth 100000 in
/-- the law's loop, from its head -/
theorem law_loop {κ : Kt} {p : Program} {l : Launch} {e : Env} {s : State} {m : MethodId} {args : Array Value} {below : List Frame} {meth : Method} {c : Code} {A : Nat → Prop} {ret : Option FieldType} {b L o : Nat} {xs : Nat → Int32} {Q : State → Prop} (hst : l.stackTraces = false) (hX : Cx κ p m c cL_law 7 s args "GridmenderLaw" meth ret A) (hx9 : va_X b L xs s s.heap) (hbl : b < s.heap.size) (hbA : ¬ A b) (hL : L ≤ 384)
    (hend : ∀ (H : Heap) (locs : List Loc) (ls : Array Slot) (k n : Nat), k ≤ 600128 → n ≤ 7301098 → va_S A s.heap H locs → W p l e (Rm 2048 84000 600128 7301098) s m args below meth c H locs k n Q (F0 m 1886 ls [])) :
    ∀ (nn i : Nat), 6 * i ≤ L → 64 < i + nn → ∀ (a a2 r2 : Nat → Nat) (r q q2 : Nat → Int32) (f f2 : Nat → Nat → Int64) (n : Int64) (v : Value) (H : Heap) (locs : List Loc) (ls : Array Slot), okr r → mok r2 f2 → Rl r q f r2 f2 q2 → Bd κ A s (Lw κ a r q f o n v a2 r2 f2 q2) H locs → lv_has ls 7 (Lv b (a 0) (a2 0) o i) → W p l e (Rm 2048 84000 600128 7301098) s m args below meth c H locs (100 + i * 100) (1000 + i * 70000) Q (F0 m 27 ls []) := by
  have hx := hX.1.1
  have hb := hX.1.2.1
  intro nn
  induction nn with
  | zero => intro i h1 h2; exact absurd h2 (by omega)
  | succ nn ih =>
    intro i hi hn a a2 r2 r q q2 f f2 n v H locs ls hok hm h4 hB hl
    refine lv_iload hx hb dL_law_27 (lv_at hl 4 rfl) ?_
    refine lv_aload_n hx hb dL_law_29 rfl (lv_at hl 0 rfl) ?_
    refine va_slen hx hb hx9 hbl hbA hB.2.2 dL_law_30 ?_
    refine lv_bipush (v := 6) hx hb dL_law_31 (by decide) ?_
    refine lv_isub hx hb dL_law_33 ?_
    refine lv_icmp_gt (tgt := 1886) hx hb dL_law_34 (by decide) (fun c1 => ?_) (fun c1 => ?_)
    · exact hend _ _ _ _ _ (by omega) (by omega) hB.2.2
    · have h6 := scr_more hL hi c1
      have hk : Nk κ p l e s m args below meth c A b o i a a2 (100 + i * 100) (1000 + i * 70000) Q := by
        intro r q f n v a' r2 f2 q2 H locs ls k1 k2 k3 k4 k5 k6
        refine lv_iinc (v := nI (6 * (i + 1))) (lv' := [(4, .int (nI (6 * (i + 1)))), (0, .ref b), (1, .ref (a 0)), (2, .ref (a2 0)), (3, .ref o)]) hx hb dL_law_1880 k6 (k := 4) rfl (by rw [show 6 * (i + 1) = 6 * i + 6 by omega]; exact nI_add (6 * i) 6) (by decide) rfl (fun ls hl => ?_)
        refine lv_goto (tgt := 27) hx hb dL_law_1883 (by decide) ?_
        refine W.widen (k := 100 + (i + 1) * 100) (n := 1000 + (i + 1) * 70000) (by omega) (by omega) ?_
        refine ih (i + 1) (by omega) (by omega) a a' r2 r q q2 f f2 n v H locs ls k1 k2 k3 k5 ?_
        rw [k4]
        exact lv_sub hl [1, 2, 3, 4, 0] rfl
      refine lv_aload_n hx hb dL_law_37 rfl (lv_at hl 0 rfl) ?_
      refine lv_iload hx hb dL_law_38 (lv_at hl 4 rfl) ?_
      refine va_sld hx hb hx9 hbl hbA hB.2.2 (vp_in_nI (show 6 * i < L by omega) (by omega)) dL_law_40 ?_
      refine lv_bipush (v := 63) hx hb dL_law_41 (by decide) ?_
      refine lv_iand hx hb dL_law_43 ?_
      refine lv_topi (fun z ez => ?_)
      by_cases y0 : z.toInt = 0
      · exact lv_tableIn (tgt := 196) (off := 152) hx hb dL_law_44 (by rw [y0]; decide) (by rw [y0]; decide) (by rw [y0]; rfl) (by decide) (lc_0 hst hX hx9 hbl hbA h6 hL hok hm h4 hB hl (by omega) (by omega) hk)
      by_cases y1 : z.toInt = 1
      · exact lv_tableIn (tgt := 248) (off := 204) hx hb dL_law_44 (by rw [y1]; decide) (by rw [y1]; decide) (by rw [y1]; rfl) (by decide) (lc_1 hst hX hx9 hbl hbA h6 hL hok hm h4 hB hl (by omega) (by omega) hk)
      by_cases y2 : z.toInt = 2
      · exact lv_tableIn (tgt := 288) (off := 244) hx hb dL_law_44 (by rw [y2]; decide) (by rw [y2]; decide) (by rw [y2]; rfl) (by decide) (lc_2 hst hX hx9 hbl hbA h6 hL hok hm h4 hB hl (by omega) (by omega) hk)
      by_cases y3 : z.toInt = 3
      · exact lv_tableIn (tgt := 352) (off := 308) hx hb dL_law_44 (by rw [y3]; decide) (by rw [y3]; decide) (by rw [y3]; rfl) (by decide) (lc_3 hst hX hx9 hbl hbA h6 hL hok hm h4 hB hl (by omega) (by omega) hk)
      by_cases y4 : z.toInt = 4
      · exact lv_tableIn (tgt := 404) (off := 360) hx hb dL_law_44 (by rw [y4]; decide) (by rw [y4]; decide) (by rw [y4]; rfl) (by decide) (lc_4 hst hX hx9 hbl hbA h6 hL hok hm h4 hB hl (by omega) (by omega) hk)
      by_cases y5 : z.toInt = 5
      · exact lv_tableIn (tgt := 444) (off := 400) hx hb dL_law_44 (by rw [y5]; decide) (by rw [y5]; decide) (by rw [y5]; rfl) (by decide) (lc_5 hst hX hx9 hbl hbA h6 hL hok hm h4 hB hl (by omega) (by omega) hk)
      by_cases y6 : z.toInt = 6
      · exact lv_tableIn (tgt := 484) (off := 440) hx hb dL_law_44 (by rw [y6]; decide) (by rw [y6]; decide) (by rw [y6]; rfl) (by decide) (lc_6 hst hX hx9 hbl hbA h6 hL hok hm h4 hB hl (by omega) (by omega) hk)
      by_cases y7 : z.toInt = 7
      · exact lv_tableIn (tgt := 512) (off := 468) hx hb dL_law_44 (by rw [y7]; decide) (by rw [y7]; decide) (by rw [y7]; rfl) (by decide) (lc_7 hst hX hx9 hbl hbA h6 hL hok hm h4 hB hl (by omega) (by omega) hk)
      by_cases y8 : z.toInt = 8
      · exact lv_tableIn (tgt := 592) (off := 548) hx hb dL_law_44 (by rw [y8]; decide) (by rw [y8]; decide) (by rw [y8]; rfl) (by decide) (lc_8 hst hX hx9 hbl hbA h6 hL hok hm h4 hB hl (by omega) (by omega) hk)
      by_cases y9 : z.toInt = 9
      · exact lv_tableIn (tgt := 660) (off := 616) hx hb dL_law_44 (by rw [y9]; decide) (by rw [y9]; decide) (by rw [y9]; rfl) (by decide) (lc_9 hst hX hx9 hbl hbA h6 hL hok hm h4 hB hl (by omega) (by omega) hk)
      by_cases y10 : z.toInt = 10
      · exact lv_tableIn (tgt := 752) (off := 708) hx hb dL_law_44 (by rw [y10]; decide) (by rw [y10]; decide) (by rw [y10]; rfl) (by decide) (lc_10 hst hX hx9 hbl hbA h6 hL hok hm h4 hB hl (by omega) (by omega) hk)
      by_cases y11 : z.toInt = 11
      · exact lv_tableIn (tgt := 808) (off := 764) hx hb dL_law_44 (by rw [y11]; decide) (by rw [y11]; decide) (by rw [y11]; rfl) (by decide) (lc_11 hst hX hx9 hbl hbA h6 hL hok hm h4 hB hl (by omega) (by omega) hk)
      by_cases y12 : z.toInt = 12
      · exact lv_tableIn (tgt := 876) (off := 832) hx hb dL_law_44 (by rw [y12]; decide) (by rw [y12]; decide) (by rw [y12]; rfl) (by decide) (lc_12 hst hX hx9 hbl hbA h6 hL hok hm h4 hB hl (by omega) (by omega) hk)
      by_cases y13 : z.toInt = 13
      · exact lv_tableIn (tgt := 956) (off := 912) hx hb dL_law_44 (by rw [y13]; decide) (by rw [y13]; decide) (by rw [y13]; rfl) (by decide) (lc_13 hst hX hx9 hbl hbA h6 hL hok hm h4 hB hl (by omega) (by omega) hk)
      by_cases y14 : z.toInt = 14
      · exact lv_tableIn (tgt := 1008) (off := 964) hx hb dL_law_44 (by rw [y14]; decide) (by rw [y14]; decide) (by rw [y14]; rfl) (by decide) (lc_14 hst hX hx9 hbl hbA h6 hL hok hm h4 hB hl (by omega) (by omega) hk)
      by_cases y15 : z.toInt = 15
      · exact lv_tableIn (tgt := 1060) (off := 1016) hx hb dL_law_44 (by rw [y15]; decide) (by rw [y15]; decide) (by rw [y15]; rfl) (by decide) (lc_15 hst hX hx9 hbl hbA h6 hL hok hm h4 hB hl (by omega) (by omega) hk)
      by_cases y16 : z.toInt = 16
      · exact lv_tableIn (tgt := 1153) (off := 1109) hx hb dL_law_44 (by rw [y16]; decide) (by rw [y16]; decide) (by rw [y16]; rfl) (by decide) (lc_16 hst hX hx9 hbl hbA h6 hL hok hm h4 hB hl (by omega) (by omega) hk)
      by_cases y17 : z.toInt = 17
      · exact lv_tableIn (tgt := 1209) (off := 1165) hx hb dL_law_44 (by rw [y17]; decide) (by rw [y17]; decide) (by rw [y17]; rfl) (by decide) (lc_17 hst hX hx9 hbl hbA h6 hL hok hm h4 hB hl (by omega) (by omega) hk)
      by_cases y18 : z.toInt = 18
      · exact lv_tableIn (tgt := 1261) (off := 1217) hx hb dL_law_44 (by rw [y18]; decide) (by rw [y18]; decide) (by rw [y18]; rfl) (by decide) (lc_18 hst hX hx9 hbl hbA h6 hL hok hm h4 hB hl (by omega) (by omega) hk)
      by_cases y19 : z.toInt = 19
      · exact lv_tableIn (tgt := 1289) (off := 1245) hx hb dL_law_44 (by rw [y19]; decide) (by rw [y19]; decide) (by rw [y19]; rfl) (by decide) (lc_19 hst hX hx9 hbl hbA h6 hL hok hm h4 hB hl (by omega) (by omega) hk)
      by_cases y20 : z.toInt = 20
      · exact lv_tableIn (tgt := 1329) (off := 1285) hx hb dL_law_44 (by rw [y20]; decide) (by rw [y20]; decide) (by rw [y20]; rfl) (by decide) (lc_20 hst hX hx9 hbl hbA h6 hL hok hm h4 hB hl (by omega) (by omega) hk)
      by_cases y21 : z.toInt = 21
      · exact lv_tableIn (tgt := 1369) (off := 1325) hx hb dL_law_44 (by rw [y21]; decide) (by rw [y21]; decide) (by rw [y21]; rfl) (by decide) (lc_21 hst hX hx9 hbl hbA h6 hL hok hm h4 hB hl (by omega) (by omega) hk)
      by_cases y22 : z.toInt = 22
      · exact lv_tableIn (tgt := 1421) (off := 1377) hx hb dL_law_44 (by rw [y22]; decide) (by rw [y22]; decide) (by rw [y22]; rfl) (by decide) (lc_22 hst hX hx9 hbl hbA h6 hL hok hm h4 hB hl (by omega) (by omega) hk)
      by_cases y23 : z.toInt = 23
      · exact lv_tableIn (tgt := 1461) (off := 1417) hx hb dL_law_44 (by rw [y23]; decide) (by rw [y23]; decide) (by rw [y23]; rfl) (by decide) (lc_23 hst hX hx9 hbl hbA h6 hL hok hm h4 hB hl (by omega) (by omega) hk)
      by_cases y24 : z.toInt = 24
      · exact lv_tableIn (tgt := 1501) (off := 1457) hx hb dL_law_44 (by rw [y24]; decide) (by rw [y24]; decide) (by rw [y24]; rfl) (by decide) (lc_24 hst hX hx9 hbl hbA h6 hL hok hm h4 hB hl (by omega) (by omega) hk)
      by_cases y25 : z.toInt = 25
      · exact lv_tableIn (tgt := 1565) (off := 1521) hx hb dL_law_44 (by rw [y25]; decide) (by rw [y25]; decide) (by rw [y25]; rfl) (by decide) (lc_25 hst hX hx9 hbl hbA h6 hL hok hm h4 hB hl (by omega) (by omega) hk)
      by_cases y26 : z.toInt = 26
      · exact lv_tableIn (tgt := 1605) (off := 1561) hx hb dL_law_44 (by rw [y26]; decide) (by rw [y26]; decide) (by rw [y26]; rfl) (by decide) (lc_26 hst hX hx9 hbl hbA h6 hL hok hm h4 hB hl (by omega) (by omega) hk)
      by_cases y27 : z.toInt = 27
      · exact lv_tableIn (tgt := 1669) (off := 1625) hx hb dL_law_44 (by rw [y27]; decide) (by rw [y27]; decide) (by rw [y27]; rfl) (by decide) (lc_27 hst hX hx9 hbl hbA h6 hL hok hm h4 hB hl (by omega) (by omega) hk)
      by_cases y28 : z.toInt = 28
      · exact lv_tableIn (tgt := 1721) (off := 1677) hx hb dL_law_44 (by rw [y28]; decide) (by rw [y28]; decide) (by rw [y28]; rfl) (by decide) (lc_28 hst hX hx9 hbl hbA h6 hL hok hm h4 hB hl (by omega) (by omega) hk)
      by_cases y29 : z.toInt = 29
      · exact lv_tableIn (tgt := 1761) (off := 1717) hx hb dL_law_44 (by rw [y29]; decide) (by rw [y29]; decide) (by rw [y29]; rfl) (by decide) (lc_29 hst hX hx9 hbl hbA h6 hL hok hm h4 hB hl (by omega) (by omega) hk)
      by_cases y30 : z.toInt = 30
      · exact lv_tableIn (tgt := 1813) (off := 1769) hx hb dL_law_44 (by rw [y30]; decide) (by rw [y30]; decide) (by rw [y30]; rfl) (by decide) (lc_30 hst hX hx9 hbl hbA h6 hL hok hm h4 hB hl (by omega) (by omega) hk)
      by_cases y31 : z.toInt = 31
      · exact lv_tableIn (tgt := 1841) (off := 1797) hx hb dL_law_44 (by rw [y31]; decide) (by rw [y31]; decide) (by rw [y31]; rfl) (by decide) (lc_31 hst hX hx9 hbl hbA h6 hL hok hm h4 hB hl (by omega) (by omega) hk)
      by_cases y32 : z.toInt = 32
      · exact lv_tableIn (tgt := 1854) (off := 1810) hx hb dL_law_44 (by rw [y32]; decide) (by rw [y32]; decide) (by rw [y32]; rfl) (by decide) (lc_32 hst hX hx9 hbl hbA h6 hL hok hm h4 hB hl (by omega) (by omega) hk)
      by_cases y33 : z.toInt = 33
      · exact lv_tableIn (tgt := 1867) (off := 1823) hx hb dL_law_44 (by rw [y33]; decide) (by rw [y33]; decide) (by rw [y33]; rfl) (by decide) (lc_33 hst hX hx9 hbl hbA h6 hL hok hm h4 hB hl (by omega) (by omega) hk)
      refine lv_tableOut (tgt := 1880) hx hb dL_law_44 (by omega) (by decide) ?_
      refine W.widen (k := 100 + i * 100 + 100) (n := 1000 + i * 70000 + 70000) (by omega) (by omega) ?_
      exact hk r q f n v a2 r2 f2 q2 H locs ls hok hm h4 rfl hB hl
end
