/-! ===== What holds at the law's start ===== -/
/-- what the claim gives of the start, by its place -/
theorem pmv {args : Array Value} {s : State} (h : (Jvm.Cond.and given_1 narrow_1).before args s = true) {k : Nat} {c : Cond} (hk : (flatC (Jvm.Cond.and given_1 narrow_1))[k]? = some c) : c.before args s = true := flat_of_before _ h _ (List.mem_of_getElem? hk)
theorem dig_t : ∀ j, j < 100 → Cond.eq (.elem (.static "java/lang/Integer" "DigitTens" "[B") (.int (Int32.ofNat j))) (.int (Int32.ofNat (48 + j / 10))) ∈ flatC (Jvm.Cond.and given_1 narrow_1) := by
  have e : ((flatC (Jvm.Cond.and given_1 narrow_1)).drop 117).take 100 = (List.range 100).map (fun j => Cond.eq (.elem (.static "java/lang/Integer" "DigitTens" "[B") (.int (Int32.ofNat j))) (.int (Int32.ofNat (48 + j / 10)))) := by decide +kernel
  intro j hj
  refine List.mem_of_mem_drop (i := 117) (List.mem_of_mem_take (i := 100) ?_)
  rw [e]
  exact List.mem_map.mpr ⟨j, List.mem_range.mpr hj, rfl⟩
theorem dig_o : ∀ j, j < 100 → Cond.eq (.elem (.static "java/lang/Integer" "DigitOnes" "[B") (.int (Int32.ofNat j))) (.int (Int32.ofNat (48 + j % 10))) ∈ flatC (Jvm.Cond.and given_1 narrow_1) := by
  have e : ((flatC (Jvm.Cond.and given_1 narrow_1)).drop 14).take 100 = (List.range 100).map (fun j => Cond.eq (.elem (.static "java/lang/Integer" "DigitOnes" "[B") (.int (Int32.ofNat j))) (.int (Int32.ofNat (48 + j % 10)))) := by decide +kernel
  intro j hj
  refine List.mem_of_mem_drop (i := 14) (List.mem_of_mem_take (i := 100) ?_)
  rw [e]
  exact List.mem_map.mpr ⟨j, List.mem_range.mpr hj, rfl⟩
theorem st_cls {s : State} {args : Array Value} (hts : ∀ w ∈ lw_tbl, w.before args s = true) : ∀ k : Nat, ∃ x : ClassId × (Nat → Nat), ∀ q : vw_C, vwCl[k]? = some q → u_Kn s q.1 q.2.1 q.2.2 x.1 x.2 := by
  have hA : ∀ w ∈ wAll, w.before args s = true := fun w h => hts w (List.mem_filter.mp h).1
  have f : ∀ {C : String} {T : u_T} {N n : Nat}, (∀ w ∈ u_ws C T N, w ∈ wAll) → Cond.instantiable C n ∈ wAll → ∃ x : ClassId × (Nat → Nat), u_Kn s C T N x.1 x.2 := by
    intro C T N n hin hi
    obtain ⟨c, i, h⟩ := u_known hA hin (hA _ hi)
    exact ⟨(c, i), h⟩
  intro k
  match k with
  | 0 => obtain ⟨x, h⟩ := f inJ0 wm_4_151; exact ⟨x, fun q hq => by cases hq; exact h⟩
  | 1 => obtain ⟨x, h⟩ := f inJ4 wm_3_231; exact ⟨x, fun q hq => by cases hq; exact h⟩
  | 2 => obtain ⟨x, h⟩ := f in1 wm_1_88; exact ⟨x, fun q hq => by cases hq; exact h⟩
  | 3 => obtain ⟨x, h⟩ := f in2 wm_1_116; exact ⟨x, fun q hq => by cases hq; exact h⟩
  | 4 => obtain ⟨x, h⟩ := f in3 wm_1_40; exact ⟨x, fun q hq => by cases hq; exact h⟩
  | 5 => obtain ⟨x, h⟩ := f in4 wm_1_67; exact ⟨x, fun q hq => by cases hq; exact h⟩
  | 6 => obtain ⟨x, h⟩ := f in5 wm_1_31; exact ⟨x, fun q hq => by cases hq; exact h⟩
  | 7 => obtain ⟨x, h⟩ := f in6 wm_2_144; exact ⟨x, fun q hq => by cases hq; exact h⟩
  | 8 => obtain ⟨x, h⟩ := f in7 wm_5_140; exact ⟨x, fun q hq => by cases hq; exact h⟩
  | 9 => obtain ⟨x, h⟩ := f in8 wm_6_128; exact ⟨x, fun q hq => by cases hq; exact h⟩
  | 10 => obtain ⟨x, h⟩ := f in9 wm_6_177; exact ⟨x, fun q hq => by cases hq; exact h⟩
  | 11 => obtain ⟨x, h⟩ := f in10 wm_5_133; exact ⟨x, fun q hq => by cases hq; exact h⟩
  | k + 12 => exact ⟨(0, fun _ => 0), fun q hq => by simp [vwCl] at hq⟩
theorem st_ac {s : State} {args : Array Value} {ty : FieldType} (h : (Cond.arrayClass ty).before args s = true) : ∃ cA : ClassId, ArrOfT s cA ty ∧ s.vm.findClass ("[" ++ ty.toString) = some cA := by
  obtain ⟨c, k, comp, h1, h2, h3⟩ := Cond.arrayClass_spec h
  exact ⟨c, fun N z => ⟨(fun k h => by cases h), k, h2, comp, h3⟩, h1⟩
theorem st_ao {s : State} {args : Array Value} {C : String} (h : (Cond.arrayOver (.object C)).before args s = true) : ∃ cA : ClassId, ArrOfT s cA (.object C) ∧ va_RA s cA (.object C) := by
  obtain ⟨comp, c, k, h1, h2, h3, h4, h5⟩ := Cond.arrayOver_spec h
  exact ⟨c, fun N z => ⟨(fun k h => by cases h), k, h3, comp, h4⟩, k, comp, h3, h4, h1, h5⟩
theorem st_zs {κ : Kt} {s : State} {args : Array Value} (hz : κ.2.2 = s.heap.size) (hts : ∀ w ∈ lw_tbl, w.before args s = true) (hgv : (Jvm.Cond.and given_1 narrow_1).before args s = true) : Zs κ s s.heap := by
  have hN : ∀ a : Nat, a < s.heap.size → ¬ Az κ a := fun a h1 h2 => by
    have h2 : κ.2.2 ≤ a := h2
    omega
  have hA : ∀ w ∈ wAll, w.before args s = true := fun w h => hts w (List.mem_filter.mp h).1
  refine ⟨vx_Zqof (hts _ wt_2_196) (hA _ wm_1_9) (pmv hgv (k := 4) (by decide +kernel)) hN, vx_Zqof (hts _ wt_2_198) (hA _ wm_1_9) (pmv hgv (k := 5) (by decide +kernel)) hN, va_Zof (hts _ wt_4_0) (hA _ wm_1_19) (va_eqi (pmv hgv (k := 6) (by decide +kernel))) hN, ?_, ?_⟩
  · obtain ⟨t, ht, hT⟩ := va_Tof (N := 100) (f := fun j => .int (Int32.ofNat (48 + j / 10))) (A := Az κ) (by decide) (pmv hgv (k := 115) (c := Cond.arrayOf (.static "java/lang/Integer" "DigitTens" "[B") .byte) (by decide +kernel)) (va_eqt (pmv hgv (k := 116) (by decide +kernel))) (fun j hj => va_eqt (flat_of_before _ hgv _ (dig_t j hj))) hN
    exact ⟨t, _, va_Zof (hts _ wt_4_128) (hA _ wm_1_26) ht hN, hT⟩
  · obtain ⟨t, ht, hT⟩ := va_Tof (N := 100) (f := fun j => .int (Int32.ofNat (48 + j % 10))) (A := Az κ) (by decide) (pmv hgv (k := 12) (c := Cond.arrayOf (.static "java/lang/Integer" "DigitOnes" "[B") .byte) (by decide +kernel)) (va_eqt (pmv hgv (k := 13) (by decide +kernel))) (fun j hj => va_eqt (flat_of_before _ hgv _ (dig_o j hj))) hN
    exact ⟨t, _, va_Zof (hts _ wt_4_126) (hA _ wm_1_26) ht hN, hT⟩
def tmM (i : Nat) : Term := .string "GridmenderModel" (if i = 0 then 205 else if i = 1 then 210 else 212)
theorem st_sn {s : State} {args : Array Value} (hts : ∀ w ∈ lw_tbl, w.before args s = true) (hgv : (Jvm.Cond.and given_1 narrow_1).before args s = true) : Sn s := by
  refine ⟨fun x hx => ?_, va_AO.of (hts _ wt_1_39), va_AO.of (hts _ wt_5_139), va_Nc.of (pmv hgv (k := 225) (by decide +kernel)), va_Nc.of (pmv hgv (k := 230) (by decide +kernel)), va_Nc.of (pmv hgv (k := 244) (by decide +kernel)), va_Nc.of (pmv hgv (k := 254) (by decide +kernel))⟩
  simp only [strs, List.mem_cons, List.not_mem_nil, or_false] at hx
  rcases hx with rfl | rfl | rfl | rfl | rfl
  · obtain ⟨a, _, _, _, q1, _⟩ := Cond.exactly_spec (pmv hgv (k := 289) (c := Cond.exactly (Term.string "Gridmender" 273) "java/lang/String") (by decide +kernel))
    exact ⟨a, vk_R.of (hts _ wt_2_210) q1⟩
  · obtain ⟨a, _, _, _, q1, _⟩ := Cond.exactly_spec (pmv hgv (k := 327) (c := Cond.exactly (Term.string "Gridmender" 276) "java/lang/String") (by decide +kernel))
    exact ⟨a, vk_R.of (hts _ wt_3_50) q1⟩
  · obtain ⟨a, _, _, _, q1, _⟩ := Cond.exactly_spec (pmv hgv (k := 306) (c := Cond.exactly (Term.string "Gridmender" 280) "java/lang/String") (by decide +kernel))
    exact ⟨a, vk_R.of (hts _ wt_3_12) q1⟩
  · obtain ⟨a, _, _, _, q1, _⟩ := Cond.exactly_spec (pmv hgv (k := 364) (c := Cond.exactly (Term.string "Gridmender" 283) "java/lang/String") (by decide +kernel))
    exact ⟨a, vk_R.of (hts _ wt_5_38) q1⟩
  · obtain ⟨a, _, _, _, q1, _⟩ := Cond.exactly_spec (pmv hgv (k := 399) (c := Cond.exactly (Term.string "Gridmender" 225) "java/lang/String") (by decide +kernel))
    exact ⟨a, vk_R.of (hts _ wt_5_75) q1⟩
/-- the constants of the run, and all that a method asks, at the start -/
theorem ev_start {s : State} {args : Array Value} (hts : ∀ w ∈ lw_tbl, w.before args s = true) (hgv : (Jvm.Cond.and given_1 narrow_1).before args s = true) : ∃ κ : Kt, κ.2.2 = s.heap.size ∧ Ev κ s s.heap := by
  have hA : ∀ w ∈ wAll, w.before args s = true := fun w h => hts w (List.mem_filter.mp h).1
  obtain ⟨adk, adv, hS, hE⟩ := vk_Sof (N := 3) (tm := tmM) (len := [0, 1, 1]) (byt := [[], [32], [47]]) (args := args) (s := s) (A := fun q : Nat => s.heap.size ≤ q) (fun i hi => by match i, hi with | 0, _ => decide | 1, _ => decide | 2, _ => decide) (fun i hi => by match i, hi with | 0, _ => exact pmv hgv (k := 427) (by decide +kernel) | 1, _ => exact pmv hgv (k := 437) (by decide +kernel) | 2, _ => exact pmv hgv (k := 449) (by decide +kernel)) (fun i hi => by match i, hi with | 0, _ => exact pmv hgv (k := 428) (by decide +kernel) | 1, _ => exact pmv hgv (k := 438) (by decide +kernel) | 2, _ => exact pmv hgv (k := 450) (by decide +kernel)) (fun i hi => by match i, hi with | 0, _ => exact pmv hgv (k := 429) (by decide +kernel) | 1, _ => exact pmv hgv (k := 439) (by decide +kernel) | 2, _ => exact pmv hgv (k := 451) (by decide +kernel)) (fun i hi => by match i, hi with | 0, _ => exact pmv hgv (k := 430) (by decide +kernel) | 1, _ => exact pmv hgv (k := 440) (by decide +kernel) | 2, _ => exact pmv hgv (k := 452) (by decide +kernel))
    (fun i hi => by
      match i, hi with
      | 0, _ => exact fun j hj => absurd hj (Nat.not_lt_zero j)
      | 1, _ =>
        intro j hj
        have e : j = 0 := Nat.lt_one_iff.mp hj
        subst e
        exact pmv hgv (k := 441) (by decide +kernel)
      | 2, _ =>
        intro j hj
        have e : j = 0 := Nat.lt_one_iff.mp hj
        subst e
        exact pmv hgv (k := 453) (by decide +kernel))
    (fun i j hi hj hij => by
      match i, j, hi, hj, hij with
      | 0, 0, _, _, h => exact absurd rfl h
      | 0, 1, _, _, _ => exact Or.inl (pmv hgv (k := 448) (by decide +kernel))
      | 0, 2, _, _, _ => exact Or.inl (pmv hgv (k := 460) (by decide +kernel))
      | 1, 0, _, _, _ => exact Or.inr (pmv hgv (k := 448) (by decide +kernel))
      | 1, 1, _, _, h => exact absurd rfl h
      | 1, 2, _, _, _ => exact Or.inl (pmv hgv (k := 461) (by decide +kernel))
      | 2, 0, _, _, _ => exact Or.inr (pmv hgv (k := 460) (by decide +kernel))
      | 2, 1, _, _, _ => exact Or.inr (pmv hgv (k := 461) (by decide +kernel))
      | 2, 2, _, _, h => exact absurd rfl h) (fun a h1 h2 => absurd h1 (Nat.not_lt.mpr h2))
  obtain ⟨g, hg⟩ := Classical.axiomOfChoice (st_cls hts)
  obtain ⟨cL, aL, rL⟩ := st_ac (hA _ wm_1_65)
  obtain ⟨cB, aB, rB⟩ := st_ac (hA _ wm_2_236)
  obtain ⟨cI, aI, rI⟩ := st_ac (hA _ wm_7_152)
  obtain ⟨cG, aG, rG⟩ := st_ao (hts _ wt_1_39)
  obtain ⟨cM, aM, rM⟩ := st_ao (hts _ wt_5_139)
  refine ⟨((fun k => (g k).1, fun k => if k = 100 then adk else if k = 101 then adv else (g k).2), (fun k => if k = 0 then cL else if k = 1 then cG else if k = 2 then cM else if k = 3 then cB else cI), s.heap.size), rfl, ⟨fun c q hq => ?_, fun k q hk => ?_⟩, fun w hw => ?_, ⟨st_zs rfl hts hgv, ⟨vk_R.of (hts _ wt_7_34) (hE 0 (by decide)), vk_R.of (hts _ wt_7_37) (hE 1 (by decide)), vk_R.of (hts _ wt_7_38) (hE 2 (by decide)), hS⟩, st_sn hts hgv⟩, Nat.le_refl _⟩
  · have hc : c < 12 := (List.getElem?_eq_some_iff.mp hq).1
    show u_Kn s q.1 q.2.1 q.2.2 (g c).1 (if c = 100 then adk else if c = 101 then adv else (g c).2)
    rw [if_neg (by omega), if_neg (by omega)]
    exact hg c q hq
  · match k, hk with
    | 0, hk => cases hk; exact ⟨aL, rL⟩
    | 1, hk => cases hk; exact ⟨aG, rG⟩
    | 2, hk => cases hk; exact ⟨aM, rM⟩
    | 3, hk => cases hk; exact ⟨aB, rB⟩
    | 4, hk => cases hk; exact ⟨aI, rI⟩
    | k + 5, hk => simp [tysK] at hk
  · have h1 := List.mem_filter.mp hw
    have h2 := h1.2
    cases w <;> first | (simp [wNk] at h2; done) | exact va_Nw.of rfl (hts _ h1.1)
