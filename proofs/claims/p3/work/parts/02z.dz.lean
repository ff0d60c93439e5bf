section DZ
variable {c : ByteArray} {L : List (List Nat)} {pc k K n : Nat} {z : Int}
def dz_n {α : Type} : List α → Nat → Option α
  | [], _ => none
  | a :: _, 0 => some a
  | _ :: t, n + 1 => dz_n t n
theorem dz_n_eq {α : Type} : ∀ (l : List α) (n : Nat), dz_n l n = l[n]?
  | [], n => by simp [dz_n]
  | a :: t, 0 => by simp [dz_n]
  | a :: t, n + 1 => by rw [dz_n, dz_n_eq t n, List.getElem?_cons_succ]
def dz_ok : List (List Nat) → Bool
  | [] => true
  | [_] => true
  | a :: b :: t => Nat.beq a.length 32 && dz_ok (b :: t)
def dz_k (L : List (List Nat)) (pc : Nat) : Option Nat := match dz_n L (pc / 32) with
  | some l => dz_n l (pc % 32)
  | none => none
theorem dz_fl : ∀ (L : List (List Nat)) (pc k : Nat), dz_ok L = true → dz_k L pc = some k → L.flatten[pc]? = some k
  | [], pc, k, _, h => by simp [dz_k, dz_n] at h
  | [a], pc, k, _, h => by
    unfold dz_k at h
    rcases Nat.lt_or_ge pc 32 with g | g
    · rw [Nat.div_eq_of_lt g, Nat.mod_eq_of_lt g] at h
      have h' : dz_n a pc = some k := h
      rw [dz_n_eq] at h'
      simpa using h'
    · obtain ⟨q, e⟩ : ∃ q, pc / 32 = q + 1 := ⟨pc / 32 - 1, by omega⟩
      rw [e] at h
      simp [dz_n] at h
  | a :: b :: t, pc, k, ho, h => by
    have ho1 : a.length = 32 := Nat.eq_of_beq_eq_true (Bool.and_eq_true_iff.mp ho).1
    have ho2 : dz_ok (b :: t) = true := (Bool.and_eq_true_iff.mp ho).2
    rcases Nat.lt_or_ge pc 32 with g | g
    · unfold dz_k at h
      rw [Nat.div_eq_of_lt g, Nat.mod_eq_of_lt g] at h
      have h' : dz_n a pc = some k := h
      rw [dz_n_eq] at h'
      rw [List.flatten_cons, List.getElem?_append_left (by omega)]
      exact h'
    · have ih := dz_fl (b :: t) (pc - 32) k ho2 (by
        unfold dz_k at h ⊢
        have e1 : pc / 32 = (pc - 32) / 32 + 1 := by omega
        have e2 : pc % 32 = (pc - 32) % 32 := by omega
        rw [e1, e2] at h
        exact h)
      rw [List.flatten_cons, List.getElem?_append_right (by omega), ho1]
      exact ih
def dz_is (c : ByteArray) (L : List (List Nat)) : Bool := decide (c.data.toList.map UInt8.toNat = L.flatten) && dz_ok L
theorem dz_u1 (h : dz_is c L = true) (hk : dz_k L pc = some k) : (Reader.u1 : Decoder Nat) c pc = .ok (k, pc + 1) := by
  have h1 := of_decide_eq_true (Bool.and_eq_true_iff.mp h).1
  have h2 := dz_fl L pc k (Bool.and_eq_true_iff.mp h).2 hk
  rw [← h1, List.getElem?_map] at h2
  obtain ⟨x, hx, rfl⟩ := Option.map_eq_some_iff.mp h2
  obtain ⟨hl, he⟩ := List.getElem?_eq_some_iff.mp hx
  have hs : pc < c.size := hl
  have e : (Reader.u1 : Decoder Nat) c pc = (if hh : pc < c.size then ((do set (pc + 1); Pure.pure (c[pc]'hh).toNat) : Decoder Nat) else throw (HasTruncated.truncated pc)) c pc := rfl
  rw [e, dif_pos hs, ← he]
  rfl
theorem dz_b {α : Type} {K p : Nat} (G : Nat → Decoder α) (U : (Reader.u1 : Decoder Nat) c pc = .ok (K, p)) : (Bind.bind Reader.u1 G : Decoder α) c pc = G K c p := by
  show Except.bind ((Reader.u1 : Decoder Nat) c pc) (fun v => G v.1 c v.2) = _
  rw [U]
  rfl
theorem dz_d {i : Instr} {p : Nat} (U : (Decoder.instr pc) c pc = .ok (i, p)) : decode c pc = .ok (i, p - pc) := by
  show Except.bind ((Decoder.instr pc) c pc) (fun q => Except.ok (q.1, q.2 - pc)) = _
  rw [U]
  rfl
theorem dz_d1 {i : Instr} (U : (Decoder.instr pc) c pc = .ok (i, pc + 1)) : decode c pc = .ok (i, 1) := by
  rw [dz_d U, Nat.add_sub_cancel_left]
theorem dz_d2 {i : Instr} (U : (Decoder.instr pc) c pc = .ok (i, pc + 1 + 1)) : decode c pc = .ok (i, 2) := by
  rw [dz_d U, Nat.add_assoc, Nat.add_sub_cancel_left]
theorem dz_d3 {i : Instr} (U : (Decoder.instr pc) c pc = .ok (i, pc + 1 + 1 + 1)) : decode c pc = .ok (i, 3) := by
  rw [dz_d U, Nat.add_assoc, Nat.add_assoc, Nat.add_sub_cancel_left]
def dz_O0 (K : Nat) (i : Instr) : Prop := ∀ (c : ByteArray) (pc : Nat), (Reader.u1 : Decoder Nat) c pc = .ok (K, pc + 1) → decode c pc = .ok (i, 1)
def dz_O1 (K : Nat) (F : Nat → Instr) : Prop := ∀ (c : ByteArray) (pc a : Nat), (Reader.u1 : Decoder Nat) c pc = .ok (K, pc + 1) → (Reader.u1 : Decoder Nat) c (pc + 1) = .ok (a, pc + 1 + 1) → decode c pc = .ok (F a, 2)
def dz_O2 (K : Nat) (F : Nat → Instr) : Prop := ∀ (c : ByteArray) (pc a b : Nat), (Reader.u1 : Decoder Nat) c pc = .ok (K, pc + 1) → (Reader.u1 : Decoder Nat) c (pc + 1) = .ok (a, pc + 1 + 1) → (Reader.u1 : Decoder Nat) c (pc + 1 + 1) = .ok (b, pc + 1 + 1 + 1) → decode c pc = .ok (F (a * 256 + b), 3)
def dz_S2 (K : Nat) (F : Int → Instr) : Prop := ∀ (c : ByteArray) (pc a b : Nat), (Reader.u1 : Decoder Nat) c pc = .ok (K, pc + 1) → (Reader.u1 : Decoder Nat) c (pc + 1) = .ok (a, pc + 1 + 1) → (Reader.u1 : Decoder Nat) c (pc + 1 + 1) = .ok (b, pc + 1 + 1 + 1) → decode c pc = .ok (F (Reader.signed 16 (a * 256 + b)), 3)
def dz_c0 (L : List (List Nat)) (pc K : Nat) : Bool := match dz_k L pc with
  | some k => Nat.beq k K
  | none => false
def dz_c1 (L : List (List Nat)) (pc K n : Nat) : Bool := match dz_k L pc with
  | some k => (match dz_k L (pc + 1) with
    | some a => Nat.beq k K && Nat.beq a n
    | none => false)
  | none => false
def dz_c2 (L : List (List Nat)) (pc K n : Nat) : Bool := match dz_k L pc with
  | some k => (match dz_k L (pc + 1) with
    | some a => (match dz_k L (pc + 2) with
      | some b => Nat.beq k K && Nat.beq (a * 256 + b) n
      | none => false)
    | none => false)
  | none => false
def dz_s2 (L : List (List Nat)) (pc K : Nat) (z : Int) : Bool := match dz_k L pc with
  | some k => (match dz_k L (pc + 1) with
    | some a => (match dz_k L (pc + 2) with
      | some b => Nat.beq k K && decide (Reader.signed 16 (a * 256 + b) = z)
      | none => false)
    | none => false)
  | none => false
theorem dz_e0 {i : Instr} (op : dz_O0 K i) (h : dz_is c L = true) (hc : dz_c0 L pc K = true) : decode c pc = .ok (i, 1) := by
  unfold dz_c0 at hc
  split at hc
  · rename_i k hk
    have e := Nat.eq_of_beq_eq_true hc
    subst e
    exact op c pc (dz_u1 h hk)
  · cases hc
theorem dz_e1 {F : Nat → Instr} (op : dz_O1 K F) (h : dz_is c L = true) (hc : dz_c1 L pc K n = true) : decode c pc = .ok (F n, 2) := by
  unfold dz_c1 at hc
  split at hc
  · rename_i k hk
    split at hc
    · rename_i a ha
      have e := Nat.eq_of_beq_eq_true (Bool.and_eq_true_iff.mp hc).1
      have e2 := Nat.eq_of_beq_eq_true (Bool.and_eq_true_iff.mp hc).2
      subst e; subst e2
      exact op c pc a (dz_u1 h hk) (dz_u1 h ha)
    · cases hc
  · cases hc
theorem dz_e2 {F : Nat → Instr} (op : dz_O2 K F) (h : dz_is c L = true) (hc : dz_c2 L pc K n = true) : decode c pc = .ok (F n, 3) := by
  unfold dz_c2 at hc
  split at hc
  · rename_i k hk
    split at hc
    · rename_i a ha
      split at hc
      · rename_i b hb
        have e := Nat.eq_of_beq_eq_true (Bool.and_eq_true_iff.mp hc).1
        have e2 := Nat.eq_of_beq_eq_true (Bool.and_eq_true_iff.mp hc).2
        subst e; subst e2
        exact op c pc a b (dz_u1 h hk) (dz_u1 h ha) (dz_u1 h hb)
      · cases hc
    · cases hc
  · cases hc
theorem dz_f2 {F : Int → Instr} (op : dz_S2 K F) (h : dz_is c L = true) (hc : dz_s2 L pc K z = true) : decode c pc = .ok (F z, 3) := by
  unfold dz_s2 at hc
  split at hc
  · rename_i k hk
    split at hc
    · rename_i a ha
      split at hc
      · rename_i b hb
        have e := Nat.eq_of_beq_eq_true (Bool.and_eq_true_iff.mp hc).1
        have e2 := of_decide_eq_true (Bool.and_eq_true_iff.mp hc).2
        subst e; subst e2
        exact op c pc a b (dz_u1 h hk) (dz_u1 h ha) (dz_u1 h hb)
      · cases hc
    · cases hc
  · cases hc
theorem dz_bg {α β : Type} {r : Decoder β} {v : β} {p : Nat} (G : β → Decoder α) (U : r c pc = .ok (v, p)) : (Bind.bind r G : Decoder α) c pc = G v c p := by
  show Except.bind (r c pc) (fun v => G v.1 c v.2) = _
  rw [U]
  rfl
theorem dz_u2 {a b : Nat} (A : (Reader.u1 : Decoder Nat) c pc = .ok (a, pc + 1)) (B : (Reader.u1 : Decoder Nat) c (pc + 1) = .ok (b, pc + 1 + 1)) : (Reader.u2 : Decoder Nat) c pc = .ok (a * 256 + b, pc + 1 + 1) :=
  (dz_b (K := a) _ A).trans ((dz_b (K := b) _ B).trans rfl)
theorem dz_w2 {a b : Nat} (A : (Reader.u1 : Decoder Nat) c pc = .ok (a, pc + 1)) (B : (Reader.u1 : Decoder Nat) c (pc + 1) = .ok (b, pc + 1 + 1)) : (Reader.s2 : Decoder Int) c pc = .ok (Reader.signed 16 (a * 256 + b), pc + 1 + 1) := by
  show Except.bind ((Reader.u2 : Decoder Nat) c pc) (fun v => Except.ok (Reader.signed 16 v.1, v.2)) = _
  rw [dz_u2 A B]
  rfl
def dz_S1 (K : Nat) (F : Int → Instr) : Prop := ∀ (c : ByteArray) (pc a : Nat), (Reader.u1 : Decoder Nat) c pc = .ok (K, pc + 1) → (Reader.u1 : Decoder Nat) c (pc + 1) = .ok (a, pc + 1 + 1) → decode c pc = .ok (F (Reader.signed 8 a), 2)
def dz_s1 (L : List (List Nat)) (pc K : Nat) (z : Int) : Bool := match dz_k L pc with
  | some k => (match dz_k L (pc + 1) with
    | some a => Nat.beq k K && decide (Reader.signed 8 a = z)
    | none => false)
  | none => false
theorem dz_f1 {F : Int → Instr} (op : dz_S1 K F) (h : dz_is c L = true) (hc : dz_s1 L pc K z = true) : decode c pc = .ok (F z, 2) := by
  unfold dz_s1 at hc
  split at hc
  · rename_i k hk
    split at hc
    · rename_i a ha
      have e := Nat.eq_of_beq_eq_true (Bool.and_eq_true_iff.mp hc).1
      have e2 := of_decide_eq_true (Bool.and_eq_true_iff.mp hc).2
      subst e; subst e2
      exact op c pc a (dz_u1 h hk) (dz_u1 h ha)
    · cases hc
  · cases hc
theorem dz_w1 {a : Nat} (A : (Reader.u1 : Decoder Nat) c pc = .ok (a, pc + 1)) : (Reader.s1 : Decoder Int) c pc = .ok (Reader.signed 8 a, pc + 1) := by
  show Except.bind ((Reader.u1 : Decoder Nat) c pc) (fun v => Except.ok (Reader.signed 8 v.1, v.2)) = _
  rw [A]
  rfl
def dz_ci (L : List (List Nat)) (pc n : Nat) (z : Int) : Bool := match dz_k L pc with
  | some k => (match dz_k L (pc + 1) with
    | some a => (match dz_k L (pc + 2) with
      | some b => Nat.beq k 132 && (Nat.beq a n && decide (Reader.signed 8 b = z))
      | none => false)
    | none => false)
  | none => false
theorem dz_132 (c : ByteArray) (pc a b : Nat) (U : (Reader.u1 : Decoder Nat) c pc = .ok (132, pc + 1)) (A : (Reader.u1 : Decoder Nat) c (pc + 1) = .ok (a, pc + 1 + 1)) (B : (Reader.u1 : Decoder Nat) c (pc + 1 + 1) = .ok (b, pc + 1 + 1 + 1)) : decode c pc = .ok (.iinc a (Reader.signed 8 b), 3) :=
  dz_d3 ((dz_b (K := 132) _ U).trans ((dz_b (K := a) _ A).trans ((dz_bg (r := Reader.s1) _ (dz_w1 B)).trans rfl)))
theorem dz_ei (h : dz_is c L = true) (hc : dz_ci L pc n z = true) : decode c pc = .ok (.iinc n z, 3) := by
  unfold dz_ci at hc
  split at hc
  · rename_i k hk
    split at hc
    · rename_i a ha
      split at hc
      · rename_i b hb
        have e := Nat.eq_of_beq_eq_true (Bool.and_eq_true_iff.mp hc).1
        have e1 := Bool.and_eq_true_iff.mp (Bool.and_eq_true_iff.mp hc).2
        have e2 := Nat.eq_of_beq_eq_true e1.1
        have e3 := of_decide_eq_true e1.2
        subst e; subst e2; subst e3
        exact dz_132 c pc a b (dz_u1 h hk) (dz_u1 h ha) (dz_u1 h hb)
      · cases hc
    · cases hc
  · cases hc
theorem dz_1 : dz_O0 1 .aconst_null := fun c pc U => dz_d1 ((dz_b (K := 1) _ U).trans rfl)
theorem dz_2 : dz_O0 2 (.iconst (-1)) := fun c pc U => dz_d1 ((dz_b (K := 2) _ U).trans rfl)
theorem dz_3 : dz_O0 3 (.iconst 0) := fun c pc U => dz_d1 ((dz_b (K := 3) _ U).trans rfl)
theorem dz_4 : dz_O0 4 (.iconst 1) := fun c pc U => dz_d1 ((dz_b (K := 4) _ U).trans rfl)
theorem dz_5 : dz_O0 5 (.iconst 2) := fun c pc U => dz_d1 ((dz_b (K := 5) _ U).trans rfl)
theorem dz_6 : dz_O0 6 (.iconst 3) := fun c pc U => dz_d1 ((dz_b (K := 6) _ U).trans rfl)
theorem dz_7 : dz_O0 7 (.iconst 4) := fun c pc U => dz_d1 ((dz_b (K := 7) _ U).trans rfl)
theorem dz_8 : dz_O0 8 (.iconst 5) := fun c pc U => dz_d1 ((dz_b (K := 8) _ U).trans rfl)
theorem dz_9 : dz_O0 9 (.lconst 0) := fun c pc U => dz_d1 ((dz_b (K := 9) _ U).trans rfl)
theorem dz_10 : dz_O0 10 (.lconst 1) := fun c pc U => dz_d1 ((dz_b (K := 10) _ U).trans rfl)
theorem dz_26 : dz_O0 26 (.iload_n 0) := fun c pc U => dz_d1 ((dz_b (K := 26) _ U).trans rfl)
theorem dz_27 : dz_O0 27 (.iload_n 1) := fun c pc U => dz_d1 ((dz_b (K := 27) _ U).trans rfl)
theorem dz_28 : dz_O0 28 (.iload_n 2) := fun c pc U => dz_d1 ((dz_b (K := 28) _ U).trans rfl)
theorem dz_29 : dz_O0 29 (.iload_n 3) := fun c pc U => dz_d1 ((dz_b (K := 29) _ U).trans rfl)
theorem dz_30 : dz_O0 30 (.lload_n 0) := fun c pc U => dz_d1 ((dz_b (K := 30) _ U).trans rfl)
theorem dz_31 : dz_O0 31 (.lload_n 1) := fun c pc U => dz_d1 ((dz_b (K := 31) _ U).trans rfl)
theorem dz_32 : dz_O0 32 (.lload_n 2) := fun c pc U => dz_d1 ((dz_b (K := 32) _ U).trans rfl)
theorem dz_33 : dz_O0 33 (.lload_n 3) := fun c pc U => dz_d1 ((dz_b (K := 33) _ U).trans rfl)
theorem dz_42 : dz_O0 42 (.aload_n 0) := fun c pc U => dz_d1 ((dz_b (K := 42) _ U).trans rfl)
theorem dz_43 : dz_O0 43 (.aload_n 1) := fun c pc U => dz_d1 ((dz_b (K := 43) _ U).trans rfl)
theorem dz_44 : dz_O0 44 (.aload_n 2) := fun c pc U => dz_d1 ((dz_b (K := 44) _ U).trans rfl)
theorem dz_45 : dz_O0 45 (.aload_n 3) := fun c pc U => dz_d1 ((dz_b (K := 45) _ U).trans rfl)
theorem dz_46 : dz_O0 46 .iaload := fun c pc U => dz_d1 ((dz_b (K := 46) _ U).trans rfl)
theorem dz_47 : dz_O0 47 .laload := fun c pc U => dz_d1 ((dz_b (K := 47) _ U).trans rfl)
theorem dz_50 : dz_O0 50 .aaload := fun c pc U => dz_d1 ((dz_b (K := 50) _ U).trans rfl)
theorem dz_51 : dz_O0 51 .baload := fun c pc U => dz_d1 ((dz_b (K := 51) _ U).trans rfl)
theorem dz_59 : dz_O0 59 (.istore_n 0) := fun c pc U => dz_d1 ((dz_b (K := 59) _ U).trans rfl)
theorem dz_60 : dz_O0 60 (.istore_n 1) := fun c pc U => dz_d1 ((dz_b (K := 60) _ U).trans rfl)
theorem dz_61 : dz_O0 61 (.istore_n 2) := fun c pc U => dz_d1 ((dz_b (K := 61) _ U).trans rfl)
theorem dz_62 : dz_O0 62 (.istore_n 3) := fun c pc U => dz_d1 ((dz_b (K := 62) _ U).trans rfl)
theorem dz_63 : dz_O0 63 (.lstore_n 0) := fun c pc U => dz_d1 ((dz_b (K := 63) _ U).trans rfl)
theorem dz_64 : dz_O0 64 (.lstore_n 1) := fun c pc U => dz_d1 ((dz_b (K := 64) _ U).trans rfl)
theorem dz_65 : dz_O0 65 (.lstore_n 2) := fun c pc U => dz_d1 ((dz_b (K := 65) _ U).trans rfl)
theorem dz_66 : dz_O0 66 (.lstore_n 3) := fun c pc U => dz_d1 ((dz_b (K := 66) _ U).trans rfl)
theorem dz_76 : dz_O0 76 (.astore_n 1) := fun c pc U => dz_d1 ((dz_b (K := 76) _ U).trans rfl)
theorem dz_77 : dz_O0 77 (.astore_n 2) := fun c pc U => dz_d1 ((dz_b (K := 77) _ U).trans rfl)
theorem dz_78 : dz_O0 78 (.astore_n 3) := fun c pc U => dz_d1 ((dz_b (K := 78) _ U).trans rfl)
theorem dz_79 : dz_O0 79 .iastore := fun c pc U => dz_d1 ((dz_b (K := 79) _ U).trans rfl)
theorem dz_80 : dz_O0 80 .lastore := fun c pc U => dz_d1 ((dz_b (K := 80) _ U).trans rfl)
theorem dz_83 : dz_O0 83 .aastore := fun c pc U => dz_d1 ((dz_b (K := 83) _ U).trans rfl)
theorem dz_84 : dz_O0 84 .bastore := fun c pc U => dz_d1 ((dz_b (K := 84) _ U).trans rfl)
theorem dz_87 : dz_O0 87 .pop := fun c pc U => dz_d1 ((dz_b (K := 87) _ U).trans rfl)
theorem dz_88 : dz_O0 88 .pop2 := fun c pc U => dz_d1 ((dz_b (K := 88) _ U).trans rfl)
theorem dz_89 : dz_O0 89 .dup := fun c pc U => dz_d1 ((dz_b (K := 89) _ U).trans rfl)
theorem dz_90 : dz_O0 90 .dup_x1 := fun c pc U => dz_d1 ((dz_b (K := 90) _ U).trans rfl)
theorem dz_92 : dz_O0 92 .dup2 := fun c pc U => dz_d1 ((dz_b (K := 92) _ U).trans rfl)
theorem dz_96 : dz_O0 96 .iadd := fun c pc U => dz_d1 ((dz_b (K := 96) _ U).trans rfl)
theorem dz_97 : dz_O0 97 .ladd := fun c pc U => dz_d1 ((dz_b (K := 97) _ U).trans rfl)
theorem dz_100 : dz_O0 100 .isub := fun c pc U => dz_d1 ((dz_b (K := 100) _ U).trans rfl)
theorem dz_101 : dz_O0 101 .lsub := fun c pc U => dz_d1 ((dz_b (K := 101) _ U).trans rfl)
theorem dz_104 : dz_O0 104 .imul := fun c pc U => dz_d1 ((dz_b (K := 104) _ U).trans rfl)
theorem dz_105 : dz_O0 105 .lmul := fun c pc U => dz_d1 ((dz_b (K := 105) _ U).trans rfl)
theorem dz_108 : dz_O0 108 .idiv := fun c pc U => dz_d1 ((dz_b (K := 108) _ U).trans rfl)
theorem dz_109 : dz_O0 109 .ldiv := fun c pc U => dz_d1 ((dz_b (K := 109) _ U).trans rfl)
theorem dz_112 : dz_O0 112 .irem := fun c pc U => dz_d1 ((dz_b (K := 112) _ U).trans rfl)
theorem dz_113 : dz_O0 113 .lrem := fun c pc U => dz_d1 ((dz_b (K := 113) _ U).trans rfl)
theorem dz_116 : dz_O0 116 .ineg := fun c pc U => dz_d1 ((dz_b (K := 116) _ U).trans rfl)
theorem dz_117 : dz_O0 117 .lneg := fun c pc U => dz_d1 ((dz_b (K := 117) _ U).trans rfl)
theorem dz_120 : dz_O0 120 .ishl := fun c pc U => dz_d1 ((dz_b (K := 120) _ U).trans rfl)
theorem dz_122 : dz_O0 122 .ishr := fun c pc U => dz_d1 ((dz_b (K := 122) _ U).trans rfl)
theorem dz_124 : dz_O0 124 .iushr := fun c pc U => dz_d1 ((dz_b (K := 124) _ U).trans rfl)
theorem dz_126 : dz_O0 126 .iand := fun c pc U => dz_d1 ((dz_b (K := 126) _ U).trans rfl)
theorem dz_128 : dz_O0 128 .ior := fun c pc U => dz_d1 ((dz_b (K := 128) _ U).trans rfl)
theorem dz_130 : dz_O0 130 .ixor := fun c pc U => dz_d1 ((dz_b (K := 130) _ U).trans rfl)
theorem dz_131 : dz_O0 131 .lxor := fun c pc U => dz_d1 ((dz_b (K := 131) _ U).trans rfl)
theorem dz_133 : dz_O0 133 .i2l := fun c pc U => dz_d1 ((dz_b (K := 133) _ U).trans rfl)
theorem dz_136 : dz_O0 136 .l2i := fun c pc U => dz_d1 ((dz_b (K := 136) _ U).trans rfl)
theorem dz_145 : dz_O0 145 .i2b := fun c pc U => dz_d1 ((dz_b (K := 145) _ U).trans rfl)
theorem dz_146 : dz_O0 146 .i2c := fun c pc U => dz_d1 ((dz_b (K := 146) _ U).trans rfl)
theorem dz_148 : dz_O0 148 .lcmp := fun c pc U => dz_d1 ((dz_b (K := 148) _ U).trans rfl)
theorem dz_172 : dz_O0 172 .ireturn := fun c pc U => dz_d1 ((dz_b (K := 172) _ U).trans rfl)
theorem dz_173 : dz_O0 173 .lreturn := fun c pc U => dz_d1 ((dz_b (K := 173) _ U).trans rfl)
theorem dz_176 : dz_O0 176 .areturn := fun c pc U => dz_d1 ((dz_b (K := 176) _ U).trans rfl)
theorem dz_177 : dz_O0 177 .return_ := fun c pc U => dz_d1 ((dz_b (K := 177) _ U).trans rfl)
theorem dz_190 : dz_O0 190 .arraylength := fun c pc U => dz_d1 ((dz_b (K := 190) _ U).trans rfl)
theorem dz_191 : dz_O0 191 .athrow := fun c pc U => dz_d1 ((dz_b (K := 191) _ U).trans rfl)
theorem dz_18 : dz_O1 18 .ldc := fun c pc a U A => dz_d2 ((dz_b (K := 18) _ U).trans ((dz_b (K := a) _ A).trans rfl))
theorem dz_21 : dz_O1 21 .iload := fun c pc a U A => dz_d2 ((dz_b (K := 21) _ U).trans ((dz_b (K := a) _ A).trans rfl))
theorem dz_22 : dz_O1 22 .lload := fun c pc a U A => dz_d2 ((dz_b (K := 22) _ U).trans ((dz_b (K := a) _ A).trans rfl))
theorem dz_25 : dz_O1 25 .aload := fun c pc a U A => dz_d2 ((dz_b (K := 25) _ U).trans ((dz_b (K := a) _ A).trans rfl))
theorem dz_54 : dz_O1 54 .istore := fun c pc a U A => dz_d2 ((dz_b (K := 54) _ U).trans ((dz_b (K := a) _ A).trans rfl))
theorem dz_55 : dz_O1 55 .lstore := fun c pc a U A => dz_d2 ((dz_b (K := 55) _ U).trans ((dz_b (K := a) _ A).trans rfl))
theorem dz_58 : dz_O1 58 .astore := fun c pc a U A => dz_d2 ((dz_b (K := 58) _ U).trans ((dz_b (K := a) _ A).trans rfl))
theorem dz_16 : dz_S1 16 .bipush := fun c pc a U A => dz_d2 ((dz_b (K := 16) _ U).trans ((dz_bg (r := Reader.s1) _ (dz_w1 A)).trans rfl))
theorem dz_19 : dz_O2 19 .ldc_w := fun c pc a b U A B => dz_d3 ((dz_b (K := 19) _ U).trans ((dz_bg (r := Reader.u2) _ (dz_u2 A B)).trans rfl))
theorem dz_20 : dz_O2 20 .ldc2_w := fun c pc a b U A B => dz_d3 ((dz_b (K := 20) _ U).trans ((dz_bg (r := Reader.u2) _ (dz_u2 A B)).trans rfl))
theorem dz_178 : dz_O2 178 .getstatic := fun c pc a b U A B => dz_d3 ((dz_b (K := 178) _ U).trans ((dz_bg (r := Reader.u2) _ (dz_u2 A B)).trans rfl))
theorem dz_180 : dz_O2 180 .getfield := fun c pc a b U A B => dz_d3 ((dz_b (K := 180) _ U).trans ((dz_bg (r := Reader.u2) _ (dz_u2 A B)).trans rfl))
theorem dz_181 : dz_O2 181 .putfield := fun c pc a b U A B => dz_d3 ((dz_b (K := 181) _ U).trans ((dz_bg (r := Reader.u2) _ (dz_u2 A B)).trans rfl))
theorem dz_182 : dz_O2 182 .invokevirtual := fun c pc a b U A B => dz_d3 ((dz_b (K := 182) _ U).trans ((dz_bg (r := Reader.u2) _ (dz_u2 A B)).trans rfl))
theorem dz_183 : dz_O2 183 .invokespecial := fun c pc a b U A B => dz_d3 ((dz_b (K := 183) _ U).trans ((dz_bg (r := Reader.u2) _ (dz_u2 A B)).trans rfl))
theorem dz_184 : dz_O2 184 .invokestatic := fun c pc a b U A B => dz_d3 ((dz_b (K := 184) _ U).trans ((dz_bg (r := Reader.u2) _ (dz_u2 A B)).trans rfl))
theorem dz_187 : dz_O2 187 .new := fun c pc a b U A B => dz_d3 ((dz_b (K := 187) _ U).trans ((dz_bg (r := Reader.u2) _ (dz_u2 A B)).trans rfl))
theorem dz_189 : dz_O2 189 .anewarray := fun c pc a b U A B => dz_d3 ((dz_b (K := 189) _ U).trans ((dz_bg (r := Reader.u2) _ (dz_u2 A B)).trans rfl))
theorem dz_192 : dz_O2 192 .checkcast := fun c pc a b U A B => dz_d3 ((dz_b (K := 192) _ U).trans ((dz_bg (r := Reader.u2) _ (dz_u2 A B)).trans rfl))
theorem dz_17 : dz_S2 17 .sipush := fun c pc a b U A B => dz_d3 ((dz_b (K := 17) _ U).trans ((dz_bg (r := Reader.s2) _ (dz_w2 A B)).trans rfl))
theorem dz_153 : dz_S2 153 (.ifCond .eq) := fun c pc a b U A B => dz_d3 ((dz_b (K := 153) _ U).trans ((dz_bg (r := Reader.s2) _ (dz_w2 A B)).trans rfl))
theorem dz_154 : dz_S2 154 (.ifCond .ne) := fun c pc a b U A B => dz_d3 ((dz_b (K := 154) _ U).trans ((dz_bg (r := Reader.s2) _ (dz_w2 A B)).trans rfl))
theorem dz_155 : dz_S2 155 (.ifCond .lt) := fun c pc a b U A B => dz_d3 ((dz_b (K := 155) _ U).trans ((dz_bg (r := Reader.s2) _ (dz_w2 A B)).trans rfl))
theorem dz_156 : dz_S2 156 (.ifCond .ge) := fun c pc a b U A B => dz_d3 ((dz_b (K := 156) _ U).trans ((dz_bg (r := Reader.s2) _ (dz_w2 A B)).trans rfl))
theorem dz_157 : dz_S2 157 (.ifCond .gt) := fun c pc a b U A B => dz_d3 ((dz_b (K := 157) _ U).trans ((dz_bg (r := Reader.s2) _ (dz_w2 A B)).trans rfl))
theorem dz_158 : dz_S2 158 (.ifCond .le) := fun c pc a b U A B => dz_d3 ((dz_b (K := 158) _ U).trans ((dz_bg (r := Reader.s2) _ (dz_w2 A B)).trans rfl))
theorem dz_159 : dz_S2 159 (.if_icmp .eq) := fun c pc a b U A B => dz_d3 ((dz_b (K := 159) _ U).trans ((dz_bg (r := Reader.s2) _ (dz_w2 A B)).trans rfl))
theorem dz_160 : dz_S2 160 (.if_icmp .ne) := fun c pc a b U A B => dz_d3 ((dz_b (K := 160) _ U).trans ((dz_bg (r := Reader.s2) _ (dz_w2 A B)).trans rfl))
theorem dz_161 : dz_S2 161 (.if_icmp .lt) := fun c pc a b U A B => dz_d3 ((dz_b (K := 161) _ U).trans ((dz_bg (r := Reader.s2) _ (dz_w2 A B)).trans rfl))
theorem dz_162 : dz_S2 162 (.if_icmp .ge) := fun c pc a b U A B => dz_d3 ((dz_b (K := 162) _ U).trans ((dz_bg (r := Reader.s2) _ (dz_w2 A B)).trans rfl))
theorem dz_163 : dz_S2 163 (.if_icmp .gt) := fun c pc a b U A B => dz_d3 ((dz_b (K := 163) _ U).trans ((dz_bg (r := Reader.s2) _ (dz_w2 A B)).trans rfl))
theorem dz_164 : dz_S2 164 (.if_icmp .le) := fun c pc a b U A B => dz_d3 ((dz_b (K := 164) _ U).trans ((dz_bg (r := Reader.s2) _ (dz_w2 A B)).trans rfl))
theorem dz_167 : dz_S2 167 .goto := fun c pc a b U A B => dz_d3 ((dz_b (K := 167) _ U).trans ((dz_bg (r := Reader.s2) _ (dz_w2 A B)).trans rfl))
theorem dz_198 : dz_S2 198 .ifnull := fun c pc a b U A B => dz_d3 ((dz_b (K := 198) _ U).trans ((dz_bg (r := Reader.s2) _ (dz_w2 A B)).trans rfl))
theorem dz_199 : dz_S2 199 .ifnonnull := fun c pc a b U A B => dz_d3 ((dz_b (K := 199) _ U).trans ((dz_bg (r := Reader.s2) _ (dz_w2 A B)).trans rfl))
end DZ
