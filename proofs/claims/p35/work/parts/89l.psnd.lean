/-! ===== Both sides are sound: what the steps keep ===== -/
section PDO
variable {g g1 g2 g3 h h1 h2 h3 : Nat → Int64} {a a1 a2 a3 b b1 b2 b3 n : Nat} {x : Int64}
/-- sums of products are linear -/
theorem dot_c2 : ∀ n : Nat, (∀ m, m < n → g (a * 5 + m) = g2 (a2 * 5 + m)) → (∀ m, m < n → h (m * 5 + b) = h2 (m * 5 + b2)) → dot n g h a b = dot n g2 h2 a2 b2 := by
  intro n
  induction n with
  | zero => intro _ _; rfl
  | succ n ih =>
    intro k1 k2
    rw [dot_s, dot_s, ih (fun m hm => k1 m (by omega)) (fun m hm => k2 m (by omega)), k1 n (by omega), k2 n (by omega)]
theorem dot_nl : ∀ n : Nat, (∀ m, m < n → g (a * 5 + m) = -g2 (a2 * 5 + m)) → dot n g h a b = -dot n g2 h a2 b := by
  intro n
  induction n with
  | zero => intro _; show (0 : Int64) = -0; decide +kernel
  | succ n ih =>
    intro k1
    rw [dot_s, dot_s, ih (fun m hm => k1 m (by omega)), k1 n (by omega)]
    grind
theorem dot_ll : ∀ n : Nat, (∀ m, m < n → g (a * 5 + m) = g2 (a2 * 5 + m) + x * g3 (a3 * 5 + m)) → dot n g h a b = dot n g2 h a2 b + x * dot n g3 h a3 b := by
  intro n
  induction n with
  | zero => intro _; show (0 : Int64) = 0 + x * 0; grind
  | succ n ih =>
    intro k1
    rw [dot_s, dot_s, dot_s, ih (fun m hm => k1 m (by omega)), k1 n (by omega)]
    grind
theorem dot_lr : ∀ n : Nat, (∀ m, m < n → h (m * 5 + b) = h2 (m * 5 + b2) + x * h3 (m * 5 + b3)) → dot n g h a b = dot n g h2 a b2 + x * dot n g h3 a b3 := by
  intro n
  induction n with
  | zero => intro _; show (0 : Int64) = 0 + x * 0; grind
  | succ n ih =>
    intro k1
    rw [dot_s, dot_s, dot_s, ih (fun m hm => k1 m (by omega)), k1 n (by omega)]
    grind
end PDO
section PRW
variable {R C : Nat} {g w v u : Nat → Int64}
/-- the change and the table make the form -/
def Pl (R C : Nat) (g w v : Nat → Int64) : Prop := ∀ a b, a < R → b < C → dot R v g a b = w (a * 5 + b)
theorem Pl_xr {i j : Nat} (hR : R ≤ 5) (hC : C ≤ 5) (hi : i < R) (hj : j < R) (h : Pl R C g w v) : Pl R C g (xr C i j w) (xr R i j v) := by
  intro a b ha hb
  have h1 : ∀ (T : Nat) (f : Nat → Int64) (m : Nat), T ≤ 5 → m < T → xr T i j f (a * 5 + m) = f ((if a = i then j else if a = j then i else a) * 5 + m) := fun T f m hT hm => by
    unfold xr
    by_cases e1 : a = i
    · rw [if_pos (by omega), if_pos e1]; congr 1; omega
    · by_cases e2 : a = j
      · rw [if_neg (by omega), if_pos (by omega), if_neg e1, if_pos e2]; congr 1; omega
      · rw [if_neg (by omega), if_neg (by omega), if_neg e1, if_neg e2]
  rw [h1 C w b hC hb, dot_c2 (a2 := if a = i then j else if a = j then i else a) (b2 := b) (g2 := v) (h2 := g) R (fun m hm => h1 R v m hR hm) (fun m _ => rfl)]
  exact h _ b (by (repeat' split) <;> omega) hb
theorem Pl_tr {i : Nat} (hR : R ≤ 5) (hC : C ≤ 5) (h : Pl R C g w v) : Pl R C g (tr C i w) (tr R i v) := by
  intro a b ha hb
  by_cases e : a = i
  · have h1 : ∀ (T : Nat) (f : Nat → Int64) (m : Nat), T ≤ 5 → m < T → tr T i f (a * 5 + m) = -f (a * 5 + m) := fun T f m hT hm => by
      unfold tr
      rw [if_pos (by omega)]
    rw [h1 C w b hC hb, dot_nl (a2 := a) (g2 := v) R (fun m hm => h1 R v m hR hm), h a b ha hb]
  · have h1 : ∀ (T : Nat) (f : Nat → Int64) (m : Nat), T ≤ 5 → m < T → tr T i f (a * 5 + m) = f (a * 5 + m) := fun T f m hT hm => by
      unfold tr
      rw [if_neg (by omega)]
    rw [h1 C w b hC hb, dot_c2 (a2 := a) (b2 := b) (g2 := v) (h2 := g) R (fun m hm => h1 R v m hR hm) (fun m _ => rfl)]
    exact h a b ha hb
theorem ar_if {T i j a m : Nat} {x : Int64} {f : Nat → Int64} (hT : T ≤ 5) (hm : m < T) : ar T i j x f (a * 5 + m) = if a = i then f (a * 5 + m) + x * f (j * 5 + m) else f (a * 5 + m) := by
  unfold ar
  by_cases e : a = i
  · rw [if_pos (by omega), if_pos e, show (a * 5 + m) % 5 = m by omega]
  · rw [if_neg (by omega), if_neg e]
theorem Pl_ar {i j : Nat} {x : Int64} (hR : R ≤ 5) (hC : C ≤ 5) (hj : j < R) (h : Pl R C g w v) : Pl R C g (ar C i j x w) (ar R i j x v) := by
  intro a b ha hb
  rw [ar_if hC hb]
  by_cases e : a = i
  · rw [if_pos e, dot_ll (a2 := a) (a3 := j) (g2 := v) (g3 := v) (x := x) R (fun m hm => by rw [ar_if hR hm, if_pos e]), h a b ha hb, h j b hj hb]
  · rw [if_neg e, dot_c2 (a2 := a) (b2 := b) (g2 := v) (h2 := g) R (fun m hm => by rw [ar_if hR hm, if_neg e]) (fun m _ => rfl)]
    exact h a b ha hb
theorem Pl_un (hR : R ≤ 3) (hC : C ≤ 5) : Pl R C w w (un R (fun _ => 0)) := by
  intro a b ha hb
  have hu : ∀ m, m < R → un R (fun _ => 0) (a * 5 + m) = if m = a then 1 else 0 := fun m hm => by
    unfold un
    by_cases e : m = a
    · rw [if_pos (by omega), if_pos e]
    · rw [if_neg (by omega), if_neg e]
  have hd : ∀ n, n ≤ R → dot n (un R (fun _ => 0)) w a b = if a < n then w (a * 5 + b) else 0 := by
    intro n
    induction n with
    | zero => intro _; rw [if_neg (by omega)]; rfl
    | succ n ih =>
      intro hn
      rw [dot_s, ih (by omega), hu n (by omega)]
      by_cases e : n = a
      · rw [if_neg (by omega), if_pos e, if_pos (by omega), e]
        grind
      · rw [if_neg e]
        by_cases e2 : a < n
        · rw [if_pos e2, if_pos (by omega)]; grind
        · rw [if_neg e2, if_neg (by omega)]; grind
  rw [hd R (Nat.le_refl _), if_pos ha]
/-- stepped, as far as row x and column y: the columns of the rows ahead of x -/
def Ech (R x y : Nat) (w : Nat → Int64) : Prop := x ≤ y ∧ (∀ a b, x ≤ a → a < R → b < y → w (a * 5 + b) = 0) ∧ ∃ p : Nat → Nat, ∀ i, i < x → p i < y ∧ i ≤ p i ∧ ¬ w (i * 5 + p i) = 0 ∧ (∀ a, i < a → a < R → w (a * 5 + p i) = 0) ∧ (∀ b, b < p i → w (i * 5 + b) = 0) ∧ ∀ i', i' < i → p i' < p i
theorem Ech_keep {x y : Nat} {w1 : Nat → Int64} (hx : x ≤ R) (h : Ech R x y w) (hk : ∀ a b, a < R → b < y → w1 (a * 5 + b) = w (a * 5 + b)) : Ech R x y w1 := by
  obtain ⟨h1, h2, p, h3⟩ := h
  refine ⟨h1, fun a b ha1 ha2 hb => by rw [hk a b ha2 hb]; exact h2 a b ha1 ha2 hb, p, fun i hi => ?_⟩
  obtain ⟨k1, k2, k3, k4, k5, k6⟩ := h3 i hi
  exact ⟨k1, k2, by rw [hk i (p i) (by omega) k1]; exact k3, fun a ha1 ha2 => by rw [hk a (p i) ha2 k1]; exact k4 a ha1 ha2, fun b hb => by rw [hk i b (by omega) (by omega)]; exact k5 b hb, k6⟩
theorem Ech_0 : Ech R 0 0 w := ⟨Nat.le_refl _, fun _ _ _ _ h => absurd h (by omega), fun _ => 0, fun i hi => absurd hi (by omega)⟩
theorem Ech_n {x y : Nat} (h : Ech R x y w) (hz : ∀ a, x ≤ a → a < R → w (a * 5 + y) = 0) : Ech R x (y + 1) w := by
  obtain ⟨h1, h2, p, h3⟩ := h
  refine ⟨by omega, fun a b ha1 ha2 hb => ?_, p, fun i hi => ?_⟩
  · by_cases e : b = y
    · rw [e]; exact hz a ha1 ha2
    · exact h2 a b ha1 ha2 (by omega)
  · obtain ⟨k1, k2⟩ := h3 i hi
    exact ⟨by omega, k2⟩
theorem Ech_p {x y : Nat} (hx : x < R) (h : Ech R x y w) (hp : 0 < (w (x * 5 + y)).toInt) (hz : ∀ a, x < a → a < R → w (a * 5 + y) = 0) : Ech R (x + 1) (y + 1) w := by
  obtain ⟨h1, h2, p, h3⟩ := h
  refine ⟨by omega, fun a b ha1 ha2 hb => ?_, fun i => if i = x then y else p i, fun i hi => ?_⟩
  · by_cases e : b = y
    · rw [e]; exact hz a (by omega) ha2
    · exact h2 a b (by omega) ha2 (by omega)
  · show (if i = x then y else p i) < y + 1 ∧ i ≤ (if i = x then y else p i) ∧ ¬ w (i * 5 + (if i = x then y else p i)) = 0 ∧ (∀ a, i < a → a < R → w (a * 5 + (if i = x then y else p i)) = 0) ∧ (∀ b, b < (if i = x then y else p i) → w (i * 5 + b) = 0) ∧ ∀ i', i' < i → (if i' = x then y else p i') < (if i = x then y else p i)
    by_cases e : i = x
    · rw [if_pos e, e]
      exact ⟨by omega, h1, nzp hp, fun a ha1 ha2 => hz a ha1 ha2, fun b hb => h2 x b (Nat.le_refl _) hx hb, fun i' hi' => by rw [if_neg (by omega)]; exact (h3 i' hi').1⟩
    · obtain ⟨k1, k2, k3, k4, k5, k6⟩ := h3 i (by omega)
      rw [if_neg e]
      exact ⟨by omega, k2, k3, k4, k5, fun i' hi' => by rw [if_neg (by omega)]; exact k6 i' hi'⟩
/-- what the row steps keep -/
def Jr (R C : Nat) (g : Nat → Int64) (x y : Nat) (w v : Nat → Int64) (s : Int32) : Prop := Zq (mxi R C g) (mxi R C w) ∧ Pl R C g w v ∧ Ech R x y w ∧ Sg s (dtn R v) ∧ (R = C → dtn R w = dtn R v * dtn R g)
theorem jr_all (h1 : 1 ≤ R) (hR : R ≤ 3) (hC : C ≤ 3) : JR R C (Jr R C g) := by
  intro x y hx hy w v s hj hF
  obtain ⟨z1, z2, z3, z4, z5⟩ := hj
  have hn : ∀ k, k < R * 5 → ng (w k) := hF.1.1
  have hz := z3.2.1
  refine ⟨fun i j a1 a2 a3 a4 a5 => ⟨Zq_tr z1 (Zq_xr hR (by omega) a2 a4 a5), Pl_xr (by omega) (by omega) a2 a4 z2, Ech_keep (by omega) z3 (fun a b ha hb => ?_), ?_, fun e => ?_⟩, fun i a1 a2 => ⟨Zq_tr z1 (Zq_tr' hR (by omega) a2 hn), Pl_tr (by omega) (by omega) z2, Ech_keep (by omega) z3 (fun a b ha hb => ?_), ?_, fun e => ?_⟩, fun i j t a1 a2 a3 a4 a5 _ => ⟨Zq_tr z1 (Zq_ar hR (by omega) a1 a3 a4 hn a5), Pl_ar (by omega) (by omega) a3 z2, Ech_keep (by omega) z3 (fun a b ha hb => ?_), ?_, fun e => ?_⟩, fun hc => ⟨z1, z2, Ech_n z3 hc, z4, z5⟩, fun hc => ⟨z1, z2, Ech_p hx z3 hc.1 hc.2, z4, z5⟩⟩
  · unfold xr
    by_cases e1 : a = i
    · rw [if_pos (by omega), show (a * 5 + b) % 5 = b by omega, hz j b a3 a4 hb, e1, hz i b a1 a2 hb]
    · by_cases e2 : a = j
      · rw [if_neg (by omega), if_pos (by omega), show (a * 5 + b) % 5 = b by omega, hz i b a1 a2 hb, e2, hz j b a3 a4 hb]
      · rw [if_neg (by omega), if_neg (by omega)]
  · rw [dx_xr h1 (by omega) a2 a4 a5]; exact Sg_neg z4
  · subst e
    rw [dx_xr h1 (by omega) a2 a4 a5, dx_xr h1 (by omega) a2 a4 a5, z5 rfl]
    grind
  · unfold tr
    by_cases e1 : a = i
    · rw [if_pos (by omega), e1, hz i b a1 a2 hb]; rfl
    · rw [if_neg (by omega)]
  · rw [dx_tr h1 (by omega) a2]; exact Sg_neg z4
  · subst e
    rw [dx_tr h1 (by omega) a2, dx_tr h1 (by omega) a2, z5 rfl]
    grind
  · rw [ar_if (show C ≤ 5 by omega) (show b < C by omega)]
    split
    · rw [hz j b a2 a3 hb]
      grind
    · rfl
  · rw [dx_ar h1 (by omega) a1 a3 a4]; exact z4
  · subst e
    rw [dx_ar h1 (by omega) a1 a3 a4, dx_ar h1 (by omega) a1 a3 a4, z5 rfl]
theorem Jr_0 (h1 : 1 ≤ R) (hR : R ≤ 3) (hC : C ≤ 3) : Jr R C g 0 0 g (un R (fun _ => 0)) 1 := ⟨Zq_rf, Pl_un hR (by omega), Ech_0, Sg_un h1 (by omega), fun _ => by rw [un_dt h1 (by omega)]; grind⟩
/-- the left change, the table and the right change make the diagonal -/
def Pz (R C : Nat) (g w v u : Nat → Int64) : Prop := ∀ a b, a < R → b < C → dot C (fun k => dot R v g (k / 5) (k % 5)) u a b = w (a * 5 + b)
theorem pz_at {a m : Nat} (hm : m < 5) : (fun k => dot R v g (k / 5) (k % 5)) (a * 5 + m) = dot R v g a m := by
  show dot R v g ((a * 5 + m) / 5) ((a * 5 + m) % 5) = _
  rw [show (a * 5 + m) / 5 = a by omega, show (a * 5 + m) % 5 = m by omega]
theorem pz_b {v g : Nat → Int64} {R a m : Nat} (hm : m < 5) : dot R v g ((a * 5 + m) / 5) ((a * 5 + m) % 5) = dot R v g a m := by
  rw [show (a * 5 + m) / 5 = a by omega, show (a * 5 + m) % 5 = m by omega]
theorem Pz_xr {i j : Nat} (hR : R ≤ 5) (hC : C ≤ 5) (hi : i < R) (hj : j < R) (h : Pz R C g w v u) : Pz R C g (xr C i j w) (xr R i j v) u := by
  intro a b ha hb
  have h1 : ∀ (T : Nat) (f : Nat → Int64) (m : Nat), T ≤ 5 → m < T → xr T i j f (a * 5 + m) = f ((if a = i then j else if a = j then i else a) * 5 + m) := fun T f m hT hm => by
    unfold xr
    by_cases e1 : a = i
    · rw [if_pos (by omega), if_pos e1]; congr 1; omega
    · by_cases e2 : a = j
      · rw [if_neg (by omega), if_pos (by omega), if_neg e1, if_pos e2]; congr 1; omega
      · rw [if_neg (by omega), if_neg (by omega), if_neg e1, if_neg e2]
  rw [h1 C w b hC hb, dot_c2 (a2 := if a = i then j else if a = j then i else a) (b2 := b) (g2 := fun k => dot R v g (k / 5) (k % 5)) (h2 := u) C (fun m hm => by
    rw [pz_b (by omega), pz_b (by omega)]
    exact dot_c2 R (fun k hk => h1 R v k hR hk) (fun _ _ => rfl)) (fun m _ => rfl)]
  exact h _ b (by (repeat' split) <;> omega) hb
theorem Pz_tr {i : Nat} (hR : R ≤ 5) (hC : C ≤ 5) (h : Pz R C g w v u) : Pz R C g (tr C i w) (tr R i v) u := by
  intro a b ha hb
  by_cases e : a = i
  · have h1 : ∀ (T : Nat) (f : Nat → Int64) (m : Nat), T ≤ 5 → m < T → tr T i f (a * 5 + m) = -f (a * 5 + m) := fun T f m hT hm => by
      unfold tr
      rw [if_pos (by omega)]
    rw [h1 C w b hC hb, dot_nl (a2 := a) (g2 := fun k => dot R v g (k / 5) (k % 5)) C (fun m hm => by
      rw [pz_b (by omega), pz_b (by omega)]
      exact dot_nl R (fun k hk => h1 R v k hR hk)), h a b ha hb]
  · have h1 : ∀ (T : Nat) (f : Nat → Int64) (m : Nat), T ≤ 5 → m < T → tr T i f (a * 5 + m) = f (a * 5 + m) := fun T f m hT hm => by
      unfold tr
      rw [if_neg (by omega)]
    rw [h1 C w b hC hb, dot_c2 (a2 := a) (b2 := b) (g2 := fun k => dot R v g (k / 5) (k % 5)) (h2 := u) C (fun m hm => by
      rw [pz_b (by omega), pz_b (by omega)]
      exact dot_c2 R (fun k hk => h1 R v k hR hk) (fun _ _ => rfl)) (fun m _ => rfl)]
    exact h a b ha hb
theorem Pz_ar {i j : Nat} {x : Int64} (hR : R ≤ 5) (hC : C ≤ 5) (hj : j < R) (h : Pz R C g w v u) : Pz R C g (ar C i j x w) (ar R i j x v) u := by
  intro a b ha hb
  rw [ar_if hC hb]
  by_cases e : a = i
  · rw [if_pos e, dot_ll (a2 := a) (a3 := j) (g2 := fun k => dot R v g (k / 5) (k % 5)) (g3 := fun k => dot R v g (k / 5) (k % 5)) (x := x) C (fun m hm => by
      rw [pz_b (by omega), pz_b (by omega), pz_b (by omega)]
      exact dot_ll R (fun k hk => by rw [ar_if hR hk, if_pos e])), h a b ha hb, h j b hj hb]
  · rw [if_neg e, dot_c2 (a2 := a) (b2 := b) (g2 := fun k => dot R v g (k / 5) (k % 5)) (h2 := u) C (fun m hm => by
      rw [pz_b (by omega), pz_b (by omega)]
      exact dot_c2 R (fun k hk => by rw [ar_if hR hk, if_neg e]) (fun _ _ => rfl)) (fun m _ => rfl)]
    exact h a b ha hb
theorem ac_if {T i j a m : Nat} {x : Int64} {f : Nat → Int64} (ha : a < T) (hm : m < 5) : ac T i j x f (a * 5 + m) = if m = i then f (a * 5 + m) + x * f (a * 5 + j) else f (a * 5 + m) := by
  unfold ac
  by_cases e : m = i
  · rw [if_pos (by omega), if_pos e, show (a * 5 + m) / 5 = a by omega]
  · rw [if_neg (by omega), if_neg e]
theorem Pz_xc {i j : Nat} (hC : C ≤ 4) (hi : i < C) (hj : j < C) (h : Pz R C g w v u) : Pz R C g (xc R i j w) v (xc C i j u) := by
  intro a b ha hb
  have h1 : ∀ (T : Nat) (f : Nat → Int64) (m : Nat), m < T → xc T i j f (m * 5 + b) = f (m * 5 + (if b = i then j else if b = j then i else b)) := fun T f m hm => by
    unfold xc
    by_cases e1 : b = i
    · rw [if_pos (by omega), if_pos e1]; congr 1; omega
    · by_cases e2 : b = j
      · rw [if_neg (by omega), if_pos (by omega), if_neg e1, if_pos e2]; congr 1; omega
      · rw [if_neg (by omega), if_neg (by omega), if_neg e1, if_neg e2]
  rw [h1 R w a ha, dot_c2 (a2 := a) (b2 := if b = i then j else if b = j then i else b) (g2 := fun k => dot R v g (k / 5) (k % 5)) (h2 := u) C (fun m _ => rfl) (fun m hm => h1 C u m hm)]
  exact h a _ ha (by (repeat' split) <;> omega)
theorem Pz_ac {i j : Nat} {x : Int64} (hC : C ≤ 4) (hj : j < C) (h : Pz R C g w v u) : Pz R C g (ac R i j x w) v (ac C i j x u) := by
  intro a b ha hb
  rw [ac_if ha (by omega)]
  by_cases e : b = i
  · rw [if_pos e, dot_lr (b2 := b) (b3 := j) (h2 := u) (h3 := u) (x := x) C (fun m hm => by rw [ac_if hm (by omega), if_pos e]), h a b ha hb, h a j ha hj]
  · rw [if_neg e, dot_c2 (a2 := a) (b2 := b) (g2 := fun k => dot R v g (k / 5) (k % 5)) (h2 := u) C (fun m _ => rfl) (fun m hm => by rw [ac_if hm (by omega), if_neg e])]
    exact h a b ha hb
theorem Pz_un (hR : R ≤ 3) (hC : C ≤ 3) : Pz R C w w (un R (fun _ => 0)) (un C (fun _ => 0)) := by
  intro a b ha hb
  have hu : ∀ m, m < C → un C (fun _ => 0) (m * 5 + b) = if m = b then 1 else 0 := fun m hm => by
    unfold un
    by_cases e : m = b
    · rw [if_pos (by omega), if_pos e]
    · rw [if_neg (by omega), if_neg e]
  have hv : ∀ m, m < C → dot R (un R (fun _ => 0)) w ((a * 5 + m) / 5) ((a * 5 + m) % 5) = w (a * 5 + m) := fun m hm => by
    rw [pz_b (by omega)]
    exact Pl_un hR (by omega) a m ha hm
  have hd : ∀ n, n ≤ C → dot n (fun k => dot R (un R (fun _ => 0)) w (k / 5) (k % 5)) (un C (fun _ => 0)) a b = if b < n then w (a * 5 + b) else 0 := by
    intro n
    induction n with
    | zero => intro _; rw [if_neg (by omega)]; rfl
    | succ n ih =>
      intro hn
      rw [dot_s, ih (by omega), hu n (by omega), hv n (by omega)]
      by_cases e : n = b
      · rw [if_neg (by omega), if_pos e, if_pos (by omega), e]
        grind
      · rw [if_neg e]
        by_cases e2 : b < n
        · rw [if_pos e2, if_pos (by omega)]; grind
        · rw [if_neg e2, if_neg (by omega)]; grind
  rw [hd C (Nat.le_refl _), if_pos hb]
/-- a diagonal, as far as t; each of it divides what lies behind -/
def Dia (R C t : Nat) (w : Nat → Int64) : Prop := ∀ j, j < t → (∀ a, a < R → a ≠ j → w (a * 5 + j) = 0) ∧ (∀ b, b < C → b ≠ j → w (j * 5 + b) = 0) ∧ 0 < (w (j * 5 + j)).toInt ∧ ∀ a b, j ≤ a → a < R → j ≤ b → b < C → (w (j * 5 + j)).toInt ∣ (w (a * 5 + b)).toInt
theorem z_int {x : Int64} (h : x = 0) : x.toInt = 0 := by rw [h]; rfl
theorem Dia_keep {t : Nat} {w1 : Nat → Int64} (htR : t ≤ R) (htC : t ≤ C) (h : Dia R C t w) (k1 : ∀ a b, a < R → b < C → (a < t ∨ b < t) → w1 (a * 5 + b) = w (a * 5 + b)) (k2 : ∀ (z : Int), (∀ a b, t ≤ a → a < R → t ≤ b → b < C → z ∣ (w (a * 5 + b)).toInt) → ∀ a b, t ≤ a → a < R → t ≤ b → b < C → z ∣ (w1 (a * 5 + b)).toInt) : Dia R C t w1 := by
  intro j hj
  obtain ⟨h1, h2, h3, h4⟩ := h j hj
  refine ⟨fun a ha hne => by rw [k1 a j ha (by omega) (Or.inr hj)]; exact h1 a ha hne, fun b hb hne => by rw [k1 j b (by omega) hb (Or.inl hj)]; exact h2 b hb hne, by rw [k1 j j (by omega) (by omega) (Or.inl hj)]; exact h3, fun a b ha1 ha2 hb1 hb2 => ?_⟩
  rw [k1 j j (by omega) (by omega) (Or.inl hj)]
  by_cases e : a < t ∨ b < t
  · rw [k1 a b ha2 hb2 e]; exact h4 a b ha1 ha2 hb1 hb2
  · exact k2 _ (fun a b a1 a2 a3 a4 => h4 a b (by omega) a2 (by omega) a4) a b (by omega) ha2 (by omega) hb2
theorem rem_dvd {y p : Int64} (hp : p ≠ 0) (h : y - y / p * p = 0) : p.toInt ∣ y.toInt := by
  have e := rem_int (x := y) (y := p) hp
  rw [h, show (0 : Int64).toInt = 0 from rfl] at e
  exact Int.dvd_of_tmod_eq_zero e.symm
/-- what the steps to the diagonal keep -/
def Jd (R C : Nat) (g : Nat → Int64) (t : Nat) (w v u : Nat → Int64) : Prop := Zq (mxi R C g) (mxi R C w) ∧ Pz R C g w v u ∧ Dia R C t w
theorem dia_z {t : Nat} (h : Dia R C t w) : ∀ a b, a < R → b < C → (a < t ∨ b < t) → a ≠ b → w (a * 5 + b) = 0 := fun a b ha hb hab hne => by
  rcases hab with e | e
  · exact (h a e).2.1 b hb (fun z => hne z.symm)
  · exact (h b e).1 a ha hne
theorem jd_all (hR : R ≤ 3) (hC : C ≤ 3) : JD R C (fun t w v u _ _ => Jd R C g t w v u) := by
  intro t ht1 ht2 w v u s1 s2 hj hF
  obtain ⟨z1, z2, z3⟩ := hj
  have hn : ∀ k, k < R * 5 → ng (w k) := hF.1.1
  have hz := dia_z z3
  refine ⟨fun i j a1 a2 a3 a4 a5 => ⟨Zq_tr z1 (Zq_xr hR (by omega) a2 a4 a5), Pz_xr (by omega) (by omega) a2 a4 z2, Dia_keep (by omega) (by omega) z3 (fun a b ha hb hab => ?_) (fun z hd a b b1 b2 b3 b4 => ?_)⟩, fun i j a1 a2 a3 a4 a5 => ⟨Zq_tr z1 (Zq_xc hC a2 a4 a5), Pz_xc (by omega) a2 a4 z2, Dia_keep (by omega) (by omega) z3 (fun a b ha hb hab => ?_) (fun z hd a b b1 b2 b3 b4 => ?_)⟩, fun i a1 a2 => ⟨Zq_tr z1 (Zq_tr' hR (by omega) a2 hn), Pz_tr (by omega) (by omega) z2, Dia_keep (by omega) (by omega) z3 (fun a b ha hb hab => ?_) (fun z hd a b b1 b2 b3 b4 => ?_)⟩, fun i j x a0 a1 a2 a3 a4 a5 _ => ⟨Zq_tr z1 (Zq_ar hR (by omega) a1 a3 a4 hn a5), Pz_ar (by omega) (by omega) a3 z2, Dia_keep (by omega) (by omega) z3 (fun a b ha hb hab => ?_) (fun z hd a b b1 b2 b3 b4 => ?_)⟩, fun i j x a0 a1 a2 a3 a4 a5 _ => ⟨Zq_tr z1 (Zq_ac hC a1 a3 a4 hn a5), Pz_ac (by omega) a3 z2, Dia_keep (by omega) (by omega) z3 (fun a b ha hb hab => ?_) (fun z hd a b b1 b2 b3 b4 => ?_)⟩, fun hc => ⟨z1, z2, fun k hk => ?_⟩⟩
  · unfold xr
    by_cases e1 : a = i
    · rw [if_pos (by omega), show (a * 5 + b) % 5 = b by omega, hz j b a4 hb (by omega) (by omega), hz a b ha hb hab (by omega)]
    · by_cases e2 : a = j
      · rw [if_neg (by omega), if_pos (by omega), show (a * 5 + b) % 5 = b by omega, hz i b a2 hb (by omega) (by omega), hz a b ha hb hab (by omega)]
      · rw [if_neg (by omega), if_neg (by omega)]
  · unfold xr
    by_cases e1 : a = i
    · rw [if_pos (by omega), show (a * 5 + b) % 5 = b by omega]; exact hd j b a3 a4 b3 b4
    · by_cases e2 : a = j
      · rw [if_neg (by omega), if_pos (by omega), show (a * 5 + b) % 5 = b by omega]; exact hd i b a1 a2 b3 b4
      · rw [if_neg (by omega), if_neg (by omega)]; exact hd a b b1 b2 b3 b4
  · unfold xc
    by_cases e1 : b = i
    · rw [if_pos (by omega), show (a * 5 + b) / 5 = a by omega, hz a j ha a4 (by omega) (by omega), hz a b ha hb hab (by omega)]
    · by_cases e2 : b = j
      · rw [if_neg (by omega), if_pos (by omega), show (a * 5 + b) / 5 = a by omega, hz a i ha a2 (by omega) (by omega), hz a b ha hb hab (by omega)]
      · rw [if_neg (by omega), if_neg (by omega)]
  · unfold xc
    by_cases e1 : b = i
    · rw [if_pos (by omega), show (a * 5 + b) / 5 = a by omega]; exact hd a j b1 b2 a3 a4
    · by_cases e2 : b = j
      · rw [if_neg (by omega), if_pos (by omega), show (a * 5 + b) / 5 = a by omega]; exact hd a i b1 b2 a1 a2
      · rw [if_neg (by omega), if_neg (by omega)]; exact hd a b b1 b2 b3 b4
  · unfold tr
    by_cases e1 : a = i
    · rw [if_pos (by omega), hz a b ha hb hab (by omega)]; rfl
    · rw [if_neg (by omega)]
  · unfold tr
    by_cases e1 : a = i
    · rw [if_pos (by omega), neg_int (hn _ (by omega))]; exact Int.dvd_neg.mpr (hd a b b1 b2 b3 b4)
    · rw [if_neg (by omega)]; exact hd a b b1 b2 b3 b4
  · rw [ar_if (by omega) hb]
    split
    · rw [hz j b a3 hb (by omega) (by omega)]; grind
    · rfl
  · rw [ar_if (by omega) b4]
    split
    · rw [mad_t (hn _ (by omega)) (hn _ (by omega)) a5]
      exact dv_lin (hd a b b1 b2 b3 b4) (hd j b a2 a3 b3 b4)
    · exact hd a b b1 b2 b3 b4
  · rw [ac_if ha (by omega)]
    split
    · rw [hz a j ha a3 (by omega) (by omega)]; grind
    · rfl
  · rw [ac_if b2 (by omega)]
    split
    · rw [mad_t (hn _ (by omega)) (hn _ (by omega)) a5]
      exact dv_lin (hd a b b1 b2 b3 b4) (hd a j b1 b2 a2 a3)
    · exact hd a b b1 b2 b3 b4
  · obtain ⟨c1, c2, c3, c4⟩ := hc
    by_cases e : k = t
    · rw [e]
      refine ⟨fun a ha hne => ?_, fun b hb hne => ?_, c3, fun a b ha1 ha2 hb1 hb2 => ?_⟩
      · by_cases e2 : a < t
        · exact hz a t ha ht2 (Or.inl e2) hne
        · exact c1 a (by omega) ha
      · by_cases e2 : b < t
        · exact hz t b ht1 hb (Or.inr e2) (fun z => hne z.symm)
        · exact c2 b (by omega) hb
      · by_cases e1 : a = t
        · by_cases e2 : b = t
          · rw [e1, e2]; exact ⟨1, by omega⟩
          · rw [e1, z_int (c2 b (by omega) hb2)]; exact Int.dvd_zero _
        · by_cases e2 : b = t
          · rw [e2, z_int (c1 a (by omega) ha2)]; exact Int.dvd_zero _
          · exact rem_dvd (nzp c3) (c4 a b (by omega) ha2 (by omega) hb2)
    · exact z3 k (by omega)
theorem Jd_0 (hR : R ≤ 3) (hC : C ≤ 3) : Jd R C g 0 g (un R (fun _ => 0)) (un C (fun _ => 0)) := ⟨Zq_rf, Pz_un hR hC, fun j hj => absurd hj (by omega)⟩
end PRW
