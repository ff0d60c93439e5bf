/-! ===== What a method answers, as a function: names, branches, calls ===== -/
def nm {α β : Type} (x : α) (k : α → β) : β := k x
theorem nm_use {α β : Type} {x y : α} {k : α → β} {R : β} (h : y = x) (hR : nm x k = R) : k y = R := by subst h; exact hR
theorem ifp {α : Type} {c : Prop} {h : Decidable c} {a b R : α} (hc : c) (hR : @ite α c h a b = R) : a = R := by rw [if_pos hc] at hR; exact hR
theorem ifn {α : Type} {c : Prop} {h : Decidable c} {a b R : α} (hc : ¬ c) (hR : @ite α c h a b = R) : b = R := by rw [if_neg hc] at hR; exact hR
def bnd1 {α β : Type} (p : α) (k : α → β) : β := k p
def bnd2 {α α2 β : Type} (p : α × α2) (k : α → α2 → β) : β := k p.1 p.2
def bnd3 {α α2 α3 β : Type} (p : α × α2 × α3) (k : α → α2 → α3 → β) : β := k p.1 p.2.1 p.2.2
def bnd4 {α α2 α3 α4 β : Type} (p : α × α2 × α3 × α4) (k : α → α2 → α3 → α4 → β) : β := k p.1 p.2.1 p.2.2.1 p.2.2.2
def bnd5 {α α2 α3 α4 α5 β : Type} (p : α × α2 × α3 × α4 × α5) (k : α → α2 → α3 → α4 → α5 → β) : β := k p.1 p.2.1 p.2.2.1 p.2.2.2.1 p.2.2.2.2
theorem bnd1_use {α β : Type} {p a : α} {k : α → β} {R : β} (h : p = a) (hR : bnd1 p k = R) : k a = R := by subst h; exact hR
theorem bnd2_use {α α2 β : Type} {p : α × α2} {a : α} {b : α2} {k : α → α2 → β} {R : β} (h : p = (a, b)) (hR : bnd2 p k = R) : k a b = R := by subst h; exact hR
theorem bnd3_use {α α2 α3 β : Type} {p : α × α2 × α3} {a : α} {b : α2} {c : α3} {k : α → α2 → α3 → β} {R : β} (h : p = (a, b, c)) (hR : bnd3 p k = R) : k a b c = R := by subst h; exact hR
theorem bnd4_use {α α2 α3 α4 β : Type} {p : α × α2 × α3 × α4} {a : α} {b : α2} {c : α3} {d : α4} {k : α → α2 → α3 → α4 → β} {R : β} (h : p = (a, b, c, d)) (hR : bnd4 p k = R) : k a b c d = R := by subst h; exact hR
theorem bnd5_use {α α2 α3 α4 α5 β : Type} {p : α × α2 × α3 × α4 × α5} {a : α} {b : α2} {c : α3} {d : α4} {e : α5} {k : α → α2 → α3 → α4 → α5 → β} {R : β} (h : p = (a, b, c, d, e)) (hR : bnd5 p k = R) : k a b c d e = R := by subst h; exact hR
theorem ex1 {α : Type} (p : α) : ∃ a, p = a := ⟨_, rfl⟩
theorem ex2 {α α2 : Type} (p : α × α2) : ∃ a b, p = (a, b) := ⟨_, _, rfl⟩
theorem ex3 {α α2 α3 : Type} (p : α × α2 × α3) : ∃ a b c, p = (a, b, c) := ⟨_, _, _, rfl⟩
theorem ex4 {α α2 α3 α4 : Type} (p : α × α2 × α3 × α4) : ∃ a b c d, p = (a, b, c, d) := ⟨_, _, _, _, rfl⟩
theorem ex5 {α α2 α3 α4 α5 : Type} (p : α × α2 × α3 × α4 × α5) : ∃ a b c d e, p = (a, b, c, d, e) := ⟨_, _, _, _, _, rfl⟩
theorem pr2 {α α2 : Type} {a a' : α} {b b' : α2} (h : (a, b) = (a', b')) : a = a' ∧ b = b' := Prod.mk.inj h
theorem pr3 {α α2 α3 : Type} {a a' : α} {b b' : α2} {c c' : α3} (h : (a, b, c) = (a', b', c')) : a = a' ∧ b = b' ∧ c = c' := ⟨(Prod.mk.inj h).1, pr2 (Prod.mk.inj h).2⟩
theorem pr4 {α α2 α3 α4 : Type} {a a' : α} {b b' : α2} {c c' : α3} {d d' : α4} (h : (a, b, c, d) = (a', b', c', d')) : a = a' ∧ b = b' ∧ c = c' ∧ d = d' := ⟨(Prod.mk.inj h).1, pr3 (Prod.mk.inj h).2⟩
theorem pr5 {α α2 α3 α4 α5 : Type} {a a' : α} {b b' : α2} {c c' : α3} {d d' : α4} {e e' : α5} (h : (a, b, c, d, e) = (a', b', c', d', e')) : a = a' ∧ b = b' ∧ c = c' ∧ d = d' ∧ e = e' := ⟨(Prod.mk.inj h).1, pr4 (Prod.mk.inj h).2⟩
theorem ne_mt {E : String} {xs : List String} (h : E ∈ xs) (hx : "" ∉ xs) : ¬ E = "" := fun e => hx (e ▸ h)
def bnd6 {α α2 α3 α4 α5 α6 β : Type} (p : α × α2 × α3 × α4 × α5 × α6) (k : α → α2 → α3 → α4 → α5 → α6 → β) : β := k p.1 p.2.1 p.2.2.1 p.2.2.2.1 p.2.2.2.2.1 p.2.2.2.2.2
def bnd7 {α α2 α3 α4 α5 α6 α7 β : Type} (p : α × α2 × α3 × α4 × α5 × α6 × α7) (k : α → α2 → α3 → α4 → α5 → α6 → α7 → β) : β := k p.1 p.2.1 p.2.2.1 p.2.2.2.1 p.2.2.2.2.1 p.2.2.2.2.2.1 p.2.2.2.2.2.2
theorem bnd6_use {α α2 α3 α4 α5 α6 β : Type} {p : α × α2 × α3 × α4 × α5 × α6} {a : α} {b : α2} {c : α3} {d : α4} {e : α5} {f : α6} {k : α → α2 → α3 → α4 → α5 → α6 → β} {R : β} (h : p = (a, b, c, d, e, f)) (hR : bnd6 p k = R) : k a b c d e f = R := by subst h; exact hR
theorem bnd7_use {α α2 α3 α4 α5 α6 α7 β : Type} {p : α × α2 × α3 × α4 × α5 × α6 × α7} {a : α} {b : α2} {c : α3} {d : α4} {e : α5} {f : α6} {g : α7} {k : α → α2 → α3 → α4 → α5 → α6 → α7 → β} {R : β} (h : p = (a, b, c, d, e, f, g)) (hR : bnd7 p k = R) : k a b c d e f g = R := by subst h; exact hR
theorem ex6 {α α2 α3 α4 α5 α6 : Type} (p : α × α2 × α3 × α4 × α5 × α6) : ∃ a b c d e f, p = (a, b, c, d, e, f) := ⟨_, _, _, _, _, _, rfl⟩
theorem ex7 {α α2 α3 α4 α5 α6 α7 : Type} (p : α × α2 × α3 × α4 × α5 × α6 × α7) : ∃ a b c d e f g, p = (a, b, c, d, e, f, g) := ⟨_, _, _, _, _, _, _, rfl⟩
theorem pr6 {α α2 α3 α4 α5 α6 : Type} {a a' : α} {b b' : α2} {c c' : α3} {d d' : α4} {e e' : α5} {f f' : α6} (h : (a, b, c, d, e, f) = (a', b', c', d', e', f')) : a = a' ∧ b = b' ∧ c = c' ∧ d = d' ∧ e = e' ∧ f = f' := ⟨(Prod.mk.inj h).1, pr5 (Prod.mk.inj h).2⟩
theorem pr7 {α α2 α3 α4 α5 α6 α7 : Type} {a a' : α} {b b' : α2} {c c' : α3} {d d' : α4} {e e' : α5} {f f' : α6} {g g' : α7} (h : (a, b, c, d, e, f, g) = (a', b', c', d', e', f', g')) : a = a' ∧ b = b' ∧ c = c' ∧ d = d' ∧ e = e' ∧ f = f' ∧ g = g' := ⟨(Prod.mk.inj h).1, pr6 (Prod.mk.inj h).2⟩
