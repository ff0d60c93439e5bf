/-! ===== Contracts of the trunk, said as the texts' walks want them ===== -/
theorem te2 {A B : Type} (p : A × B) : p = (p.1, p.2) := rfl
theorem te4 {A B C D : Type} (p : A × B × C × D) : p = (p.1, p.2.1, p.2.2.1, p.2.2.2) := rfl
theorem te5 {A B C D E : Type} (p : A × B × C × D × E) : p = (p.1, p.2.1, p.2.2.1, p.2.2.2.1, p.2.2.2.2) := rfl
/-- where both sides stood alike, they stand alike -/
def Ks (r q : Nat → Int32) (f : Nat → Nat → Int64) (r1 q1 : Nat → Int32) (f1 : Nat → Nat → Int64) : Prop := ∀ (R : Nat → Nat) (F : Nat → Nat → Int64) (Q : Nat → Int32), Rl r q f R F Q → Rl r1 q1 f1 R F Q
theorem Ks_rf {r q : Nat → Int32} {f : Nat → Nat → Int64} : Ks r q f r q f := fun _ _ _ h => h
theorem Ks_tr {r q r1 q1 r2 q2 : Nat → Int32} {f f1 f2 : Nat → Nat → Int64} (h2 : Ks r1 q1 f1 r2 q2 f2) (h1 : Ks r q f r1 q1 f1) : Ks r q f r2 q2 f2 := fun R F Q h => h2 R F Q (h1 R F Q h)
theorem Rl_q {r q : Nat → Int32} {f : Nat → Nat → Int64} {R : Nat → Nat} {F : Nat → Nat → Int64} {Q Q1 : Nat → Int32} (h : Rl r q f R F Q) (e : Q1 2 = Q 2 ∧ Q1 0 = Q 0 ∧ Q1 1 = Q 1) : Rl r q f R F Q1 := ⟨h.1, h.2.1.trans e.2.1.symm, h.2.2.1.trans e.2.2.symm, h.2.2.2.trans e.1.symm⟩
/-- the wrapper's answer -/
def Wc (cs : List (String × Int32)) (E : String) (x k : Int32) (n : Int64) : Prop := (E = "" ∧ k = 0 ∧ n = x.toInt64) ∨ ∃ c ∈ cs, E = c.1 ∧ k = c.2
theorem t640 : (0 : Int32).toInt64 = 0 := by decide +kernel
theorem Wc_an {cs : List (String × Int32)} {E : String} {x k t x' : Int32} {n : Int64} (hc : ∀ c ∈ cs, c.1 ≠ "" ∧ (c.1 = "java/lang/IndexOutOfBoundsException" → c.2 = 1) ∧ (c.1 = "java/lang/IllegalArgumentException" → c.2 = 2) ∧ c.2 ≠ 0) (h : Wc cs E x k n) (hA : An E x t x') : t = k ∧ (k = 0 → n = x'.toInt64) := by
  rcases h with ⟨h1, h2, h3⟩ | ⟨c, hm, h1, h2⟩
  · rcases hA with ⟨_, a2, a3⟩ | ⟨a1, _⟩ | ⟨a1, _⟩
    · exact ⟨a2.trans h2.symm, fun _ => by rw [h3, a3]⟩
    · exact absurd (a1.symm.trans h1) e_ne
    · exact absurd (a1.symm.trans h1) e_ne2
  · obtain ⟨c1, c2, c3, c4⟩ := hc c hm
    rcases hA with ⟨a1, _, _⟩ | ⟨a1, a2⟩ | ⟨a1, a2⟩
    · exact absurd (h1.symm.trans a1) c1
    · exact ⟨by rw [a2, h2, c2 (h1.symm.trans a1)], fun z => absurd (h2.symm.trans z) c4⟩
    · exact ⟨by rw [a2, h2, c3 (h1.symm.trans a1)], fun z => absurd (h2.symm.trans z) c4⟩
theorem e_ne4 : ¬ ("java/lang/IndexOutOfBoundsException" = "java/lang/IllegalArgumentException") := by decide
theorem wc1 : ∀ c ∈ ([("java/lang/IndexOutOfBoundsException", 1)] : List (String × Int32)), c.1 ≠ "" ∧ (c.1 = "java/lang/IndexOutOfBoundsException" → c.2 = 1) ∧ (c.1 = "java/lang/IllegalArgumentException" → c.2 = 2) ∧ c.2 ≠ 0 := by
  intro c hc
  rcases List.mem_cons.mp hc with rfl | hc
  · exact ⟨e_ne, fun _ => rfl, fun h => absurd h e_ne4, (by decide : (1 : Int32) ≠ 0)⟩
  · exact absurd hc List.not_mem_nil
theorem wc2 : ∀ c ∈ ([("java/lang/IndexOutOfBoundsException", 1), ("java/lang/IllegalArgumentException", 2)] : List (String × Int32)), c.1 ≠ "" ∧ (c.1 = "java/lang/IndexOutOfBoundsException" → c.2 = 1) ∧ (c.1 = "java/lang/IllegalArgumentException" → c.2 = 2) ∧ c.2 ≠ 0 := by
  intro c hc
  rcases List.mem_cons.mp hc with rfl | hc
  · exact ⟨e_ne, fun _ => rfl, fun h => absurd h e_ne4, (by decide : (1 : Int32) ≠ 0)⟩
  · rcases List.mem_cons.mp hc with rfl | hc
    · exact ⟨e_ne2, fun h => absurd h.symm e_ne4, fun _ => rfl, (by decide : (2 : Int32) ≠ 0)⟩
    · exact absurd hc List.not_mem_nil
theorem CM_mono {κ : Kt} {l : Launch} {y : MethodName} {cc : ByteArray} {n : Nat} {ret : Option FieldType} {fr lo mc ms : Nat} {av : List Value} {w : va_W} {post post2 : Option Value → va_W → Prop} (h : CM κ l y cc n ret fr lo mc ms av w post) (hp : ∀ o w', post o w' → post2 o w') : CM κ l y cc n ret fr lo mc ms av w post2 := by
  intro sz
  refine MetFree.mono (h sz) (fun a s hp => hp) (fun _ _ _ _ _ _ => trivial) (fun a st oc t _ hq => ?_)
  obtain ⟨⟨⟨r, w', ho, hpo, hP, hD⟩, hF⟩, L, hE, hL⟩ := hq
  exact ⟨⟨⟨r, w', ho, hp _ _ hpo, hP, hD⟩, hF⟩, L, hE, hL⟩
theorem CX_mono {κ : Kt} {l : Launch} {y : MethodName} {cc : ByteArray} {n : Nat} {ret : Option FieldType} {fr lo mc ms : Nat} {av : List Value} {w : va_W} {post post2 : Option Value → va_W → Prop} {postX postX2 : String → va_W → Prop} (h : CX κ l y cc n ret fr lo mc ms av w post postX) (hp : ∀ o w', post o w' → post2 o w') (hx : ∀ E w', postX E w' → postX2 E w') : CX κ l y cc n ret fr lo mc ms av w post2 postX2 := by
  intro sz
  refine MetFree.mono (h sz) (fun a s hp => hp) (fun _ _ _ _ _ _ => trivial) (fun a st oc t _ hq => ?_)
  rcases hq with ⟨⟨⟨r, w', ho, hpo, hP, hD⟩, hF⟩, L, hE, hL⟩ | ⟨q, ho, hT⟩
  · exact Or.inl ⟨⟨⟨r, w', ho, hp _ _ hpo, hP, hD⟩, hF⟩, L, hE, hL⟩
  · refine Or.inr ⟨q, ho, ?_⟩
    obtain ⟨E, ce, L, ⟨⟨w', hpo, hP, hD⟩, hF⟩, t1, t2, t3, t4, t5, tL⟩ := hT
    exact ⟨E, ce, L, ⟨⟨w', hx _ _ hpo, hP, hD⟩, hF⟩, t1, t2, t3, t4, t5, tL⟩
theorem o_X5_needTable (κ : Kt) (l : Launch) (hst : l.stackTraces = false) (a : Nat → Nat) (r q : Nat → Int32) (f : Nat → Nat → Int64) (p0 : Int32) : CX κ l yX5_needTable cX5_needTable 2 (some (.object "Gridmender$Grid")) 6 90 1 6 [.ref (a 0), .int p0] (cw κ a r q f) (fun o w' => ∃ i : Nat, i < 4 ∧ o = some (.ref (a (6 + 2 * i))) ∧ w' = cw κ a r q f) (fun E w' => E ∈ (["java/lang/IndexOutOfBoundsException"] : List String) ∧ w' = cw κ a r q f) :=
  CX_mono (k_X5_needTable κ l hst a r q f p0 _ _ (te2 _)) (fun o w' h => ⟨_, h.2⟩) (fun E w' h => ⟨h.1 ▸ h.2.1, h.2.2⟩)
theorem o_X5_needState (κ : Kt) (l : Launch) (hst : l.stackTraces = false) (a : Nat → Nat) (r q : Nat → Int32) (f : Nat → Nat → Int64) (p0 : Int32) : CX κ l yX5_needState cX5_needState 1 (none) 6 90 1 6 [.int p0] (cw κ a r q f) (fun o w' => o = none ∧ w' = cw κ a r q f) (fun E w' => E ∈ (["java/lang/IllegalStateException"] : List String) ∧ w' = cw κ a r q f) :=
  CX_mono (k_X5_needState κ l hst a r q f p0 _ rfl) (fun o w' h => h.2) (fun E w' h => ⟨h.1 ▸ h.2.1, h.2.2⟩)
theorem o_X5_needArgument (κ : Kt) (l : Launch) (hst : l.stackTraces = false) (a : Nat → Nat) (r q : Nat → Int32) (f : Nat → Nat → Int64) (p0 : Int32) : CX κ l yX5_needArgument cX5_needArgument 1 (none) 6 90 1 6 [.int p0] (cw κ a r q f) (fun o w' => o = none ∧ w' = cw κ a r q f) (fun E w' => E ∈ (["java/lang/IllegalArgumentException"] : List String) ∧ w' = cw κ a r q f) :=
  CX_mono (k_X5_needArgument κ l hst a r q f p0 _ rfl) (fun o w' h => h.2) (fun E w' h => ⟨h.1 ▸ h.2.1, h.2.2⟩)
section ADP
variable (κ : Kt) (l : Launch) (a : Nat → Nat) (r q : Nat → Int32) (f : Nat → Nat → Int64)
theorem o_X3_get (i : Nat) (p0 : Int32) (p1 : Int32) (hi : i < 15) : CM κ l yX3_get cX3_get 3 (some .long) 0 0 0 0 [.ref (a (6 + 2 * i)), .int p0, .int p1] (cw κ a r q f) (fun o w' => ∃ x : Int64, o = some (.long x) ∧ w' = cw κ a r q f) :=
  CM_mono (k_X3_get κ l a r q f i p0 p1 hi _ rfl) (fun o w' h => ⟨_, h⟩)
theorem o_X5_leavesRests (i : Nat) (hi : i < 4) : CM κ l yX5_leavesRests cX5_leavesRests 2 (some .boolean) 6 165 0 0 [.ref (a 0), .ref (a (6 + 2 * i))] (cw κ a r q f) (fun o w' => ∃ x : Int32, ∃ (r' q' : Nat → Int32) (f' : Nat → Nat → Int64), o = some (.int x) ∧ (x = 0 ∨ x = 1) ∧ (okr r → okr r') ∧ q' 4 = q 4 ∧ Ks r q f r' q' f' ∧ w' = cw κ a r' q' f') :=
  CM_mono (k_X5_leavesRests κ l a r q f i (by omega) _ _ _ _ (te4 _)) (fun o w' h => ⟨_, _, _, _, h.1, h.2.1, h.2.2.1, h.2.2.2.1, fun R F Q hr => kp_leaves hr hi, h.2.2.2.2⟩)
theorem o_X5_rowNumber (p0 : Int32) : CM κ l yX5_rowNumber cX5_rowNumber 2 (some .long) 0 0 0 0 [.ref (a 0), .int p0] (cw κ a r q f) (fun o w' => ∃ x : Int64, o = some (.long x) ∧ w' = cw κ a r q f) :=
  CM_mono (k_X5_rowNumber κ l a r q f p0 _ rfl) (fun o w' h => ⟨_, h⟩)
theorem o_X5_setRowNumber (p0 : Int32) (p1 : Int64) : CM κ l yX5_setRowNumber cX5_setRowNumber 4 (none) 0 0 0 0 [.ref (a 0), .int p0, .long p1] (cw κ a r q f) (fun o w' => ∃ f' : Nat → Nat → Int64, o = none ∧ Ks r q f r q f' ∧ w' = cw κ a r q f') :=
  CM_mono (k_X5_setRowNumber κ l a r q f p0 p1 _ rfl) (fun o w' h => ⟨_, h.1, fun R F Q hr => Rl_srn hr, h.2⟩)
theorem o_X5_remainder (w : va_W) (x : Int64) (y : Int64) : CM κ l yX5_remainder cX5_remainder 4 (some .long) 1 25 0 0 [.long x, .long y] (w) (fun o w' => ∃ x : Int64, o = some (.long x) ∧ w' = w) :=
  CM_mono (k_X5_remainder κ l w x y _ rfl) (fun o w' h => ⟨_, h⟩)
theorem o_X5_divideDown (w : va_W) (x : Int64) (y : Int64) : CM κ l yX5_divideDown cX5_divideDown 4 (some .long) 1 25 0 0 [.long x, .long y] (w) (fun o w' => ∃ x : Int64, o = some (.long x) ∧ w' = w) :=
  CM_mono (k_X5_divideDown κ l w x y _ rfl) (fun o w' h => ⟨_, h⟩)
theorem o_X10_isTable (w : va_W) (x : Int32) : CM κ l yX10_isTable cX10_isTable 1 (some .boolean) 0 0 0 0 [.int x] (w) (fun o w' => ∃ (z : Int32), o = some (.int z) ∧ (z = 0 ∨ z = 1 ∧ 0 ≤ x ∧ x.toNatClampNeg < 4) ∧ w' = w) :=
  CM_mono (k_X10_isTable κ l w x _ rfl) (fun o w' h => ⟨_, h⟩)
theorem o_X10_isThrown (w : va_W) (k0 x0 t0 : Nat) (i1 i2 i3 i4 : Int32) (b1 : Int32) (b2 : Int32) (b3 : Int32) (h0 : w[k0]? = some (x0, .inr (11, [.ref t0, .int i1, .int i2, .int i3, .int i4]))) : CM κ l yX10_isThrown cX10_isThrown 4 (some .boolean) 0 0 0 0 [.ref x0, .int b1, .int b2, .int b3] (w) (fun o w' => ∃ (x : Int32) (tv : Int32), o = some (.int x) ∧ (x = thr b1 b2 b3) ∧ w' = w.set k0 (x0, .inr (11, [.ref t0, .int i1, .int i2, .int i3, .int tv]))) :=
  CM_mono (k_X10_isThrown κ l w k0 x0 t0 i1 i2 i3 i4 b1 b2 b3 h0 _ _ (te2 _)) (fun o w' h => ⟨_, _, h⟩)
theorem o_X10_isThrown__ (w : va_W) (k0 x0 t0 : Nat) (i1 i2 i3 i4 : Int32) (b1 : Int32) (h0 : w[k0]? = some (x0, .inr (11, [.ref t0, .int i1, .int i2, .int i3, .int i4]))) : CM κ l yX10_isThrown__ cX10_isThrown__ 2 (some .boolean) 1 23 0 0 [.ref x0, .int b1] (w) (fun o w' => ∃ (x : Int32) (tv : Int32), o = some (.int x) ∧ (x = thr b1 0 0) ∧ w' = w.set k0 (x0, .inr (11, [.ref t0, .int i1, .int i2, .int i3, .int tv]))) :=
  CM_mono (k_X10_isThrown__ κ l w k0 x0 t0 i1 i2 i3 i4 b1 h0 _ _ (te2 _)) (fun o w' h => ⟨_, _, h⟩)
theorem o_X10_leaving (w : va_W) (k_o j_o g_o b_o R_o C_o : Nat) (f_o : Nat → Int64) (h_o : w[k_o]? = some (gO g_o R_o C_o b_o)) (i_o : w[j_o]? = some (lA κ b_o (R_o * 5) f_o)) (s_o : shp R_o C_o) (hC4 : C_o ≤ 4) (hng : ∀ k, k < R_o * 5 → ng (f_o k)) : CM κ l yX10_leaving cX10_leaving 2 (some (.object "GridmenderModel$Grid")) 7 188 5 50 [.ref g_o] (w) (fun o w' => (o = some .null ∧ w' = w) ∨ ∃ (q1 q2 R C : Nat) (F : Nat → Int64), o = some (.ref q1) ∧ (R = R_o ∧ C = C_o ∧ R_o = C_o ∧ ∀ j, j < R → ¬ F (j * 5 + j) = 0) ∧ w' = lA κ q2 (R * 5) F :: gO q1 R C q2 :: w) :=
  CM_mono (k_X10_leaving κ l w k_o j_o g_o b_o R_o C_o f_o h_o i_o s_o hC4 hng _ _ _ _ (te4 _)) (fun o w' h => h.elim (fun h => Or.inl h.2) (fun h => by
    obtain ⟨_, q1, q2, h⟩ := h
    exact Or.inr ⟨q1, q2, _, _, _, h⟩))
end ADP
