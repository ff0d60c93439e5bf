/-! ===== The law's loop: its cases ===== -/
theorem CMW_frame {κ : Kt} {l : Launch} {y : MethodName} {cc : ByteArray} {n : Nat} {ret : Option FieldType} {hh : List (Nat × Nat × Nat × Nat)} {fr lo mc ms : Nat} {av : List Value} {w : va_W} {post : Option Value → va_W → Prop} (Wr : va_W) (h : CMW κ l y cc n ret hh fr lo mc ms av w post) : CMW κ l y cc n ret hh fr lo mc ms av (w ++ Wr) (fun o w' => ∃ w1, post o w1 ∧ w' = w1 ++ Wr) := by
  intro sz
  refine MetFree.mono (h sz) (fun a s hp => frame_pre hp) (fun _ _ _ _ _ _ => trivial) (fun a st oc t hp hq => ?_)
  obtain ⟨⟨⟨r, w', ho, hpo, hP, hD⟩, hF⟩, L, hE, hL⟩ := hq
  obtain ⟨hP2, hD2⟩ := frame_out hp hF hP hD
  exact ⟨⟨⟨r, w' ++ Wr, ho, ⟨w', hpo, rfl⟩, hP2, hD2⟩, hF.1, fun q h1 h2 => hF.2 q h1 (fun z => h2 (frame_Ac z))⟩, L, hE, fun q hq => frame_Ac (hL q hq)⟩
theorem mw_app {κ : Kt} {a r : Nat → Nat} {f : Nat → Nat → Int64} {q : Nat → Int32} {T : Nat → Option Nat} {w : va_W} : mw κ a r f q T [] ++ w = mw κ a r f q T w := by
  unfold mw
  rw [List.append_nil]
/-- both sides and the law's object -/
abbrev Lw (κ : Kt) (a : Nat → Nat) (r q : Nat → Int32) (f : Nat → Nat → Int64) (o : Nat) (n : Int64) (v : Value) (a2 r2 : Nat → Nat) (f2 : Nat → Nat → Int64) (q2 : Nat → Int32) : va_W := cw κ a r q f ++ ([Ot o n v] ++ mw κ a2 r2 f2 q2 (tb a2) [])
abbrev Lv (b x y o i : Nat) : List (Nat × Value) := [(0, .ref b), (1, .ref x), (2, .ref y), (3, .ref o), (4, .int (nI (6 * i)))]
section LCS
variable {p : Program} {l : Launch} {e : Env} {R : Room} {s : State} {m : MethodId} {args : Array Value} {below : List Frame} {meth : Method} {c : Code} {H : Heap} {locs : List Loc} {cells slots : Nat} {Q : State → Prop}
variable {κ : Kt} {cc : ByteArray} {nL : Nat} {own : String} {ret : Option FieldType} {A : Nat → Prop} {w : va_W} {pc : Nat} {ls : Array Slot} {rest : List Value}
variable {a a2 r2 : Nat → Nat} {r q q2 : Nat → Int32} {f f2 : Nat → Nat → Int64} {o : Nat} {n : Int64} {v : Value}
theorem Lw_1 (hB : Bd κ A s (Lw κ a r q f o n v a2 r2 f2 q2) H locs) : Bd κ A s ((cw κ a r q f ++ [Ot o n v]) ++ mw κ a2 r2 f2 q2 (tb a2) []) H locs := by rw [List.append_assoc]; exact hB
theorem Lw_2 (hB : Bd κ A s ((cw κ a r q f ++ [Ot o n v]) ++ mw κ a2 r2 f2 q2 (tb a2) []) H locs) : Bd κ A s (mw κ a2 r2 f2 q2 (tb a2) (cw κ a r q f ++ [Ot o n v])) H locs := by rw [← mw_app]; exact Bd_comm hB
theorem Lw_3 (hB : Bd κ A s (mw κ a2 r2 f2 q2 (tb a2) (cw κ a r q f ++ [Ot o n v])) H locs) : Bd κ A s (Lw κ a r q f o n v a2 r2 f2 q2) H locs := by
  rw [← mw_app] at hB
  show Bd κ A s (cw κ a r q f ++ ([Ot o n v] ++ mw κ a2 r2 f2 q2 (tb a2) [])) H locs
  rw [← List.append_assoc]
  exact Bd_comm hB
/-- an int of the script -/
theorem lv_scr {b L k i x y o' : Nat} {nk : Int} {xs : Nat → Int32} (hX : Cx κ p m c cc nL s args own meth ret A) (hB : Bd κ A s w H locs) (hx9 : va_X b L xs s s.heap) (hbl : b < s.heap.size) (hbA : ¬ A b) (hi : 6 * i + 6 ≤ L) (hL : L ≤ 384) (hl : lv_has ls nL (Lv b x y o' i)) (d0 : decode cc pc = .ok (.aload_n 0, 1)) (d1 : decode cc (pc + 1) = .ok (.iload 4, 2)) (d2 : decode cc (pc + 3) = .ok (.iconst nk, 1)) (d3 : decode cc (pc + 4) = .ok (.iadd, 1)) (d4 : decode cc (pc + 5) = .ok (.iaload, 1)) (hk : k < 6) (hv : Int32.ofInt nk = nI k) {z : Int32} (hz : xs (6 * i + k) = z)
    (kk : W p l e R s m args below meth c H locs cells slots Q (F0 m (pc + 6) ls (.int z :: rest))) : W p l e R s m args below meth c H locs cells slots Q (F0 m pc ls rest) := by
  have hx := hX.1.1
  have hb := hX.1.2.1
  refine lv_aload_n hx hb d0 rfl (lv_at hl 0 rfl) ?_
  refine lv_iload hx hb d1 (lv_at hl 4 rfl) ?_
  refine lv_iconst (v := nI k) hx hb d2 hv ?_
  refine lv_iadd hx hb d3 ?_
  refine eqi (nI_add (6 * i) k) ?_
  refine va_sld hx hb hx9 hbl hbA hB.2.2 (vp_in_nI (show 6 * i + k < L by omega) (by omega)) d4 ?_
  rw [nI_clamp (show 6 * i + k < 2 ^ 31 by omega), hz]
  exact kk
/-- yes or no, as 1 or 0 -/
def bz (x : Int32) : Int32 := if x = 0 then 0 else 1
theorem lv_bool {x : Int32} (hX : Cx κ p m c cc nL s args own meth ret A) (d0 : decode cc pc = .ok (.ifCond .eq 7, 3)) (d1 : decode cc (pc + 3) = .ok (.iconst 1, 1)) (d2 : decode cc (pc + 4) = .ok (.goto 4, 3)) (d3 : decode cc (pc + 7) = .ok (.iconst 0, 1)) {z : Int32} (hz : bz x = z)
    (kk : W p l e R s m args below meth c H locs cells slots Q (F0 m (pc + 8) ls (.int z :: rest))) : W p l e R s m args below meth c H locs cells slots Q (F0 m pc ls (.int x :: rest)) := by
  have hx := hX.1.1
  have hb := hX.1.2.1
  unfold bz at hz
  refine lv_if_eq (tgt := pc + 7) hx hb d0 (by omega) (fun e => ?_) (fun e => ?_)
  · rw [if_pos e] at hz
    subst hz
    exact lv_iconst (v := 0) hx hb d3 (by decide) kk
  · rw [if_neg e] at hz
    subst hz
    refine lv_iconst (v := 1) hx hb d1 (by decide) ?_
    exact lv_goto (tgt := pc + 8) hx hb d2 (by omega) kk
end LCS
/-- what the rest of the law owes behind a call -/
def Nk (κ : Kt) (p : Program) (l : Launch) (e : Env) (s : State) (m : MethodId) (args : Array Value) (below : List Frame) (meth : Method) (c : Code) (A : Nat → Prop) (b o i : Nat) (a a2 : Nat → Nat) (cells slots : Nat) (Q : State → Prop) : Prop :=
  ∀ (r q : Nat → Int32) (f : Nat → Nat → Int64) (n : Int64) (v : Value) (a' r2 : Nat → Nat) (f2 : Nat → Nat → Int64) (q2 : Nat → Int32) (H : Heap) (locs : List Loc) (ls : Array Slot), okr r → mok r2 f2 → Rl r q f r2 f2 q2 → a' 0 = a2 0 → Bd κ A s (Lw κ a r q f o n v a' r2 f2 q2) H locs → lv_has ls 7 (Lv b (a 0) (a2 0) o i) → W p l e (Rm 2048 84000 600128 7301098) s m args below meth c H locs (cells + 100) (slots + 70000) Q (F0 m 1880 ls [])
/-- a case of the law -/
def Lc (tgt : Nat) : Prop :=
  ∀ {κ : Kt} {p : Program} {l : Launch} {e : Env} {s : State} {m : MethodId} {args : Array Value} {below : List Frame} {meth : Method} {c : Code} {A : Nat → Prop} {ret : Option FieldType} {b L o i : Nat} {xs : Nat → Int32} {a a2 r2 : Nat → Nat} {r q q2 : Nat → Int32} {f f2 : Nat → Nat → Int64} {n : Int64} {v : Value} {cells slots : Nat} {Q : State → Prop} {H : Heap} {locs : List Loc} {ls : Array Slot},
    l.stackTraces = false → Cx κ p m c cL_law 7 s args "GridmenderLaw" meth ret A → va_X b L xs s s.heap → b < s.heap.size → ¬ A b → 6 * i + 6 ≤ L → L ≤ 384 → okr r → mok r2 f2 → Rl r q f r2 f2 q2 → Bd κ A s (Lw κ a r q f o n v a2 r2 f2 q2) H locs → lv_has ls 7 (Lv b (a 0) (a2 0) o i) → cells + 100 ≤ 600128 → slots + 70000 ≤ 7301098 → Nk κ p l e s m args below meth c A b o i a a2 cells slots Q → W p l e (Rm 2048 84000 600128 7301098) s m args below meth c H locs cells slots Q (F0 m tgt ls [])
theorem cw_oL {κ : Kt} {a : Nat → Nat} {r q : Nat → Int32} {f : Nat → Nat → Int64} {x : Nat × va_E} {w : va_W} : (cw κ a r q f ++ ([x] ++ w))[36]? = some x := by
  have h : (cw κ a r q f).length = 36 := by simp [cw]
  rw [List.getElem?_append_right (by omega), h]
  rfl
theorem Rl_knock {r q : Nat → Int32} {f : Nat → Nat → Int64} {R : Nat → Nat} {F : Nat → Nat → Int64} {Q : Nat → Int32} (h : Rl r q f R F Q) : Rl r (va_up q 4 (q 4 + 1)) f R F (va_up (va_up Q 3 0) 2 (Q 2 + 1)) := ⟨h.1, h.2.1, h.2.2.1, by
  show va_up q 4 (q 4 + 1) 4 = va_up (va_up Q 3 0) 2 (Q 2 + 1) 2
  rw [vu_self, vu_self, h.2.2.2]⟩

def hL_L_law : List (List Nat) := [[187, 0, 8, 89, 183, 0, 131, 76, 187, 0, 132, 89, 183, 0, 134, 77, 187, 0, 14, 89, 183, 0, 135, 78, 3, 54, 4, 21, 4, 42, 190, 16], [6, 100, 163, 7, 60, 42, 21, 4, 46, 16, 63, 126, 170, 0, 0, 0, 0, 0, 7, 44, 0, 0, 0, 0, 0, 0, 0, 33, 0, 0, 0, 152], [0, 0, 0, 204, 0, 0, 1, 17, 0, 0, 1, 81, 0, 0, 1, 133, 0, 0, 1, 173, 0, 0, 1, 213, 0, 0, 1, 241, 0, 0, 2, 65], [0, 0, 2, 133, 0, 0, 2, 225, 0, 0, 3, 25, 0, 0, 3, 93, 0, 0, 3, 173, 0, 0, 3, 225, 0, 0, 4, 21, 0, 0, 4, 85], [0, 0, 4, 141, 0, 0, 4, 193, 0, 0, 4, 221, 0, 0, 5, 5, 0, 0, 5, 45, 0, 0, 5, 97, 0, 0, 5, 137, 0, 0, 5, 177], [0, 0, 5, 241, 0, 0, 6, 25, 0, 0, 6, 89, 0, 0, 6, 141, 0, 0, 6, 181, 0, 0, 6, 233, 0, 0, 7, 5, 0, 0, 7, 18], [0, 0, 7, 31, 43, 42, 21, 4, 4, 96, 46, 42, 21, 4, 5, 96, 46, 42, 21, 4, 6, 96, 46, 45, 184, 0, 136, 54, 5, 44, 42, 21], [4, 4, 96, 46, 42, 21, 4, 5, 96, 46, 42, 21, 4, 6, 96, 46, 182, 0, 141, 54, 6, 167, 6, 99, 43, 42, 21, 4, 4, 96, 46, 42], [21, 4, 5, 96, 46, 45, 184, 0, 142, 54, 5, 44, 42, 21, 4, 4, 96, 46, 42, 21, 4, 5, 96, 46, 182, 0, 145, 54, 6, 44, 182, 0], [146, 21, 5, 159, 0, 5, 3, 172, 21, 5, 154, 0, 16, 45, 180, 0, 13, 21, 6, 133, 148, 153, 0, 5, 3, 172, 167, 6, 30, 43, 42, 21], [4, 4, 96, 46, 42, 21, 4, 5, 96, 46, 42, 21, 4, 6, 96, 46, 42, 21, 4, 7, 96, 46, 45, 184, 0, 150, 54, 5, 44, 42, 21, 4], [4, 96, 46, 42, 21, 4, 5, 96, 46, 42, 21, 4, 6, 96, 46, 42, 21, 4, 7, 96, 46, 182, 0, 153, 54, 6, 167, 5, 222, 43, 42, 21], [4, 4, 96, 46, 42, 21, 4, 5, 96, 46, 42, 21, 4, 6, 96, 46, 45, 184, 0, 154, 54, 5, 44, 42, 21, 4, 4, 96, 46, 42, 21, 4], [5, 96, 46, 42, 21, 4, 6, 96, 46, 182, 0, 156, 54, 6, 167, 5, 170, 43, 42, 21, 4, 4, 96, 46, 42, 21, 4, 5, 96, 46, 45, 184], [0, 157, 54, 5, 44, 42, 21, 4, 4, 96, 46, 42, 21, 4, 5, 96, 46, 182, 0, 159, 54, 6, 167, 5, 130, 43, 42, 21, 4, 4, 96, 46], [42, 21, 4, 5, 96, 46, 45, 184, 0, 160, 54, 5, 44, 42, 21, 4, 4, 96, 46, 42, 21, 4, 5, 96, 46, 182, 0, 162, 54, 6, 167, 5], [90, 43, 42, 21, 4, 4, 96, 46, 45, 184, 0, 163, 54, 5, 44, 42, 21, 4, 4, 96, 46, 182, 0, 166, 54, 6, 167, 5, 62, 43, 42, 21], [4, 4, 96, 46, 42, 21, 4, 5, 96, 46, 153, 0, 7, 4, 167, 0, 4, 3, 42, 21, 4, 6, 96, 46, 42, 21, 4, 7, 96, 46, 45, 184], [0, 167, 54, 5, 44, 42, 21, 4, 4, 96, 46, 42, 21, 4, 5, 96, 46, 153, 0, 7, 4, 167, 0, 4, 3, 42, 21, 4, 6, 96, 46, 42], [21, 4, 7, 96, 46, 182, 0, 170, 54, 6, 167, 4, 238, 43, 42, 21, 4, 4, 96, 46, 42, 21, 4, 5, 96, 46, 153, 0, 7, 4, 167, 0], [4, 3, 42, 21, 4, 6, 96, 46, 45, 184, 0, 171, 54, 5, 44, 42, 21, 4, 4, 96, 46, 42, 21, 4, 5, 96, 46, 153, 0, 7, 4, 167], [0, 4, 3, 42, 21, 4, 6, 96, 46, 182, 0, 174, 54, 6, 167, 4, 170, 43, 42, 21, 4, 4, 96, 46, 42, 21, 4, 5, 96, 46, 153, 0], [7, 4, 167, 0, 4, 3, 42, 21, 4, 6, 96, 46, 42, 21, 4, 7, 96, 46, 42, 21, 4, 8, 96, 46, 45, 184, 0, 175, 54, 5, 44, 42], [21, 4, 4, 96, 46, 42, 21, 4, 5, 96, 46, 153, 0, 7, 4, 167, 0, 4, 3, 42, 21, 4, 6, 96, 46, 42, 21, 4, 7, 96, 46, 42], [21, 4, 8, 96, 46, 182, 0, 178, 54, 6, 167, 4, 78, 43, 42, 21, 4, 4, 96, 46, 42, 21, 4, 5, 96, 46, 153, 0, 7, 4, 167, 0], [4, 3, 45, 184, 0, 179, 54, 5, 44, 42, 21, 4, 4, 96, 46, 42, 21, 4, 5, 96, 46, 153, 0, 7, 4, 167, 0, 4, 3, 182, 0, 182], [54, 6, 167, 4, 22, 43, 42, 21, 4, 4, 96, 46, 42, 21, 4, 5, 96, 46, 153, 0, 7, 4, 167, 0, 4, 3, 42, 21, 4, 6, 96, 46], [45, 184, 0, 183, 54, 5, 44, 42, 21, 4, 4, 96, 46, 42, 21, 4, 5, 96, 46, 153, 0, 7, 4, 167, 0, 4, 3, 42, 21, 4, 6, 96], [46, 182, 0, 185, 54, 6, 167, 3, 210, 43, 42, 21, 4, 4, 96, 46, 42, 21, 4, 5, 96, 46, 42, 21, 4, 6, 96, 46, 153, 0, 7, 4], [167, 0, 4, 3, 42, 21, 4, 7, 96, 46, 45, 184, 0, 186, 54, 5, 44, 42, 21, 4, 4, 96, 46, 42, 21, 4, 5, 96, 46, 42, 21, 4], [6, 96, 46, 153, 0, 7, 4, 167, 0, 4, 3, 42, 21, 4, 7, 96, 46, 182, 0, 189, 54, 6, 167, 3, 130, 43, 42, 21, 4, 4, 96, 46], [42, 21, 4, 5, 96, 46, 42, 21, 4, 6, 96, 46, 45, 184, 0, 190, 54, 5, 44, 42, 21, 4, 4, 96, 46, 42, 21, 4, 5, 96, 46, 42], [21, 4, 6, 96, 46, 182, 0, 192, 54, 6, 167, 3, 78, 43, 42, 21, 4, 4, 96, 46, 42, 21, 4, 5, 96, 46, 42, 21, 4, 6, 96, 46], [45, 184, 0, 193, 54, 5, 44, 42, 21, 4, 4, 96, 46, 42, 21, 4, 5, 96, 46, 42, 21, 4, 6, 96, 46, 182, 0, 195, 54, 6, 167, 3], [26, 43, 42, 21, 4, 4, 96, 46, 42, 21, 4, 5, 96, 46, 42, 21, 4, 6, 96, 46, 42, 21, 4, 7, 96, 46, 45, 184, 0, 196, 54, 5], [44, 42, 21, 4, 4, 96, 46, 42, 21, 4, 5, 96, 46, 42, 21, 4, 6, 96, 46, 42, 21, 4, 7, 96, 46, 182, 0, 198, 54, 6, 167, 2], [218, 43, 42, 21, 4, 4, 96, 46, 42, 21, 4, 5, 96, 46, 153, 0, 7, 4, 167, 0, 4, 3, 45, 184, 0, 199, 54, 5, 44, 42, 21, 4], [4, 96, 46, 42, 21, 4, 5, 96, 46, 153, 0, 7, 4, 167, 0, 4, 3, 182, 0, 201, 54, 6, 167, 2, 162, 43, 42, 21, 4, 4, 96, 46], [42, 21, 4, 5, 96, 46, 42, 21, 4, 6, 96, 46, 45, 184, 0, 202, 54, 5, 44, 42, 21, 4, 4, 96, 46, 42, 21, 4, 5, 96, 46, 42], [21, 4, 6, 96, 46, 182, 0, 204, 54, 6, 167, 2, 110, 43, 42, 21, 4, 4, 96, 46, 45, 184, 0, 205, 54, 5, 44, 42, 21, 4, 4, 96], [46, 182, 0, 207, 58, 6, 167, 2, 82, 43, 42, 21, 4, 4, 96, 46, 42, 21, 4, 5, 96, 46, 45, 184, 0, 208, 54, 5, 44, 42, 21, 4], [4, 96, 46, 42, 21, 4, 5, 96, 46, 182, 0, 210, 54, 6, 167, 2, 42, 43, 42, 21, 4, 4, 96, 46, 42, 21, 4, 5, 96, 46, 45, 184], [0, 211, 54, 5, 44, 42, 21, 4, 4, 96, 46, 42, 21, 4, 5, 96, 46, 182, 0, 213, 54, 6, 167, 2, 2, 43, 42, 21, 4, 4, 96, 46], [42, 21, 4, 5, 96, 46, 42, 21, 4, 6, 96, 46, 45, 184, 0, 214, 54, 5, 44, 42, 21, 4, 4, 96, 46, 42, 21, 4, 5, 96, 46, 42], [21, 4, 6, 96, 46, 182, 0, 216, 54, 6, 167, 1, 206, 43, 42, 21, 4, 4, 96, 46, 42, 21, 4, 5, 96, 46, 45, 184, 0, 217, 54, 5], [44, 42, 21, 4, 4, 96, 46, 42, 21, 4, 5, 96, 46, 182, 0, 219, 54, 6, 167, 1, 166, 43, 42, 21, 4, 4, 96, 46, 42, 21, 4, 5], [96, 46, 45, 184, 0, 220, 54, 5, 44, 42, 21, 4, 4, 96, 46, 42, 21, 4, 5, 96, 46, 182, 0, 222, 54, 6, 167, 1, 126, 43, 42, 21], [4, 4, 96, 46, 42, 21, 4, 5, 96, 46, 42, 21, 4, 6, 96, 46, 42, 21, 4, 7, 96, 46, 45, 184, 0, 223, 54, 5, 44, 42, 21, 4], [4, 96, 46, 42, 21, 4, 5, 96, 46, 42, 21, 4, 6, 96, 46, 42, 21, 4, 7, 96, 46, 182, 0, 225, 54, 6, 167, 1, 62, 43, 42, 21], [4, 4, 96, 46, 42, 21, 4, 5, 96, 46, 45, 184, 0, 226, 54, 5, 44, 42, 21, 4, 4, 96, 46, 42, 21, 4, 5, 96, 46, 182, 0, 228], [54, 6, 167, 1, 22, 43, 42, 21, 4, 4, 96, 46, 42, 21, 4, 5, 96, 46, 42, 21, 4, 6, 96, 46, 42, 21, 4, 7, 96, 46, 45, 184], [0, 229, 54, 5, 44, 42, 21, 4, 4, 96, 46, 42, 21, 4, 5, 96, 46, 42, 21, 4, 6, 96, 46, 42, 21, 4, 7, 96, 46, 182, 0, 231], [54, 6, 167, 0, 214, 43, 42, 21, 4, 4, 96, 46, 42, 21, 4, 5, 96, 46, 42, 21, 4, 6, 96, 46, 45, 184, 0, 232, 54, 5, 44, 42], [21, 4, 4, 96, 46, 42, 21, 4, 5, 96, 46, 42, 21, 4, 6, 96, 46, 182, 0, 234, 54, 6, 167, 0, 162, 43, 42, 21, 4, 4, 96, 46], [42, 21, 4, 5, 96, 46, 45, 184, 0, 235, 54, 5, 44, 42, 21, 4, 4, 96, 46, 42, 21, 4, 5, 96, 46, 182, 0, 237, 58, 6, 167, 0], [122, 43, 42, 21, 4, 4, 96, 46, 42, 21, 4, 5, 96, 46, 42, 21, 4, 6, 96, 46, 45, 184, 0, 238, 54, 5, 44, 42, 21, 4, 4, 96], [46, 42, 21, 4, 5, 96, 46, 42, 21, 4, 6, 96, 46, 182, 0, 240, 54, 6, 167, 0, 70, 43, 42, 21, 4, 4, 96, 46, 45, 184, 0, 241], [54, 5, 44, 42, 21, 4, 4, 96, 46, 182, 0, 243, 54, 6, 167, 0, 42, 43, 182, 0, 244, 87, 44, 182, 0, 247, 87, 167, 0, 29, 43, 182], [0, 248, 87, 44, 182, 0, 252, 87, 167, 0, 16, 43, 182, 0, 253, 88, 44, 182, 1, 1, 88, 167, 0, 3, 132, 4, 6, 167, 248, 192, 4, 172]]
set_option maxRecDepth 20000 in
theorem hI_L_law : dz_is cL_law hL_L_law = true := by decide +kernel
theorem dL_law_196 : decode cL_law 196 = .ok (.aload_n 1, 1) := dz_e0 dz_43 hI_L_law (by decide +kernel)
theorem dL_law_197 : decode cL_law 197 = .ok (.aload_n 0, 1) := dz_e0 dz_42 hI_L_law (by decide +kernel)
theorem dL_law_198 : decode cL_law 198 = .ok (.iload 4, 2) := dz_e1 dz_21 hI_L_law (by decide +kernel)
theorem dL_law_200 : decode cL_law 200 = .ok (.iconst 1, 1) := dz_e0 dz_4 hI_L_law (by decide +kernel)
theorem dL_law_201 : decode cL_law 201 = .ok (.iadd, 1) := dz_e0 dz_96 hI_L_law (by decide +kernel)
theorem dL_law_202 : decode cL_law 202 = .ok (.iaload, 1) := dz_e0 dz_46 hI_L_law (by decide +kernel)
theorem dL_law_203 : decode cL_law 203 = .ok (.aload_n 0, 1) := dz_e0 dz_42 hI_L_law (by decide +kernel)
theorem dL_law_204 : decode cL_law 204 = .ok (.iload 4, 2) := dz_e1 dz_21 hI_L_law (by decide +kernel)
theorem dL_law_206 : decode cL_law 206 = .ok (.iconst 2, 1) := dz_e0 dz_5 hI_L_law (by decide +kernel)
theorem dL_law_207 : decode cL_law 207 = .ok (.iadd, 1) := dz_e0 dz_96 hI_L_law (by decide +kernel)
theorem dL_law_208 : decode cL_law 208 = .ok (.iaload, 1) := dz_e0 dz_46 hI_L_law (by decide +kernel)
theorem dL_law_209 : decode cL_law 209 = .ok (.aload_n 0, 1) := dz_e0 dz_42 hI_L_law (by decide +kernel)
theorem dL_law_210 : decode cL_law 210 = .ok (.iload 4, 2) := dz_e1 dz_21 hI_L_law (by decide +kernel)
theorem dL_law_212 : decode cL_law 212 = .ok (.iconst 3, 1) := dz_e0 dz_6 hI_L_law (by decide +kernel)
theorem dL_law_213 : decode cL_law 213 = .ok (.iadd, 1) := dz_e0 dz_96 hI_L_law (by decide +kernel)
theorem dL_law_214 : decode cL_law 214 = .ok (.iaload, 1) := dz_e0 dz_46 hI_L_law (by decide +kernel)
theorem dL_law_215 : decode cL_law 215 = .ok (.aload_n 3, 1) := dz_e0 dz_45 hI_L_law (by decide +kernel)
theorem dL_law_216 : decode cL_law 216 = .ok (.invokestatic 136, 3) := dz_e2 dz_184 hI_L_law (by decide +kernel)
theorem dL_law_219 : decode cL_law 219 = .ok (.istore 5, 2) := dz_e1 dz_54 hI_L_law (by decide +kernel)
theorem dL_law_221 : decode cL_law 221 = .ok (.aload_n 2, 1) := dz_e0 dz_44 hI_L_law (by decide +kernel)
theorem dL_law_222 : decode cL_law 222 = .ok (.aload_n 0, 1) := dz_e0 dz_42 hI_L_law (by decide +kernel)
theorem dL_law_223 : decode cL_law 223 = .ok (.iload 4, 2) := dz_e1 dz_21 hI_L_law (by decide +kernel)
theorem dL_law_225 : decode cL_law 225 = .ok (.iconst 1, 1) := dz_e0 dz_4 hI_L_law (by decide +kernel)
theorem dL_law_226 : decode cL_law 226 = .ok (.iadd, 1) := dz_e0 dz_96 hI_L_law (by decide +kernel)
theorem dL_law_227 : decode cL_law 227 = .ok (.iaload, 1) := dz_e0 dz_46 hI_L_law (by decide +kernel)
theorem dL_law_228 : decode cL_law 228 = .ok (.aload_n 0, 1) := dz_e0 dz_42 hI_L_law (by decide +kernel)
theorem dL_law_229 : decode cL_law 229 = .ok (.iload 4, 2) := dz_e1 dz_21 hI_L_law (by decide +kernel)
theorem dL_law_231 : decode cL_law 231 = .ok (.iconst 2, 1) := dz_e0 dz_5 hI_L_law (by decide +kernel)
theorem dL_law_232 : decode cL_law 232 = .ok (.iadd, 1) := dz_e0 dz_96 hI_L_law (by decide +kernel)
theorem dL_law_233 : decode cL_law 233 = .ok (.iaload, 1) := dz_e0 dz_46 hI_L_law (by decide +kernel)
theorem dL_law_234 : decode cL_law 234 = .ok (.aload_n 0, 1) := dz_e0 dz_42 hI_L_law (by decide +kernel)
theorem dL_law_235 : decode cL_law 235 = .ok (.iload 4, 2) := dz_e1 dz_21 hI_L_law (by decide +kernel)
theorem dL_law_237 : decode cL_law 237 = .ok (.iconst 3, 1) := dz_e0 dz_6 hI_L_law (by decide +kernel)
theorem dL_law_238 : decode cL_law 238 = .ok (.iadd, 1) := dz_e0 dz_96 hI_L_law (by decide +kernel)
theorem dL_law_239 : decode cL_law 239 = .ok (.iaload, 1) := dz_e0 dz_46 hI_L_law (by decide +kernel)
theorem dL_law_240 : decode cL_law 240 = .ok (.invokevirtual 141, 3) := dz_e2 dz_182 hI_L_law (by decide +kernel)
theorem dL_law_243 : decode cL_law 243 = .ok (.istore 6, 2) := dz_e1 dz_54 hI_L_law (by decide +kernel)
theorem dL_law_245 : decode cL_law 245 = .ok (.goto 1635, 3) := dz_f2 dz_167 hI_L_law (by decide +kernel)
set_option maxHeartbeats 4000000 in
set_option maxRecDepth 100000 in
theorem lc_0 : Lc 196 := by
  intro κ p l e s m args below meth c A ret b L o i xs a a2 r2 r q q2 f f2 n v cells slots Q H locs ls hst hX hx9 hbl hbA hi hL hok hm hr hB hl hc hs kk
  have hx := hX.1.1
  have hb := hX.1.2.1
  refine lv_aload_n hx hb dL_law_196 rfl (lv_at hl 1 rfl) ?_
  obtain ⟨z1, e1⟩ : ∃ z, xs (6 * i + 1) = z := ⟨_, rfl⟩
  refine lv_scr (k := 1) hX hB hx9 hbl hbA hi hL hl dL_law_197 dL_law_198 dL_law_200 dL_law_201 dL_law_202 (by decide) (by decide) e1 ?_
  obtain ⟨z2, e2⟩ : ∃ z, xs (6 * i + 2) = z := ⟨_, rfl⟩
  refine lv_scr (k := 2) hX hB hx9 hbl hbA hi hL hl dL_law_203 dL_law_204 dL_law_206 dL_law_207 dL_law_208 (by decide) (by decide) e2 ?_
  obtain ⟨z3, e3⟩ : ∃ z, xs (6 * i + 3) = z := ⟨_, rfl⟩
  refine lv_scr (k := 3) hX hB hx9 hbl hbA hi hL hl dL_law_209 dL_law_210 dL_law_212 dL_law_213 dL_law_214 (by decide) (by decide) e3 ?_
  refine lv_aload_n hx hb dL_law_215 rfl (lv_at hl 3 rfl) ?_
  replace hB := Lw_1 hB
  obtain ⟨Y, hY⟩ : ∃ Y, D_X5_make r q f z1 z2 z3 = Y := ⟨_, rfl⟩
  refine call_SW (n := 5) (As := [.ref (a 0), .int z1, .int z2, .int z3, .ref o]) (rest := []) hX hB (CMW_frame (mw κ a2 r2 f2 q2 (tb a2) []) (w_make κ l hst a r q f o n v z1 z2 z3 hok Y hY)) ⟨by decide, by decide, by decide +kernel⟩ wm_2_156 wm_2_157 wm_1_0 wm_2_158 ⟨Nat.le_of_ble_eq_true rfl, Nat.le_of_ble_eq_true rfl⟩ ⟨by show _ ≤ 600128; omega, by show _ ≤ 7301098; omega⟩ rfl hl.1 rfl (Nat.le_of_ble_eq_true rfl) dL_law_216 (fun o9 w' H locs hp hB => ?_)
  obtain ⟨_, ⟨x1, n1, v1, rfl, ho, hq, hW, rfl⟩, rfl⟩ := hp
  refine W.eq (g2 := F0 m 219 ls [.int x1]) rfl ?_
  refine lv_istore (lv' := [(5, .int x1), (0, .ref b), (1, .ref (a 0)), (2, .ref (a2 0)), (3, .ref o), (4, .int (nI (6 * i)))]) hx hb dL_law_219 hl (by decide) rfl (fun ls hl => ?_)
  have hl0 := hl
  replace hl : lv_has ls 7 (Lv b (a 0) (a2 0) o i) := lv_sub hl [1, 2, 3, 4, 5] rfl
  refine lv_aload_n hx hb dL_law_221 rfl (lv_at hl 2 rfl) ?_
  refine lv_scr (k := 1) hX hB hx9 hbl hbA hi hL hl dL_law_222 dL_law_223 dL_law_225 dL_law_226 dL_law_227 (by decide) (by decide) e1 ?_
  refine lv_scr (k := 2) hX hB hx9 hbl hbA hi hL hl dL_law_228 dL_law_229 dL_law_231 dL_law_232 dL_law_233 (by decide) (by decide) e2 ?_
  refine lv_scr (k := 3) hX hB hx9 hbl hbA hi hL hl dL_law_234 dL_law_235 dL_law_237 dL_law_238 dL_law_239 (by decide) (by decide) e3 ?_
  replace hB := Lw_2 hB
  obtain ⟨Z, hZ⟩ : ∃ Z, D_X10_make r2 f2 q2 z1 z2 z3 = Z := ⟨_, rfl⟩
  refine call_V (n := 3) (k0 := 0) (As := [.int z1, .int z2, .int z3]) (rest := []) hX hB (k_X10_make κ l (cw κ a Y.2.2.1 Y.2.2.2.1 Y.2.2.2.2 ++ [Ot o n1 v1]) a2 r2 f2 q2 z1 z2 z3 hm _ _ _ _ (hZ.trans (te4 Z))) ⟨rfl, by decide, by decide, by decide +kernel⟩ wm_5_182 wm_5_183 wm_5_184 wm_1_6 wm_5_185 ⟨Nat.le_of_ble_eq_true rfl, Nat.le_of_ble_eq_true rfl⟩ ⟨by show _ ≤ 600128; omega, by show _ ≤ 7301098; omega⟩ mw0 rfl rfl rfl hl.1 rfl (Nat.le_of_ble_eq_true rfl) dL_law_240 (fun o9 w' H locs hp hB => ?_)
  obtain ⟨a3, rfl, hf0, hf1, hf2, rfl⟩ := hp
  have hO : Ok Y Z := by rw [← hY, ← hZ]; exact make_eq hr
  refine W.eq (g2 := F0 m 243 ls [.int Z.1]) rfl ?_
  refine lv_istore (lv' := [(6, .int Z.1), (5, .int x1), (0, .ref b), (1, .ref (a 0)), (2, .ref (a2 0)), (3, .ref o), (4, .int (nI (6 * i)))]) hx hb dL_law_243 hl0 (by decide) rfl (fun ls hl => ?_)
  have hl0 := hl
  replace hl : lv_has ls 7 (Lv b (a 0) (a2 0) o i) := lv_sub hl [2, 3, 4, 5, 6] rfl
  refine lv_goto (tgt := 1880) hx hb dL_law_245 (by decide) ?_
  replace hB := Lw_3 hB
  refine W.widen (k := cells + 100) (n := slots + 70000) (by omega) (by omega) ?_
  exact kk _ _ _ _ _ _ _ _ _ _ _ _ (ho hok) hf1 hO.1 hf0 hB hl
theorem dL_law_248 : decode cL_law 248 = .ok (.aload_n 1, 1) := dz_e0 dz_43 hI_L_law (by decide +kernel)
theorem dL_law_249 : decode cL_law 249 = .ok (.aload_n 0, 1) := dz_e0 dz_42 hI_L_law (by decide +kernel)
theorem dL_law_250 : decode cL_law 250 = .ok (.iload 4, 2) := dz_e1 dz_21 hI_L_law (by decide +kernel)
theorem dL_law_252 : decode cL_law 252 = .ok (.iconst 1, 1) := dz_e0 dz_4 hI_L_law (by decide +kernel)
theorem dL_law_253 : decode cL_law 253 = .ok (.iadd, 1) := dz_e0 dz_96 hI_L_law (by decide +kernel)
theorem dL_law_254 : decode cL_law 254 = .ok (.iaload, 1) := dz_e0 dz_46 hI_L_law (by decide +kernel)
theorem dL_law_255 : decode cL_law 255 = .ok (.aload_n 0, 1) := dz_e0 dz_42 hI_L_law (by decide +kernel)
theorem dL_law_256 : decode cL_law 256 = .ok (.iload 4, 2) := dz_e1 dz_21 hI_L_law (by decide +kernel)
theorem dL_law_258 : decode cL_law 258 = .ok (.iconst 2, 1) := dz_e0 dz_5 hI_L_law (by decide +kernel)
theorem dL_law_259 : decode cL_law 259 = .ok (.iadd, 1) := dz_e0 dz_96 hI_L_law (by decide +kernel)
theorem dL_law_260 : decode cL_law 260 = .ok (.iaload, 1) := dz_e0 dz_46 hI_L_law (by decide +kernel)
theorem dL_law_261 : decode cL_law 261 = .ok (.aload_n 3, 1) := dz_e0 dz_45 hI_L_law (by decide +kernel)
theorem dL_law_262 : decode cL_law 262 = .ok (.invokestatic 142, 3) := dz_e2 dz_184 hI_L_law (by decide +kernel)
theorem dL_law_265 : decode cL_law 265 = .ok (.istore 5, 2) := dz_e1 dz_54 hI_L_law (by decide +kernel)
theorem dL_law_267 : decode cL_law 267 = .ok (.aload_n 2, 1) := dz_e0 dz_44 hI_L_law (by decide +kernel)
theorem dL_law_268 : decode cL_law 268 = .ok (.aload_n 0, 1) := dz_e0 dz_42 hI_L_law (by decide +kernel)
theorem dL_law_269 : decode cL_law 269 = .ok (.iload 4, 2) := dz_e1 dz_21 hI_L_law (by decide +kernel)
theorem dL_law_271 : decode cL_law 271 = .ok (.iconst 1, 1) := dz_e0 dz_4 hI_L_law (by decide +kernel)
theorem dL_law_272 : decode cL_law 272 = .ok (.iadd, 1) := dz_e0 dz_96 hI_L_law (by decide +kernel)
theorem dL_law_273 : decode cL_law 273 = .ok (.iaload, 1) := dz_e0 dz_46 hI_L_law (by decide +kernel)
theorem dL_law_274 : decode cL_law 274 = .ok (.aload_n 0, 1) := dz_e0 dz_42 hI_L_law (by decide +kernel)
theorem dL_law_275 : decode cL_law 275 = .ok (.iload 4, 2) := dz_e1 dz_21 hI_L_law (by decide +kernel)
theorem dL_law_277 : decode cL_law 277 = .ok (.iconst 2, 1) := dz_e0 dz_5 hI_L_law (by decide +kernel)
theorem dL_law_278 : decode cL_law 278 = .ok (.iadd, 1) := dz_e0 dz_96 hI_L_law (by decide +kernel)
theorem dL_law_279 : decode cL_law 279 = .ok (.iaload, 1) := dz_e0 dz_46 hI_L_law (by decide +kernel)
theorem dL_law_280 : decode cL_law 280 = .ok (.invokevirtual 145, 3) := dz_e2 dz_182 hI_L_law (by decide +kernel)
theorem dL_law_283 : decode cL_law 283 = .ok (.istore 6, 2) := dz_e1 dz_54 hI_L_law (by decide +kernel)
theorem dL_law_285 : decode cL_law 285 = .ok (.aload_n 2, 1) := dz_e0 dz_44 hI_L_law (by decide +kernel)
theorem dL_law_286 : decode cL_law 286 = .ok (.invokevirtual 146, 3) := dz_e2 dz_182 hI_L_law (by decide +kernel)
theorem dL_law_289 : decode cL_law 289 = .ok (.iload 5, 2) := dz_e1 dz_21 hI_L_law (by decide +kernel)
theorem dL_law_291 : decode cL_law 291 = .ok (.if_icmp .eq 5, 3) := dz_f2 dz_159 hI_L_law (by decide +kernel)
theorem dL_law_296 : decode cL_law 296 = .ok (.iload 5, 2) := dz_e1 dz_21 hI_L_law (by decide +kernel)
theorem dL_law_298 : decode cL_law 298 = .ok (.ifCond .ne 16, 3) := dz_f2 dz_154 hI_L_law (by decide +kernel)
theorem dL_law_301 : decode cL_law 301 = .ok (.aload_n 3, 1) := dz_e0 dz_45 hI_L_law (by decide +kernel)
theorem dL_law_302 : decode cL_law 302 = .ok (.getfield 13, 3) := dz_e2 dz_180 hI_L_law (by decide +kernel)
theorem dL_law_305 : decode cL_law 305 = .ok (.iload 6, 2) := dz_e1 dz_21 hI_L_law (by decide +kernel)
theorem dL_law_307 : decode cL_law 307 = .ok (.i2l, 1) := dz_e0 dz_133 hI_L_law (by decide +kernel)
theorem dL_law_308 : decode cL_law 308 = .ok (.lcmp, 1) := dz_e0 dz_148 hI_L_law (by decide +kernel)
theorem dL_law_309 : decode cL_law 309 = .ok (.ifCond .eq 5, 3) := dz_f2 dz_153 hI_L_law (by decide +kernel)
theorem dL_law_314 : decode cL_law 314 = .ok (.goto 1566, 3) := dz_f2 dz_167 hI_L_law (by decide +kernel)
set_option maxHeartbeats 4000000 in
set_option maxRecDepth 100000 in
theorem lc_1 : Lc 248 := by
  intro κ p l e s m args below meth c A ret b L o i xs a a2 r2 r q q2 f f2 n v cells slots Q H locs ls hst hX hx9 hbl hbA hi hL hok hm hr hB hl hc hs kk
  have hx := hX.1.1
  have hb := hX.1.2.1
  refine lv_aload_n hx hb dL_law_248 rfl (lv_at hl 1 rfl) ?_
  obtain ⟨z1, e1⟩ : ∃ z, xs (6 * i + 1) = z := ⟨_, rfl⟩
  refine lv_scr (k := 1) hX hB hx9 hbl hbA hi hL hl dL_law_249 dL_law_250 dL_law_252 dL_law_253 dL_law_254 (by decide) (by decide) e1 ?_
  obtain ⟨z2, e2⟩ : ∃ z, xs (6 * i + 2) = z := ⟨_, rfl⟩
  refine lv_scr (k := 2) hX hB hx9 hbl hbA hi hL hl dL_law_255 dL_law_256 dL_law_258 dL_law_259 dL_law_260 (by decide) (by decide) e2 ?_
  refine lv_aload_n hx hb dL_law_261 rfl (lv_at hl 3 rfl) ?_
  replace hB := Lw_1 hB
  obtain ⟨Y, hY⟩ : ∃ Y, D_X5_unit r q f z1 z2 = Y := ⟨_, rfl⟩
  refine call_SW (n := 4) (As := [.ref (a 0), .int z1, .int z2, .ref o]) (rest := []) hX hB (CMW_frame (mw κ a2 r2 f2 q2 (tb a2) []) (w_unit κ l hst a r q f o n v z1 z2 hok Y hY)) ⟨by decide, by decide, by decide +kernel⟩ wm_3_28 wm_3_29 wm_1_0 wm_3_30 ⟨Nat.le_of_ble_eq_true rfl, Nat.le_of_ble_eq_true rfl⟩ ⟨by show _ ≤ 600128; omega, by show _ ≤ 7301098; omega⟩ rfl hl.1 rfl (Nat.le_of_ble_eq_true rfl) dL_law_262 (fun o9 w' H locs hp hB => ?_)
  obtain ⟨_, ⟨x1, n1, v1, rfl, ho, hq, hW, rfl⟩, rfl⟩ := hp
  refine W.eq (g2 := F0 m 265 ls [.int x1]) rfl ?_
  refine lv_istore (lv' := [(5, .int x1), (0, .ref b), (1, .ref (a 0)), (2, .ref (a2 0)), (3, .ref o), (4, .int (nI (6 * i)))]) hx hb dL_law_265 hl (by decide) rfl (fun ls hl => ?_)
  have hl0 := hl
  replace hl : lv_has ls 7 (Lv b (a 0) (a2 0) o i) := lv_sub hl [1, 2, 3, 4, 5] rfl
  refine lv_aload_n hx hb dL_law_267 rfl (lv_at hl 2 rfl) ?_
  refine lv_scr (k := 1) hX hB hx9 hbl hbA hi hL hl dL_law_268 dL_law_269 dL_law_271 dL_law_272 dL_law_273 (by decide) (by decide) e1 ?_
  refine lv_scr (k := 2) hX hB hx9 hbl hbA hi hL hl dL_law_274 dL_law_275 dL_law_277 dL_law_278 dL_law_279 (by decide) (by decide) e2 ?_
  replace hB := Lw_2 hB
  obtain ⟨Z, hZ⟩ : ∃ Z, D_X10_unit r2 f2 q2 z1 z2 = Z := ⟨_, rfl⟩
  refine call_V (n := 2) (k0 := 0) (As := [.int z1, .int z2]) (rest := []) hX hB (k_X10_unit κ l (cw κ a Y.2.2.1 Y.2.2.2.1 Y.2.2.2.2 ++ [Ot o n1 v1]) a2 r2 f2 q2 z1 z2 hm _ _ _ _ (hZ.trans (te4 Z))) ⟨rfl, by decide, by decide, by decide +kernel⟩ wm_5_212 wm_5_213 wm_5_214 wm_1_6 wm_5_215 ⟨Nat.le_of_ble_eq_true rfl, Nat.le_of_ble_eq_true rfl⟩ ⟨by show _ ≤ 600128; omega, by show _ ≤ 7301098; omega⟩ mw0 rfl rfl rfl hl.1 rfl (Nat.le_of_ble_eq_true rfl) dL_law_280 (fun o9 w' H locs hp hB => ?_)
  obtain ⟨a3, rfl, hf0, hf1, hf2, rfl⟩ := hp
  have hO : Ok Y Z := by rw [← hY, ← hZ]; exact unit_eq hr
  refine W.eq (g2 := F0 m 283 ls [.int Z.1]) rfl ?_
  refine lv_istore (lv' := [(6, .int Z.1), (5, .int x1), (0, .ref b), (1, .ref (a 0)), (2, .ref (a2 0)), (3, .ref o), (4, .int (nI (6 * i)))]) hx hb dL_law_283 hl0 (by decide) rfl (fun ls hl => ?_)
  have hl0 := hl
  replace hl : lv_has ls 7 (Lv b (a 0) (a2 0) o i) := lv_sub hl [2, 3, 4, 5, 6] rfl
  refine lv_aload_n hx hb dL_law_285 rfl (lv_at hl 2 rfl) ?_
  refine W.eq (g2 := F0 m 286 ls [.ref (a3 0)]) (by rw [hf0]) ?_
  refine call_V (n := 0) (k0 := 0) (As := []) (rest := []) hX hB (k_X10_thrown κ l (cw κ a Y.2.2.1 Y.2.2.2.1 Y.2.2.2.2 ++ [Ot o n1 v1]) a3 Z.2.1 Z.2.2.1 Z.2.2.2  hf1) ⟨rfl, by decide, by decide, by decide +kernel⟩ wm_5_178 wm_5_179 wm_5_180 wm_1_6 wm_5_181 ⟨Nat.le_of_ble_eq_true rfl, Nat.le_of_ble_eq_true rfl⟩ ⟨by show _ ≤ 600128; omega, by show _ ≤ 7301098; omega⟩ mw0 rfl rfl rfl hl.1 rfl (Nat.le_of_ble_eq_true rfl) dL_law_286 (fun o9 w' H locs hp hB => ?_)
  obtain ⟨rfl, rfl⟩ := hp
  refine W.eq (g2 := F0 m 289 ls [.int (Z.2.2.2 3)]) rfl ?_
  refine lv_iload hx hb dL_law_289 (lv_at hl0 1 rfl) ?_
  have hA : An Y.1 Y.2.1 (Z.2.2.2 3) Z.1 := hO.2
  obtain ⟨hT1, hT2⟩ := Wc_an wc2 hW hA
  refine lv_icmp_eq (tgt := 296) hx hb dL_law_291 (by decide) (fun _ => ?_) (fun c1 => absurd hT1 c1)
  refine lv_iload hx hb dL_law_296 (lv_at hl0 1 rfl) ?_
  refine lv_if_ne (tgt := 314) hx hb dL_law_298 (by decide) (fun c2 => ?_) (fun c2 => ?_)
  · skip
    refine lv_goto (tgt := 1880) hx hb dL_law_314 (by decide) ?_
    replace hB := Lw_3 hB
    refine W.widen (k := cells + 100) (n := slots + 70000) (by omega) (by omega) ?_
    exact kk _ _ _ _ _ _ _ _ _ _ _ _ (ho hok) hf1 hO.1 hf0 hB hl
  · skip
    refine lv_aload_n hx hb dL_law_301 rfl (lv_at hl 3 rfl) ?_
    replace hB := Lw_3 hB
    refine gfN (k0 := 36) hX hB cw_oL rfl in6 0 (by decide) wn_2_149 rfl rfl dL_law_302 ?_
    refine lv_iload hx hb dL_law_305 (lv_at hl0 0 rfl) ?_
    refine lv_i2l hx hb dL_law_307 rfl ?_
    refine W.lcmp hx hb dL_law_308 ?_
    refine lv_if_eq (tgt := 314) hx hb dL_law_309 (by decide) (fun _ => ?_) (fun c3 => absurd (by rw [hT2 c2]; exact lgE.mpr rfl) c3)
    refine lv_goto (tgt := 1880) hx hb dL_law_314 (by decide) ?_
    refine W.widen (k := cells + 100) (n := slots + 70000) (by omega) (by omega) ?_
    exact kk _ _ _ _ _ _ _ _ _ _ _ _ (ho hok) hf1 hO.1 hf0 hB hl
theorem dL_law_317 : decode cL_law 317 = .ok (.aload_n 1, 1) := dz_e0 dz_43 hI_L_law (by decide +kernel)
theorem dL_law_318 : decode cL_law 318 = .ok (.aload_n 0, 1) := dz_e0 dz_42 hI_L_law (by decide +kernel)
theorem dL_law_319 : decode cL_law 319 = .ok (.iload 4, 2) := dz_e1 dz_21 hI_L_law (by decide +kernel)
theorem dL_law_321 : decode cL_law 321 = .ok (.iconst 1, 1) := dz_e0 dz_4 hI_L_law (by decide +kernel)
theorem dL_law_322 : decode cL_law 322 = .ok (.iadd, 1) := dz_e0 dz_96 hI_L_law (by decide +kernel)
theorem dL_law_323 : decode cL_law 323 = .ok (.iaload, 1) := dz_e0 dz_46 hI_L_law (by decide +kernel)
theorem dL_law_324 : decode cL_law 324 = .ok (.aload_n 0, 1) := dz_e0 dz_42 hI_L_law (by decide +kernel)
theorem dL_law_325 : decode cL_law 325 = .ok (.iload 4, 2) := dz_e1 dz_21 hI_L_law (by decide +kernel)
theorem dL_law_327 : decode cL_law 327 = .ok (.iconst 2, 1) := dz_e0 dz_5 hI_L_law (by decide +kernel)
theorem dL_law_328 : decode cL_law 328 = .ok (.iadd, 1) := dz_e0 dz_96 hI_L_law (by decide +kernel)
theorem dL_law_329 : decode cL_law 329 = .ok (.iaload, 1) := dz_e0 dz_46 hI_L_law (by decide +kernel)
theorem dL_law_330 : decode cL_law 330 = .ok (.aload_n 0, 1) := dz_e0 dz_42 hI_L_law (by decide +kernel)
theorem dL_law_331 : decode cL_law 331 = .ok (.iload 4, 2) := dz_e1 dz_21 hI_L_law (by decide +kernel)
theorem dL_law_333 : decode cL_law 333 = .ok (.iconst 3, 1) := dz_e0 dz_6 hI_L_law (by decide +kernel)
theorem dL_law_334 : decode cL_law 334 = .ok (.iadd, 1) := dz_e0 dz_96 hI_L_law (by decide +kernel)
theorem dL_law_335 : decode cL_law 335 = .ok (.iaload, 1) := dz_e0 dz_46 hI_L_law (by decide +kernel)
theorem dL_law_336 : decode cL_law 336 = .ok (.aload_n 0, 1) := dz_e0 dz_42 hI_L_law (by decide +kernel)
theorem dL_law_337 : decode cL_law 337 = .ok (.iload 4, 2) := dz_e1 dz_21 hI_L_law (by decide +kernel)
theorem dL_law_339 : decode cL_law 339 = .ok (.iconst 4, 1) := dz_e0 dz_7 hI_L_law (by decide +kernel)
theorem dL_law_340 : decode cL_law 340 = .ok (.iadd, 1) := dz_e0 dz_96 hI_L_law (by decide +kernel)
theorem dL_law_341 : decode cL_law 341 = .ok (.iaload, 1) := dz_e0 dz_46 hI_L_law (by decide +kernel)
theorem dL_law_342 : decode cL_law 342 = .ok (.aload_n 3, 1) := dz_e0 dz_45 hI_L_law (by decide +kernel)
theorem dL_law_343 : decode cL_law 343 = .ok (.invokestatic 150, 3) := dz_e2 dz_184 hI_L_law (by decide +kernel)
theorem dL_law_346 : decode cL_law 346 = .ok (.istore 5, 2) := dz_e1 dz_54 hI_L_law (by decide +kernel)
theorem dL_law_348 : decode cL_law 348 = .ok (.aload_n 2, 1) := dz_e0 dz_44 hI_L_law (by decide +kernel)
theorem dL_law_349 : decode cL_law 349 = .ok (.aload_n 0, 1) := dz_e0 dz_42 hI_L_law (by decide +kernel)
theorem dL_law_350 : decode cL_law 350 = .ok (.iload 4, 2) := dz_e1 dz_21 hI_L_law (by decide +kernel)
theorem dL_law_352 : decode cL_law 352 = .ok (.iconst 1, 1) := dz_e0 dz_4 hI_L_law (by decide +kernel)
theorem dL_law_353 : decode cL_law 353 = .ok (.iadd, 1) := dz_e0 dz_96 hI_L_law (by decide +kernel)
theorem dL_law_354 : decode cL_law 354 = .ok (.iaload, 1) := dz_e0 dz_46 hI_L_law (by decide +kernel)
theorem dL_law_355 : decode cL_law 355 = .ok (.aload_n 0, 1) := dz_e0 dz_42 hI_L_law (by decide +kernel)
theorem dL_law_356 : decode cL_law 356 = .ok (.iload 4, 2) := dz_e1 dz_21 hI_L_law (by decide +kernel)
theorem dL_law_358 : decode cL_law 358 = .ok (.iconst 2, 1) := dz_e0 dz_5 hI_L_law (by decide +kernel)
theorem dL_law_359 : decode cL_law 359 = .ok (.iadd, 1) := dz_e0 dz_96 hI_L_law (by decide +kernel)
theorem dL_law_360 : decode cL_law 360 = .ok (.iaload, 1) := dz_e0 dz_46 hI_L_law (by decide +kernel)
theorem dL_law_361 : decode cL_law 361 = .ok (.aload_n 0, 1) := dz_e0 dz_42 hI_L_law (by decide +kernel)
theorem dL_law_362 : decode cL_law 362 = .ok (.iload 4, 2) := dz_e1 dz_21 hI_L_law (by decide +kernel)
theorem dL_law_364 : decode cL_law 364 = .ok (.iconst 3, 1) := dz_e0 dz_6 hI_L_law (by decide +kernel)
theorem dL_law_365 : decode cL_law 365 = .ok (.iadd, 1) := dz_e0 dz_96 hI_L_law (by decide +kernel)
theorem dL_law_366 : decode cL_law 366 = .ok (.iaload, 1) := dz_e0 dz_46 hI_L_law (by decide +kernel)
theorem dL_law_367 : decode cL_law 367 = .ok (.aload_n 0, 1) := dz_e0 dz_42 hI_L_law (by decide +kernel)
theorem dL_law_368 : decode cL_law 368 = .ok (.iload 4, 2) := dz_e1 dz_21 hI_L_law (by decide +kernel)
theorem dL_law_370 : decode cL_law 370 = .ok (.iconst 4, 1) := dz_e0 dz_7 hI_L_law (by decide +kernel)
theorem dL_law_371 : decode cL_law 371 = .ok (.iadd, 1) := dz_e0 dz_96 hI_L_law (by decide +kernel)
theorem dL_law_372 : decode cL_law 372 = .ok (.iaload, 1) := dz_e0 dz_46 hI_L_law (by decide +kernel)
theorem dL_law_373 : decode cL_law 373 = .ok (.invokevirtual 153, 3) := dz_e2 dz_182 hI_L_law (by decide +kernel)
theorem dL_law_376 : decode cL_law 376 = .ok (.istore 6, 2) := dz_e1 dz_54 hI_L_law (by decide +kernel)
theorem dL_law_378 : decode cL_law 378 = .ok (.goto 1502, 3) := dz_f2 dz_167 hI_L_law (by decide +kernel)
set_option maxHeartbeats 4000000 in
set_option maxRecDepth 100000 in
theorem lc_2 : Lc 317 := by
  intro κ p l e s m args below meth c A ret b L o i xs a a2 r2 r q q2 f f2 n v cells slots Q H locs ls hst hX hx9 hbl hbA hi hL hok hm hr hB hl hc hs kk
  have hx := hX.1.1
  have hb := hX.1.2.1
  refine lv_aload_n hx hb dL_law_317 rfl (lv_at hl 1 rfl) ?_
  obtain ⟨z1, e1⟩ : ∃ z, xs (6 * i + 1) = z := ⟨_, rfl⟩
  refine lv_scr (k := 1) hX hB hx9 hbl hbA hi hL hl dL_law_318 dL_law_319 dL_law_321 dL_law_322 dL_law_323 (by decide) (by decide) e1 ?_
  obtain ⟨z2, e2⟩ : ∃ z, xs (6 * i + 2) = z := ⟨_, rfl⟩
  refine lv_scr (k := 2) hX hB hx9 hbl hbA hi hL hl dL_law_324 dL_law_325 dL_law_327 dL_law_328 dL_law_329 (by decide) (by decide) e2 ?_
  obtain ⟨z3, e3⟩ : ∃ z, xs (6 * i + 3) = z := ⟨_, rfl⟩
  refine lv_scr (k := 3) hX hB hx9 hbl hbA hi hL hl dL_law_330 dL_law_331 dL_law_333 dL_law_334 dL_law_335 (by decide) (by decide) e3 ?_
  obtain ⟨z4, e4⟩ : ∃ z, xs (6 * i + 4) = z := ⟨_, rfl⟩
  refine lv_scr (k := 4) hX hB hx9 hbl hbA hi hL hl dL_law_336 dL_law_337 dL_law_339 dL_law_340 dL_law_341 (by decide) (by decide) e4 ?_
  refine lv_aload_n hx hb dL_law_342 rfl (lv_at hl 3 rfl) ?_
  replace hB := Lw_1 hB
  obtain ⟨Y, hY⟩ : ∃ Y, D_X5_put r q f z1 z2 z3 z4 = Y := ⟨_, rfl⟩
  refine call_SW (n := 6) (As := [.ref (a 0), .int z1, .int z2, .int z3, .int z4, .ref o]) (rest := []) hX hB (CMW_frame (mw κ a2 r2 f2 q2 (tb a2) []) (w_put κ l hst a r q f o n v z1 z2 z3 z4 hok Y hY)) ⟨by decide, by decide, by decide +kernel⟩ wm_3_36 wm_3_37 wm_1_0 wm_3_38 ⟨Nat.le_of_ble_eq_true rfl, Nat.le_of_ble_eq_true rfl⟩ ⟨by show _ ≤ 600128; omega, by show _ ≤ 7301098; omega⟩ rfl hl.1 rfl (Nat.le_of_ble_eq_true rfl) dL_law_343 (fun o9 w' H locs hp hB => ?_)
  obtain ⟨_, ⟨x1, n1, v1, rfl, ho, hq, hW, rfl⟩, rfl⟩ := hp
  refine W.eq (g2 := F0 m 346 ls [.int x1]) rfl ?_
  refine lv_istore (lv' := [(5, .int x1), (0, .ref b), (1, .ref (a 0)), (2, .ref (a2 0)), (3, .ref o), (4, .int (nI (6 * i)))]) hx hb dL_law_346 hl (by decide) rfl (fun ls hl => ?_)
  have hl0 := hl
  replace hl : lv_has ls 7 (Lv b (a 0) (a2 0) o i) := lv_sub hl [1, 2, 3, 4, 5] rfl
  refine lv_aload_n hx hb dL_law_348 rfl (lv_at hl 2 rfl) ?_
  refine lv_scr (k := 1) hX hB hx9 hbl hbA hi hL hl dL_law_349 dL_law_350 dL_law_352 dL_law_353 dL_law_354 (by decide) (by decide) e1 ?_
  refine lv_scr (k := 2) hX hB hx9 hbl hbA hi hL hl dL_law_355 dL_law_356 dL_law_358 dL_law_359 dL_law_360 (by decide) (by decide) e2 ?_
  refine lv_scr (k := 3) hX hB hx9 hbl hbA hi hL hl dL_law_361 dL_law_362 dL_law_364 dL_law_365 dL_law_366 (by decide) (by decide) e3 ?_
  refine lv_scr (k := 4) hX hB hx9 hbl hbA hi hL hl dL_law_367 dL_law_368 dL_law_370 dL_law_371 dL_law_372 (by decide) (by decide) e4 ?_
  replace hB := Lw_2 hB
  obtain ⟨Z, hZ⟩ : ∃ Z, D_X10_put r2 f2 q2 z1 z2 z3 z4 = Z := ⟨_, rfl⟩
  refine call_V (n := 4) (k0 := 0) (As := [.int z1, .int z2, .int z3, .int z4]) (rest := []) hX hB (k_X10_put κ l (cw κ a Y.2.2.1 Y.2.2.2.1 Y.2.2.2.2 ++ [Ot o n1 v1]) a2 r2 f2 q2 z1 z2 z3 z4 hm _ _ _ _ (hZ.trans (te4 Z))) ⟨rfl, by decide, by decide, by decide +kernel⟩ wm_5_225 wm_5_226 wm_5_227 wm_1_6 wm_5_228 ⟨Nat.le_of_ble_eq_true rfl, Nat.le_of_ble_eq_true rfl⟩ ⟨by show _ ≤ 600128; omega, by show _ ≤ 7301098; omega⟩ mw0 rfl rfl rfl hl.1 rfl (Nat.le_of_ble_eq_true rfl) dL_law_373 (fun o9 w' H locs hp hB => ?_)
  obtain ⟨a3, rfl, hf0, hf1, hf2, rfl⟩ := hp
  have hO : Ok Y Z := by rw [← hY, ← hZ]; exact put_eq hr
  refine W.eq (g2 := F0 m 376 ls [.int Z.1]) rfl ?_
  refine lv_istore (lv' := [(6, .int Z.1), (5, .int x1), (0, .ref b), (1, .ref (a 0)), (2, .ref (a2 0)), (3, .ref o), (4, .int (nI (6 * i)))]) hx hb dL_law_376 hl0 (by decide) rfl (fun ls hl => ?_)
  have hl0 := hl
  replace hl : lv_has ls 7 (Lv b (a 0) (a2 0) o i) := lv_sub hl [2, 3, 4, 5, 6] rfl
  refine lv_goto (tgt := 1880) hx hb dL_law_378 (by decide) ?_
  replace hB := Lw_3 hB
  refine W.widen (k := cells + 100) (n := slots + 70000) (by omega) (by omega) ?_
  exact kk _ _ _ _ _ _ _ _ _ _ _ _ (ho hok) hf1 hO.1 hf0 hB hl
theorem dL_law_381 : decode cL_law 381 = .ok (.aload_n 1, 1) := dz_e0 dz_43 hI_L_law (by decide +kernel)
theorem dL_law_382 : decode cL_law 382 = .ok (.aload_n 0, 1) := dz_e0 dz_42 hI_L_law (by decide +kernel)
theorem dL_law_383 : decode cL_law 383 = .ok (.iload 4, 2) := dz_e1 dz_21 hI_L_law (by decide +kernel)
theorem dL_law_385 : decode cL_law 385 = .ok (.iconst 1, 1) := dz_e0 dz_4 hI_L_law (by decide +kernel)
theorem dL_law_386 : decode cL_law 386 = .ok (.iadd, 1) := dz_e0 dz_96 hI_L_law (by decide +kernel)
theorem dL_law_387 : decode cL_law 387 = .ok (.iaload, 1) := dz_e0 dz_46 hI_L_law (by decide +kernel)
theorem dL_law_388 : decode cL_law 388 = .ok (.aload_n 0, 1) := dz_e0 dz_42 hI_L_law (by decide +kernel)
theorem dL_law_389 : decode cL_law 389 = .ok (.iload 4, 2) := dz_e1 dz_21 hI_L_law (by decide +kernel)
theorem dL_law_391 : decode cL_law 391 = .ok (.iconst 2, 1) := dz_e0 dz_5 hI_L_law (by decide +kernel)
theorem dL_law_392 : decode cL_law 392 = .ok (.iadd, 1) := dz_e0 dz_96 hI_L_law (by decide +kernel)
theorem dL_law_393 : decode cL_law 393 = .ok (.iaload, 1) := dz_e0 dz_46 hI_L_law (by decide +kernel)
theorem dL_law_394 : decode cL_law 394 = .ok (.aload_n 0, 1) := dz_e0 dz_42 hI_L_law (by decide +kernel)
theorem dL_law_395 : decode cL_law 395 = .ok (.iload 4, 2) := dz_e1 dz_21 hI_L_law (by decide +kernel)
theorem dL_law_397 : decode cL_law 397 = .ok (.iconst 3, 1) := dz_e0 dz_6 hI_L_law (by decide +kernel)
theorem dL_law_398 : decode cL_law 398 = .ok (.iadd, 1) := dz_e0 dz_96 hI_L_law (by decide +kernel)
theorem dL_law_399 : decode cL_law 399 = .ok (.iaload, 1) := dz_e0 dz_46 hI_L_law (by decide +kernel)
theorem dL_law_400 : decode cL_law 400 = .ok (.aload_n 3, 1) := dz_e0 dz_45 hI_L_law (by decide +kernel)
theorem dL_law_401 : decode cL_law 401 = .ok (.invokestatic 154, 3) := dz_e2 dz_184 hI_L_law (by decide +kernel)
theorem dL_law_404 : decode cL_law 404 = .ok (.istore 5, 2) := dz_e1 dz_54 hI_L_law (by decide +kernel)
theorem dL_law_406 : decode cL_law 406 = .ok (.aload_n 2, 1) := dz_e0 dz_44 hI_L_law (by decide +kernel)
theorem dL_law_407 : decode cL_law 407 = .ok (.aload_n 0, 1) := dz_e0 dz_42 hI_L_law (by decide +kernel)
theorem dL_law_408 : decode cL_law 408 = .ok (.iload 4, 2) := dz_e1 dz_21 hI_L_law (by decide +kernel)
theorem dL_law_410 : decode cL_law 410 = .ok (.iconst 1, 1) := dz_e0 dz_4 hI_L_law (by decide +kernel)
theorem dL_law_411 : decode cL_law 411 = .ok (.iadd, 1) := dz_e0 dz_96 hI_L_law (by decide +kernel)
theorem dL_law_412 : decode cL_law 412 = .ok (.iaload, 1) := dz_e0 dz_46 hI_L_law (by decide +kernel)
theorem dL_law_413 : decode cL_law 413 = .ok (.aload_n 0, 1) := dz_e0 dz_42 hI_L_law (by decide +kernel)
theorem dL_law_414 : decode cL_law 414 = .ok (.iload 4, 2) := dz_e1 dz_21 hI_L_law (by decide +kernel)
theorem dL_law_416 : decode cL_law 416 = .ok (.iconst 2, 1) := dz_e0 dz_5 hI_L_law (by decide +kernel)
theorem dL_law_417 : decode cL_law 417 = .ok (.iadd, 1) := dz_e0 dz_96 hI_L_law (by decide +kernel)
theorem dL_law_418 : decode cL_law 418 = .ok (.iaload, 1) := dz_e0 dz_46 hI_L_law (by decide +kernel)
theorem dL_law_419 : decode cL_law 419 = .ok (.aload_n 0, 1) := dz_e0 dz_42 hI_L_law (by decide +kernel)
theorem dL_law_420 : decode cL_law 420 = .ok (.iload 4, 2) := dz_e1 dz_21 hI_L_law (by decide +kernel)
theorem dL_law_422 : decode cL_law 422 = .ok (.iconst 3, 1) := dz_e0 dz_6 hI_L_law (by decide +kernel)
theorem dL_law_423 : decode cL_law 423 = .ok (.iadd, 1) := dz_e0 dz_96 hI_L_law (by decide +kernel)
theorem dL_law_424 : decode cL_law 424 = .ok (.iaload, 1) := dz_e0 dz_46 hI_L_law (by decide +kernel)
theorem dL_law_425 : decode cL_law 425 = .ok (.invokevirtual 156, 3) := dz_e2 dz_182 hI_L_law (by decide +kernel)
theorem dL_law_428 : decode cL_law 428 = .ok (.istore 6, 2) := dz_e1 dz_54 hI_L_law (by decide +kernel)
theorem dL_law_430 : decode cL_law 430 = .ok (.goto 1450, 3) := dz_f2 dz_167 hI_L_law (by decide +kernel)
set_option maxHeartbeats 4000000 in
set_option maxRecDepth 100000 in
theorem lc_3 : Lc 381 := by
  intro κ p l e s m args below meth c A ret b L o i xs a a2 r2 r q q2 f f2 n v cells slots Q H locs ls hst hX hx9 hbl hbA hi hL hok hm hr hB hl hc hs kk
  have hx := hX.1.1
  have hb := hX.1.2.1
  refine lv_aload_n hx hb dL_law_381 rfl (lv_at hl 1 rfl) ?_
  obtain ⟨z1, e1⟩ : ∃ z, xs (6 * i + 1) = z := ⟨_, rfl⟩
  refine lv_scr (k := 1) hX hB hx9 hbl hbA hi hL hl dL_law_382 dL_law_383 dL_law_385 dL_law_386 dL_law_387 (by decide) (by decide) e1 ?_
  obtain ⟨z2, e2⟩ : ∃ z, xs (6 * i + 2) = z := ⟨_, rfl⟩
  refine lv_scr (k := 2) hX hB hx9 hbl hbA hi hL hl dL_law_388 dL_law_389 dL_law_391 dL_law_392 dL_law_393 (by decide) (by decide) e2 ?_
  obtain ⟨z3, e3⟩ : ∃ z, xs (6 * i + 3) = z := ⟨_, rfl⟩
  refine lv_scr (k := 3) hX hB hx9 hbl hbA hi hL hl dL_law_394 dL_law_395 dL_law_397 dL_law_398 dL_law_399 (by decide) (by decide) e3 ?_
  refine lv_aload_n hx hb dL_law_400 rfl (lv_at hl 3 rfl) ?_
  replace hB := Lw_1 hB
  obtain ⟨Y, hY⟩ : ∃ Y, D_X5_sow r q f z1 z2 z3 = Y := ⟨_, rfl⟩
  refine call_SW (n := 5) (As := [.ref (a 0), .int z1, .int z2, .int z3, .ref o]) (rest := []) hX hB (CMW_frame (mw κ a2 r2 f2 q2 (tb a2) []) (w_sow κ l hst a r q f o n v z1 z2 z3 hok Y hY)) ⟨by decide, by decide, by decide +kernel⟩ wm_3_52 wm_3_53 wm_1_0 wm_3_54 ⟨Nat.le_of_ble_eq_true rfl, Nat.le_of_ble_eq_true rfl⟩ ⟨by show _ ≤ 600128; omega, by show _ ≤ 7301098; omega⟩ rfl hl.1 rfl (Nat.le_of_ble_eq_true rfl) dL_law_401 (fun o9 w' H locs hp hB => ?_)
  obtain ⟨_, ⟨x1, n1, v1, rfl, ho, hq, hW, rfl⟩, rfl⟩ := hp
  refine W.eq (g2 := F0 m 404 ls [.int x1]) rfl ?_
  refine lv_istore (lv' := [(5, .int x1), (0, .ref b), (1, .ref (a 0)), (2, .ref (a2 0)), (3, .ref o), (4, .int (nI (6 * i)))]) hx hb dL_law_404 hl (by decide) rfl (fun ls hl => ?_)
  have hl0 := hl
  replace hl : lv_has ls 7 (Lv b (a 0) (a2 0) o i) := lv_sub hl [1, 2, 3, 4, 5] rfl
  refine lv_aload_n hx hb dL_law_406 rfl (lv_at hl 2 rfl) ?_
  refine lv_scr (k := 1) hX hB hx9 hbl hbA hi hL hl dL_law_407 dL_law_408 dL_law_410 dL_law_411 dL_law_412 (by decide) (by decide) e1 ?_
  refine lv_scr (k := 2) hX hB hx9 hbl hbA hi hL hl dL_law_413 dL_law_414 dL_law_416 dL_law_417 dL_law_418 (by decide) (by decide) e2 ?_
  refine lv_scr (k := 3) hX hB hx9 hbl hbA hi hL hl dL_law_419 dL_law_420 dL_law_422 dL_law_423 dL_law_424 (by decide) (by decide) e3 ?_
  replace hB := Lw_2 hB
  obtain ⟨Z, hZ⟩ : ∃ Z, D_X10_sow r2 f2 q2 z1 z2 z3 = Z := ⟨_, rfl⟩
  refine call_V (n := 3) (k0 := 0) (As := [.int z1, .int z2, .int z3]) (rest := []) hX hB (k_X10_sow κ l (cw κ a Y.2.2.1 Y.2.2.2.1 Y.2.2.2.2 ++ [Ot o n1 v1]) a2 r2 f2 q2 z1 z2 z3 hm _ _ _ _ (hZ.trans (te4 Z))) ⟨rfl, by decide, by decide, by decide +kernel⟩ wm_6_2 wm_6_3 wm_6_4 wm_1_6 wm_6_5 ⟨Nat.le_of_ble_eq_true rfl, Nat.le_of_ble_eq_true rfl⟩ ⟨by show _ ≤ 600128; omega, by show _ ≤ 7301098; omega⟩ mw0 rfl rfl rfl hl.1 rfl (Nat.le_of_ble_eq_true rfl) dL_law_425 (fun o9 w' H locs hp hB => ?_)
  obtain ⟨a3, rfl, hf0, hf1, hf2, rfl⟩ := hp
  have hO : Ok Y Z := by rw [← hY, ← hZ]; exact sow_eq hr
  refine W.eq (g2 := F0 m 428 ls [.int Z.1]) rfl ?_
  refine lv_istore (lv' := [(6, .int Z.1), (5, .int x1), (0, .ref b), (1, .ref (a 0)), (2, .ref (a2 0)), (3, .ref o), (4, .int (nI (6 * i)))]) hx hb dL_law_428 hl0 (by decide) rfl (fun ls hl => ?_)
  have hl0 := hl
  replace hl : lv_has ls 7 (Lv b (a 0) (a2 0) o i) := lv_sub hl [2, 3, 4, 5, 6] rfl
  refine lv_goto (tgt := 1880) hx hb dL_law_430 (by decide) ?_
  replace hB := Lw_3 hB
  refine W.widen (k := cells + 100) (n := slots + 70000) (by omega) (by omega) ?_
  exact kk _ _ _ _ _ _ _ _ _ _ _ _ (ho hok) hf1 hO.1 hf0 hB hl
theorem dL_law_433 : decode cL_law 433 = .ok (.aload_n 1, 1) := dz_e0 dz_43 hI_L_law (by decide +kernel)
theorem dL_law_434 : decode cL_law 434 = .ok (.aload_n 0, 1) := dz_e0 dz_42 hI_L_law (by decide +kernel)
theorem dL_law_435 : decode cL_law 435 = .ok (.iload 4, 2) := dz_e1 dz_21 hI_L_law (by decide +kernel)
theorem dL_law_437 : decode cL_law 437 = .ok (.iconst 1, 1) := dz_e0 dz_4 hI_L_law (by decide +kernel)
theorem dL_law_438 : decode cL_law 438 = .ok (.iadd, 1) := dz_e0 dz_96 hI_L_law (by decide +kernel)
theorem dL_law_439 : decode cL_law 439 = .ok (.iaload, 1) := dz_e0 dz_46 hI_L_law (by decide +kernel)
theorem dL_law_440 : decode cL_law 440 = .ok (.aload_n 0, 1) := dz_e0 dz_42 hI_L_law (by decide +kernel)
theorem dL_law_441 : decode cL_law 441 = .ok (.iload 4, 2) := dz_e1 dz_21 hI_L_law (by decide +kernel)
theorem dL_law_443 : decode cL_law 443 = .ok (.iconst 2, 1) := dz_e0 dz_5 hI_L_law (by decide +kernel)
theorem dL_law_444 : decode cL_law 444 = .ok (.iadd, 1) := dz_e0 dz_96 hI_L_law (by decide +kernel)
theorem dL_law_445 : decode cL_law 445 = .ok (.iaload, 1) := dz_e0 dz_46 hI_L_law (by decide +kernel)
theorem dL_law_446 : decode cL_law 446 = .ok (.aload_n 3, 1) := dz_e0 dz_45 hI_L_law (by decide +kernel)
theorem dL_law_447 : decode cL_law 447 = .ok (.invokestatic 157, 3) := dz_e2 dz_184 hI_L_law (by decide +kernel)
theorem dL_law_450 : decode cL_law 450 = .ok (.istore 5, 2) := dz_e1 dz_54 hI_L_law (by decide +kernel)
theorem dL_law_452 : decode cL_law 452 = .ok (.aload_n 2, 1) := dz_e0 dz_44 hI_L_law (by decide +kernel)
theorem dL_law_453 : decode cL_law 453 = .ok (.aload_n 0, 1) := dz_e0 dz_42 hI_L_law (by decide +kernel)
theorem dL_law_454 : decode cL_law 454 = .ok (.iload 4, 2) := dz_e1 dz_21 hI_L_law (by decide +kernel)
theorem dL_law_456 : decode cL_law 456 = .ok (.iconst 1, 1) := dz_e0 dz_4 hI_L_law (by decide +kernel)
theorem dL_law_457 : decode cL_law 457 = .ok (.iadd, 1) := dz_e0 dz_96 hI_L_law (by decide +kernel)
theorem dL_law_458 : decode cL_law 458 = .ok (.iaload, 1) := dz_e0 dz_46 hI_L_law (by decide +kernel)
theorem dL_law_459 : decode cL_law 459 = .ok (.aload_n 0, 1) := dz_e0 dz_42 hI_L_law (by decide +kernel)
theorem dL_law_460 : decode cL_law 460 = .ok (.iload 4, 2) := dz_e1 dz_21 hI_L_law (by decide +kernel)
theorem dL_law_462 : decode cL_law 462 = .ok (.iconst 2, 1) := dz_e0 dz_5 hI_L_law (by decide +kernel)
theorem dL_law_463 : decode cL_law 463 = .ok (.iadd, 1) := dz_e0 dz_96 hI_L_law (by decide +kernel)
theorem dL_law_464 : decode cL_law 464 = .ok (.iaload, 1) := dz_e0 dz_46 hI_L_law (by decide +kernel)
theorem dL_law_465 : decode cL_law 465 = .ok (.invokevirtual 159, 3) := dz_e2 dz_182 hI_L_law (by decide +kernel)
theorem dL_law_468 : decode cL_law 468 = .ok (.istore 6, 2) := dz_e1 dz_54 hI_L_law (by decide +kernel)
theorem dL_law_470 : decode cL_law 470 = .ok (.goto 1410, 3) := dz_f2 dz_167 hI_L_law (by decide +kernel)
set_option maxHeartbeats 4000000 in
set_option maxRecDepth 100000 in
theorem lc_4 : Lc 433 := by
  intro κ p l e s m args below meth c A ret b L o i xs a a2 r2 r q q2 f f2 n v cells slots Q H locs ls hst hX hx9 hbl hbA hi hL hok hm hr hB hl hc hs kk
  have hx := hX.1.1
  have hb := hX.1.2.1
  refine lv_aload_n hx hb dL_law_433 rfl (lv_at hl 1 rfl) ?_
  obtain ⟨z1, e1⟩ : ∃ z, xs (6 * i + 1) = z := ⟨_, rfl⟩
  refine lv_scr (k := 1) hX hB hx9 hbl hbA hi hL hl dL_law_434 dL_law_435 dL_law_437 dL_law_438 dL_law_439 (by decide) (by decide) e1 ?_
  obtain ⟨z2, e2⟩ : ∃ z, xs (6 * i + 2) = z := ⟨_, rfl⟩
  refine lv_scr (k := 2) hX hB hx9 hbl hbA hi hL hl dL_law_440 dL_law_441 dL_law_443 dL_law_444 dL_law_445 (by decide) (by decide) e2 ?_
  refine lv_aload_n hx hb dL_law_446 rfl (lv_at hl 3 rfl) ?_
  replace hB := Lw_1 hB
  obtain ⟨Y, hY⟩ : ∃ Y, D_X5_copy r q f z1 z2 = Y := ⟨_, rfl⟩
  refine call_SW (n := 4) (As := [.ref (a 0), .int z1, .int z2, .ref o]) (rest := []) hX hB (CMW_frame (mw κ a2 r2 f2 q2 (tb a2) []) (w_copy κ l hst a r q f o n v z1 z2 hok Y hY)) ⟨by decide, by decide, by decide +kernel⟩ wm_3_67 wm_3_68 wm_1_0 wm_3_69 ⟨Nat.le_of_ble_eq_true rfl, Nat.le_of_ble_eq_true rfl⟩ ⟨by show _ ≤ 600128; omega, by show _ ≤ 7301098; omega⟩ rfl hl.1 rfl (Nat.le_of_ble_eq_true rfl) dL_law_447 (fun o9 w' H locs hp hB => ?_)
  obtain ⟨_, ⟨x1, n1, v1, rfl, ho, hq, hW, rfl⟩, rfl⟩ := hp
  refine W.eq (g2 := F0 m 450 ls [.int x1]) rfl ?_
  refine lv_istore (lv' := [(5, .int x1), (0, .ref b), (1, .ref (a 0)), (2, .ref (a2 0)), (3, .ref o), (4, .int (nI (6 * i)))]) hx hb dL_law_450 hl (by decide) rfl (fun ls hl => ?_)
  have hl0 := hl
  replace hl : lv_has ls 7 (Lv b (a 0) (a2 0) o i) := lv_sub hl [1, 2, 3, 4, 5] rfl
  refine lv_aload_n hx hb dL_law_452 rfl (lv_at hl 2 rfl) ?_
  refine lv_scr (k := 1) hX hB hx9 hbl hbA hi hL hl dL_law_453 dL_law_454 dL_law_456 dL_law_457 dL_law_458 (by decide) (by decide) e1 ?_
  refine lv_scr (k := 2) hX hB hx9 hbl hbA hi hL hl dL_law_459 dL_law_460 dL_law_462 dL_law_463 dL_law_464 (by decide) (by decide) e2 ?_
  replace hB := Lw_2 hB
  obtain ⟨Z, hZ⟩ : ∃ Z, D_X10_copy r2 f2 q2 z1 z2 = Z := ⟨_, rfl⟩
  refine call_V (n := 2) (k0 := 0) (As := [.int z1, .int z2]) (rest := []) hX hB (k_X10_copy κ l (cw κ a Y.2.2.1 Y.2.2.2.1 Y.2.2.2.2 ++ [Ot o n1 v1]) a2 r2 f2 q2 z1 z2 hm _ _ _ _ (hZ.trans (te4 Z))) ⟨rfl, by decide, by decide, by decide +kernel⟩ wm_6_11 wm_6_12 wm_6_13 wm_1_6 wm_6_14 ⟨Nat.le_of_ble_eq_true rfl, Nat.le_of_ble_eq_true rfl⟩ ⟨by show _ ≤ 600128; omega, by show _ ≤ 7301098; omega⟩ mw0 rfl rfl rfl hl.1 rfl (Nat.le_of_ble_eq_true rfl) dL_law_465 (fun o9 w' H locs hp hB => ?_)
  obtain ⟨a3, rfl, hf0, hf1, hf2, rfl⟩ := hp
  have hO : Ok Y Z := by rw [← hY, ← hZ]; exact copy_eq hr
  refine W.eq (g2 := F0 m 468 ls [.int Z.1]) rfl ?_
  refine lv_istore (lv' := [(6, .int Z.1), (5, .int x1), (0, .ref b), (1, .ref (a 0)), (2, .ref (a2 0)), (3, .ref o), (4, .int (nI (6 * i)))]) hx hb dL_law_468 hl0 (by decide) rfl (fun ls hl => ?_)
  have hl0 := hl
  replace hl : lv_has ls 7 (Lv b (a 0) (a2 0) o i) := lv_sub hl [2, 3, 4, 5, 6] rfl
  refine lv_goto (tgt := 1880) hx hb dL_law_470 (by decide) ?_
  replace hB := Lw_3 hB
  refine W.widen (k := cells + 100) (n := slots + 70000) (by omega) (by omega) ?_
  exact kk _ _ _ _ _ _ _ _ _ _ _ _ (ho hok) hf1 hO.1 hf0 hB hl
theorem dL_law_473 : decode cL_law 473 = .ok (.aload_n 1, 1) := dz_e0 dz_43 hI_L_law (by decide +kernel)
theorem dL_law_474 : decode cL_law 474 = .ok (.aload_n 0, 1) := dz_e0 dz_42 hI_L_law (by decide +kernel)
theorem dL_law_475 : decode cL_law 475 = .ok (.iload 4, 2) := dz_e1 dz_21 hI_L_law (by decide +kernel)
theorem dL_law_477 : decode cL_law 477 = .ok (.iconst 1, 1) := dz_e0 dz_4 hI_L_law (by decide +kernel)
theorem dL_law_478 : decode cL_law 478 = .ok (.iadd, 1) := dz_e0 dz_96 hI_L_law (by decide +kernel)
theorem dL_law_479 : decode cL_law 479 = .ok (.iaload, 1) := dz_e0 dz_46 hI_L_law (by decide +kernel)
theorem dL_law_480 : decode cL_law 480 = .ok (.aload_n 0, 1) := dz_e0 dz_42 hI_L_law (by decide +kernel)
theorem dL_law_481 : decode cL_law 481 = .ok (.iload 4, 2) := dz_e1 dz_21 hI_L_law (by decide +kernel)
theorem dL_law_483 : decode cL_law 483 = .ok (.iconst 2, 1) := dz_e0 dz_5 hI_L_law (by decide +kernel)
theorem dL_law_484 : decode cL_law 484 = .ok (.iadd, 1) := dz_e0 dz_96 hI_L_law (by decide +kernel)
theorem dL_law_485 : decode cL_law 485 = .ok (.iaload, 1) := dz_e0 dz_46 hI_L_law (by decide +kernel)
theorem dL_law_486 : decode cL_law 486 = .ok (.aload_n 3, 1) := dz_e0 dz_45 hI_L_law (by decide +kernel)
theorem dL_law_487 : decode cL_law 487 = .ok (.invokestatic 160, 3) := dz_e2 dz_184 hI_L_law (by decide +kernel)
theorem dL_law_490 : decode cL_law 490 = .ok (.istore 5, 2) := dz_e1 dz_54 hI_L_law (by decide +kernel)
theorem dL_law_492 : decode cL_law 492 = .ok (.aload_n 2, 1) := dz_e0 dz_44 hI_L_law (by decide +kernel)
theorem dL_law_493 : decode cL_law 493 = .ok (.aload_n 0, 1) := dz_e0 dz_42 hI_L_law (by decide +kernel)
theorem dL_law_494 : decode cL_law 494 = .ok (.iload 4, 2) := dz_e1 dz_21 hI_L_law (by decide +kernel)
theorem dL_law_496 : decode cL_law 496 = .ok (.iconst 1, 1) := dz_e0 dz_4 hI_L_law (by decide +kernel)
theorem dL_law_497 : decode cL_law 497 = .ok (.iadd, 1) := dz_e0 dz_96 hI_L_law (by decide +kernel)
theorem dL_law_498 : decode cL_law 498 = .ok (.iaload, 1) := dz_e0 dz_46 hI_L_law (by decide +kernel)
theorem dL_law_499 : decode cL_law 499 = .ok (.aload_n 0, 1) := dz_e0 dz_42 hI_L_law (by decide +kernel)
theorem dL_law_500 : decode cL_law 500 = .ok (.iload 4, 2) := dz_e1 dz_21 hI_L_law (by decide +kernel)
theorem dL_law_502 : decode cL_law 502 = .ok (.iconst 2, 1) := dz_e0 dz_5 hI_L_law (by decide +kernel)
theorem dL_law_503 : decode cL_law 503 = .ok (.iadd, 1) := dz_e0 dz_96 hI_L_law (by decide +kernel)
theorem dL_law_504 : decode cL_law 504 = .ok (.iaload, 1) := dz_e0 dz_46 hI_L_law (by decide +kernel)
theorem dL_law_505 : decode cL_law 505 = .ok (.invokevirtual 162, 3) := dz_e2 dz_182 hI_L_law (by decide +kernel)
theorem dL_law_508 : decode cL_law 508 = .ok (.istore 6, 2) := dz_e1 dz_54 hI_L_law (by decide +kernel)
theorem dL_law_510 : decode cL_law 510 = .ok (.goto 1370, 3) := dz_f2 dz_167 hI_L_law (by decide +kernel)
set_option maxHeartbeats 4000000 in
set_option maxRecDepth 100000 in
theorem lc_5 : Lc 473 := by
  intro κ p l e s m args below meth c A ret b L o i xs a a2 r2 r q q2 f f2 n v cells slots Q H locs ls hst hX hx9 hbl hbA hi hL hok hm hr hB hl hc hs kk
  have hx := hX.1.1
  have hb := hX.1.2.1
  refine lv_aload_n hx hb dL_law_473 rfl (lv_at hl 1 rfl) ?_
  obtain ⟨z1, e1⟩ : ∃ z, xs (6 * i + 1) = z := ⟨_, rfl⟩
  refine lv_scr (k := 1) hX hB hx9 hbl hbA hi hL hl dL_law_474 dL_law_475 dL_law_477 dL_law_478 dL_law_479 (by decide) (by decide) e1 ?_
  obtain ⟨z2, e2⟩ : ∃ z, xs (6 * i + 2) = z := ⟨_, rfl⟩
  refine lv_scr (k := 2) hX hB hx9 hbl hbA hi hL hl dL_law_480 dL_law_481 dL_law_483 dL_law_484 dL_law_485 (by decide) (by decide) e2 ?_
  refine lv_aload_n hx hb dL_law_486 rfl (lv_at hl 3 rfl) ?_
  replace hB := Lw_1 hB
  obtain ⟨Y, hY⟩ : ∃ Y, D_X5_swap r q f z1 z2 = Y := ⟨_, rfl⟩
  refine call_SW (n := 4) (As := [.ref (a 0), .int z1, .int z2, .ref o]) (rest := []) hX hB (CMW_frame (mw κ a2 r2 f2 q2 (tb a2) []) (w_swap κ l hst a r q f o n v z1 z2 hok Y hY)) ⟨by decide, by decide, by decide +kernel⟩ wm_3_75 wm_3_76 wm_1_0 wm_3_77 ⟨Nat.le_of_ble_eq_true rfl, Nat.le_of_ble_eq_true rfl⟩ ⟨by show _ ≤ 600128; omega, by show _ ≤ 7301098; omega⟩ rfl hl.1 rfl (Nat.le_of_ble_eq_true rfl) dL_law_487 (fun o9 w' H locs hp hB => ?_)
  obtain ⟨_, ⟨x1, n1, v1, rfl, ho, hq, hW, rfl⟩, rfl⟩ := hp
  refine W.eq (g2 := F0 m 490 ls [.int x1]) rfl ?_
  refine lv_istore (lv' := [(5, .int x1), (0, .ref b), (1, .ref (a 0)), (2, .ref (a2 0)), (3, .ref o), (4, .int (nI (6 * i)))]) hx hb dL_law_490 hl (by decide) rfl (fun ls hl => ?_)
  have hl0 := hl
  replace hl : lv_has ls 7 (Lv b (a 0) (a2 0) o i) := lv_sub hl [1, 2, 3, 4, 5] rfl
  refine lv_aload_n hx hb dL_law_492 rfl (lv_at hl 2 rfl) ?_
  refine lv_scr (k := 1) hX hB hx9 hbl hbA hi hL hl dL_law_493 dL_law_494 dL_law_496 dL_law_497 dL_law_498 (by decide) (by decide) e1 ?_
  refine lv_scr (k := 2) hX hB hx9 hbl hbA hi hL hl dL_law_499 dL_law_500 dL_law_502 dL_law_503 dL_law_504 (by decide) (by decide) e2 ?_
  replace hB := Lw_2 hB
  obtain ⟨Z, hZ⟩ : ∃ Z, D_X10_swap r2 f2 q2 z1 z2 = Z := ⟨_, rfl⟩
  refine call_V (n := 2) (k0 := 0) (As := [.int z1, .int z2]) (rest := []) hX hB (k_X10_swap κ l (cw κ a Y.2.2.1 Y.2.2.2.1 Y.2.2.2.2 ++ [Ot o n1 v1]) a2 r2 f2 q2 z1 z2 hm _ _ _ _ (hZ.trans (te4 Z))) ⟨rfl, by decide, by decide, by decide +kernel⟩ wm_6_27 wm_6_28 wm_6_29 wm_1_6 wm_6_30 ⟨Nat.le_of_ble_eq_true rfl, Nat.le_of_ble_eq_true rfl⟩ ⟨by show _ ≤ 600128; omega, by show _ ≤ 7301098; omega⟩ mw0 rfl rfl rfl hl.1 rfl (Nat.le_of_ble_eq_true rfl) dL_law_505 (fun o9 w' H locs hp hB => ?_)
  obtain ⟨a3, rfl, hf0, hf1, hf2, rfl⟩ := hp
  have hO : Ok Y Z := by rw [← hY, ← hZ]; exact swap_eq hr
  refine W.eq (g2 := F0 m 508 ls [.int Z.1]) rfl ?_
  refine lv_istore (lv' := [(6, .int Z.1), (5, .int x1), (0, .ref b), (1, .ref (a 0)), (2, .ref (a2 0)), (3, .ref o), (4, .int (nI (6 * i)))]) hx hb dL_law_508 hl0 (by decide) rfl (fun ls hl => ?_)
  have hl0 := hl
  replace hl : lv_has ls 7 (Lv b (a 0) (a2 0) o i) := lv_sub hl [2, 3, 4, 5, 6] rfl
  refine lv_goto (tgt := 1880) hx hb dL_law_510 (by decide) ?_
  replace hB := Lw_3 hB
  refine W.widen (k := cells + 100) (n := slots + 70000) (by omega) (by omega) ?_
  exact kk _ _ _ _ _ _ _ _ _ _ _ _ (ho hok) hf1 hO.1 hf0 hB hl
