section
-- 92.lcase0
/-! ===== The law's loop: its cases ===== -/
theorem CMW_frame {κ : Kt} {l : Launch} {y : MethodName} {cc : ByteArray} {n : Nat} {ret : Option FieldType} {hh : List (Nat × Nat × Nat × Nat)} {fr lo mc ms : Nat} {av : List Value} {w : va_W} {post : Option Value → va_W → Prop} (Wr : va_W) (h : CMW κ l y cc n ret hh fr lo mc ms av w post) : CMW κ l y cc n ret hh fr lo mc ms av (w ++ Wr) (fun o w' => ∃ w1, post o w1 ∧ w' = w1 ++ Wr) := by
  intro sz
  refine MetFree.mono (h sz) (fun a s hp => frame_pre hp) (fun _ _ _ _ _ _ => trivial) (fun a st oc t hp hq => ?_)
  obtain ⟨⟨⟨r, w', ho, hpo, hP, hD⟩, hF⟩, L, hE, hL⟩ := hq
  obtain ⟨hP2, hD2⟩ := frame_out hp hF hP hD
  exact ⟨⟨⟨r, w' ++ Wr, ho, ⟨w', hpo, rfl⟩, hP2, hD2⟩, hF.1, fun q h1 h2 => hF.2 q h1 (fun z => h2 (frame_Ac z))⟩, L, hE, fun q hq => frame_Ac (hL q hq)⟩
theorem mw_app {κ : Kt} {a r : Nat → Nat} {f : Nat → Nat → Int64} {q : Nat → Int32} {T : Nat → Option Nat} {w : va_W} : mw κ a r f q T [] ++ w = mw κ a r f q T w := by
  unfold mw
  rw [List.append_nil]
/-- both sides and the law's object -/
abbrev Lw (κ : Kt) (a : Nat → Nat) (r q : Nat → Int32) (f : Nat → Nat → Int64) (o : Nat) (n : Int64) (v : Value) (a2 r2 : Nat → Nat) (f2 : Nat → Nat → Int64) (q2 : Nat → Int32) : va_W := cw κ a r q f ++ ([Ot o n v] ++ mw κ a2 r2 f2 q2 (tb a2) [])
abbrev Lv (b x y o i : Nat) : List (Nat × Value) := [(0, .ref b), (1, .ref x), (2, .ref y), (3, .ref o), (4, .int (nI (6 * i)))]
section LCS
variable {p : Program} {l : Launch} {e : Env} {R : Room} {s : State} {m : MethodId} {args : Array Value} {below : List Frame} {meth : Method} {c : Code} {H : Heap} {locs : List Loc} {cells slots : Nat} {Q : State → Prop}
variable {κ : Kt} {cc : ByteArray} {nL : Nat} {own : String} {ret : Option FieldType} {A : Nat → Prop} {w : va_W} {pc : Nat} {ls : Array Slot} {rest : List Value}
variable {a a2 r2 : Nat → Nat} {r q q2 : Nat → Int32} {f f2 : Nat → Nat → Int64} {o : Nat} {n : Int64} {v : Value}
theorem Lw_1 (hB : Bd κ A s (Lw κ a r q f o n v a2 r2 f2 q2) H locs) : Bd κ A s ((cw κ a r q f ++ [Ot o n v]) ++ mw κ a2 r2 f2 q2 (tb a2) []) H locs := by rw [List.append_assoc]; exact hB
theorem Lw_2 (hB : Bd κ A s ((cw κ a r q f ++ [Ot o n v]) ++ mw κ a2 r2 f2 q2 (tb a2) []) H locs) : Bd κ A s (mw κ a2 r2 f2 q2 (tb a2) (cw κ a r q f ++ [Ot o n v])) H locs := by rw [← mw_app]; exact Bd_comm hB
theorem Lw_3 (hB : Bd κ A s (mw κ a2 r2 f2 q2 (tb a2) (cw κ a r q f ++ [Ot o n v])) H locs) : Bd κ A s (Lw κ a r q f o n v a2 r2 f2 q2) H locs := by
  rw [← mw_app] at hB
  show Bd κ A s (cw κ a r q f ++ ([Ot o n v] ++ mw κ a2 r2 f2 q2 (tb a2) [])) H locs
  rw [← List.append_assoc]
  exact Bd_comm hB
/-- an int of the script -/
theorem lv_scr {b L k i x y o' : Nat} {nk : Int} {xs : Nat → Int32} (hX : Cx κ p m c cc nL s args own meth ret A) (hB : Bd κ A s w H locs) (hx9 : va_X b L xs s s.heap) (hbl : b < s.heap.size) (hbA : ¬ A b) (hi : 6 * i + 6 ≤ L) (hL : L ≤ 384) (hl : lv_has ls nL (Lv b x y o' i)) (d0 : decode cc pc = .ok (.aload_n 0, 1)) (d1 : decode cc (pc + 1) = .ok (.iload 4, 2)) (d2 : decode cc (pc + 3) = .ok (.iconst nk, 1)) (d3 : decode cc (pc + 4) = .ok (.iadd, 1)) (d4 : decode cc (pc + 5) = .ok (.iaload, 1)) (hk : k < 6) (hv : Int32.ofInt nk = nI k) {z : Int32} (hz : xs (6 * i + k) = z)
    (kk : W p l e R s m args below meth c H locs cells slots Q (F0 m (pc + 6) ls (.int z :: rest))) : W p l e R s m args below meth c H locs cells slots Q (F0 m pc ls rest) := by
  have hx := hX.1.1
  have hb := hX.1.2.1
  refine lv_aload_n hx hb d0 rfl (lv_at hl 0 rfl) ?_
  refine lv_iload hx hb d1 (lv_at hl 4 rfl) ?_
  refine lv_iconst (v := nI k) hx hb d2 hv ?_
  refine lv_iadd hx hb d3 ?_
  refine eqi (nI_add (6 * i) k) ?_
  refine va_sld hx hb hx9 hbl hbA hB.2.2 (vp_in_nI (show 6 * i + k < L by omega) (by omega)) d4 ?_
  rw [nI_clamp (show 6 * i + k < 2 ^ 31 by omega), hz]
  exact kk
/-- yes or no, as 1 or 0 -/
def bz (x : Int32) : Int32 := if x = 0 then 0 else 1
theorem lv_bool {x : Int32} (hX : Cx κ p m c cc nL s args own meth ret A) (d0 : decode cc pc = .ok (.ifCond .eq 7, 3)) (d1 : decode cc (pc + 3) = .ok (.iconst 1, 1)) (d2 : decode cc (pc + 4) = .ok (.goto 4, 3)) (d3 : decode cc (pc + 7) = .ok (.iconst 0, 1)) {z : Int32} (hz : bz x = z)
    (kk : W p l e R s m args below meth c H locs cells slots Q (F0 m (pc + 8) ls (.int z :: rest))) : W p l e R s m args below meth c H locs cells slots Q (F0 m pc ls (.int x :: rest)) := by
  have hx := hX.1.1
  have hb := hX.1.2.1
  unfold bz at hz
  refine lv_if_eq (tgt := pc + 7) hx hb d0 (by omega) (fun e => ?_) (fun e => ?_)
  · rw [if_pos e] at hz
    subst hz
    exact lv_iconst (v := 0) hx hb d3 (by decide) kk
  · rw [if_neg e] at hz
    subst hz
    refine lv_iconst (v := 1) hx hb d1 (by decide) ?_
    exact lv_goto (tgt := pc + 8) hx hb d2 (by omega) kk
end LCS
/-- what the rest of the law owes behind a call -/
def Nk (κ : Kt) (p : Program) (l : Launch) (e : Env) (s : State) (m : MethodId) (args : Array Value) (below : List Frame) (meth : Method) (c : Code) (A : Nat → Prop) (b o i : Nat) (a a2 : Nat → Nat) (cells slots : Nat) (Q : State → Prop) : Prop :=
  ∀ (r q : Nat → Int32) (f : Nat → Nat → Int64) (n : Int64) (v : Value) (a' r2 : Nat → Nat) (f2 : Nat → Nat → Int64) (q2 : Nat → Int32) (H : Heap) (locs : List Loc) (ls : Array Slot), okr r → mok r2 f2 → Rl r q f r2 f2 q2 → a' 0 = a2 0 → Bd κ A s (Lw κ a r q f o n v a' r2 f2 q2) H locs → lv_has ls 7 (Lv b (a 0) (a2 0) o i) → W p l e (Rm 2048 84000 600128 7301098) s m args below meth c H locs (cells + 100) (slots + 70000) Q (F0 m 1880 ls [])
/-- a case of the law -/
def Lc (tgt : Nat) : Prop :=
  ∀ {κ : Kt} {p : Program} {l : Launch} {e : Env} {s : State} {m : MethodId} {args : Array Value} {below : List Frame} {meth : Method} {c : Code} {A : Nat → Prop} {ret : Option FieldType} {b L o i : Nat} {xs : Nat → Int32} {a a2 r2 : Nat → Nat} {r q q2 : Nat → Int32} {f f2 : Nat → Nat → Int64} {n : Int64} {v : Value} {cells slots : Nat} {Q : State → Prop} {H : Heap} {locs : List Loc} {ls : Array Slot},
    l.stackTraces = false → Cx κ p m c cL_law 7 s args "GridmenderLaw" meth ret A → va_X b L xs s s.heap → b < s.heap.size → ¬ A b → 6 * i + 6 ≤ L → L ≤ 384 → okr r → mok r2 f2 → Rl r q f r2 f2 q2 → Bd κ A s (Lw κ a r q f o n v a2 r2 f2 q2) H locs → lv_has ls 7 (Lv b (a 0) (a2 0) o i) → cells + 100 ≤ 600128 → slots + 70000 ≤ 7301098 → Nk κ p l e s m args below meth c A b o i a a2 cells slots Q → W p l e (Rm 2048 84000 600128 7301098) s m args below meth c H locs cells slots Q (F0 m tgt ls [])
theorem cw_oL {κ : Kt} {a : Nat → Nat} {r q : Nat → Int32} {f : Nat → Nat → Int64} {x : Nat × va_E} {w : va_W} : (cw κ a r q f ++ ([x] ++ w))[36]? = some x := by
  have h : (cw κ a r q f).length = 36 := by simp [cw]
  rw [List.getElem?_append_right (by omega), h]
  rfl
theorem Rl_knock {r q : Nat → Int32} {f : Nat → Nat → Int64} {R : Nat → Nat} {F : Nat → Nat → Int64} {Q : Nat → Int32} (h : Rl r q f R F Q) : Rl r (va_up q 4 (q 4 + 1)) f R F (va_up (va_up Q 3 0) 2 (Q 2 + 1)) := ⟨h.1, h.2.1, h.2.2.1, by
  show va_up q 4 (q 4 + 1) 4 = va_up (va_up Q 3 0) 2 (Q 2 + 1) 2
  rw [vu_self, vu_self, h.2.2.2]⟩

def hL_L_law : List (List Nat) := [[187, 0, 8, 89, 183, 0, 131, 76, 187, 0, 132, 89, 183, 0, 134, 77, 187, 0, 14, 89, 183, 0, 135, 78, 3, 54, 4, 21, 4, 42, 190, 16], [6, 100, 163, 7, 60, 42, 21, 4, 46, 16, 63, 126, 170, 0, 0, 0, 0, 0, 7, 44, 0, 0, 0, 0, 0, 0, 0, 33, 0, 0, 0, 152], [0, 0, 0, 204, 0, 0, 0, 244, 0, 0, 1, 52, 0, 0, 1, 104, 0, 0, 1, 144, 0, 0, 1, 184, 0, 0, 1, 212, 0, 0, 2, 36], [0, 0, 2, 104, 0, 0, 2, 196, 0, 0, 2, 252, 0, 0, 3, 64, 0, 0, 3, 144, 0, 0, 3, 196, 0, 0, 3, 248, 0, 0, 4, 85], [0, 0, 4, 141, 0, 0, 4, 193, 0, 0, 4, 221, 0, 0, 5, 5, 0, 0, 5, 45, 0, 0, 5, 97, 0, 0, 5, 137, 0, 0, 5, 177], [0, 0, 5, 241, 0, 0, 6, 25, 0, 0, 6, 89, 0, 0, 6, 141, 0, 0, 6, 181, 0, 0, 6, 233, 0, 0, 7, 5, 0, 0, 7, 18], [0, 0, 7, 31, 43, 42, 21, 4, 4, 96, 46, 42, 21, 4, 5, 96, 46, 42, 21, 4, 6, 96, 46, 45, 184, 0, 136, 54, 5, 44, 42, 21], [4, 4, 96, 46, 42, 21, 4, 5, 96, 46, 42, 21, 4, 6, 96, 46, 182, 0, 141, 54, 6, 167, 6, 99, 43, 42, 21, 4, 4, 96, 46, 42], [21, 4, 5, 96, 46, 45, 184, 0, 142, 54, 5, 44, 42, 21, 4, 4, 96, 46, 42, 21, 4, 5, 96, 46, 182, 0, 145, 54, 6, 167, 6, 59], [43, 42, 21, 4, 4, 96, 46, 42, 21, 4, 5, 96, 46, 42, 21, 4, 6, 96, 46, 42, 21, 4, 7, 96, 46, 45, 184, 0, 146, 54, 5, 44], [42, 21, 4, 4, 96, 46, 42, 21, 4, 5, 96, 46, 42, 21, 4, 6, 96, 46, 42, 21, 4, 7, 96, 46, 182, 0, 149, 54, 6, 167, 5, 251], [43, 42, 21, 4, 4, 96, 46, 42, 21, 4, 5, 96, 46, 42, 21, 4, 6, 96, 46, 45, 184, 0, 150, 54, 5, 44, 42, 21, 4, 4, 96, 46], [42, 21, 4, 5, 96, 46, 42, 21, 4, 6, 96, 46, 182, 0, 152, 54, 6, 167, 5, 199, 43, 42, 21, 4, 4, 96, 46, 42, 21, 4, 5, 96], [46, 45, 184, 0, 153, 54, 5, 44, 42, 21, 4, 4, 96, 46, 42, 21, 4, 5, 96, 46, 182, 0, 155, 54, 6, 167, 5, 159, 43, 42, 21, 4], [4, 96, 46, 42, 21, 4, 5, 96, 46, 45, 184, 0, 156, 54, 5, 44, 42, 21, 4, 4, 96, 46, 42, 21, 4, 5, 96, 46, 182, 0, 158, 54], [6, 167, 5, 119, 43, 42, 21, 4, 4, 96, 46, 45, 184, 0, 159, 54, 5, 44, 42, 21, 4, 4, 96, 46, 182, 0, 162, 54, 6, 167, 5, 91], [43, 42, 21, 4, 4, 96, 46, 42, 21, 4, 5, 96, 46, 153, 0, 7, 4, 167, 0, 4, 3, 42, 21, 4, 6, 96, 46, 42, 21, 4, 7, 96], [46, 45, 184, 0, 163, 54, 5, 44, 42, 21, 4, 4, 96, 46, 42, 21, 4, 5, 96, 46, 153, 0, 7, 4, 167, 0, 4, 3, 42, 21, 4, 6], [96, 46, 42, 21, 4, 7, 96, 46, 182, 0, 166, 54, 6, 167, 5, 11, 43, 42, 21, 4, 4, 96, 46, 42, 21, 4, 5, 96, 46, 153, 0, 7], [4, 167, 0, 4, 3, 42, 21, 4, 6, 96, 46, 45, 184, 0, 167, 54, 5, 44, 42, 21, 4, 4, 96, 46, 42, 21, 4, 5, 96, 46, 153, 0], [7, 4, 167, 0, 4, 3, 42, 21, 4, 6, 96, 46, 182, 0, 170, 54, 6, 167, 4, 199, 43, 42, 21, 4, 4, 96, 46, 42, 21, 4, 5, 96], [46, 153, 0, 7, 4, 167, 0, 4, 3, 42, 21, 4, 6, 96, 46, 42, 21, 4, 7, 96, 46, 42, 21, 4, 8, 96, 46, 45, 184, 0, 171, 54], [5, 44, 42, 21, 4, 4, 96, 46, 42, 21, 4, 5, 96, 46, 153, 0, 7, 4, 167, 0, 4, 3, 42, 21, 4, 6, 96, 46, 42, 21, 4, 7], [96, 46, 42, 21, 4, 8, 96, 46, 182, 0, 174, 54, 6, 167, 4, 107, 43, 42, 21, 4, 4, 96, 46, 42, 21, 4, 5, 96, 46, 153, 0, 7], [4, 167, 0, 4, 3, 45, 184, 0, 175, 54, 5, 44, 42, 21, 4, 4, 96, 46, 42, 21, 4, 5, 96, 46, 153, 0, 7, 4, 167, 0, 4, 3], [182, 0, 178, 54, 6, 167, 4, 51, 43, 42, 21, 4, 4, 96, 46, 42, 21, 4, 5, 96, 46, 153, 0, 7, 4, 167, 0, 4, 3, 42, 21, 4], [6, 96, 46, 45, 184, 0, 179, 54, 5, 44, 42, 21, 4, 4, 96, 46, 42, 21, 4, 5, 96, 46, 153, 0, 7, 4, 167, 0, 4, 3, 42, 21], [4, 6, 96, 46, 182, 0, 181, 54, 6, 167, 3, 239, 43, 42, 21, 4, 4, 96, 46, 42, 21, 4, 5, 96, 46, 42, 21, 4, 6, 96, 46, 153], [0, 7, 4, 167, 0, 4, 3, 42, 21, 4, 7, 96, 46, 45, 184, 0, 182, 54, 5, 44, 42, 21, 4, 4, 96, 46, 42, 21, 4, 5, 96, 46], [42, 21, 4, 6, 96, 46, 153, 0, 7, 4, 167, 0, 4, 3, 42, 21, 4, 7, 96, 46, 182, 0, 185, 54, 6, 167, 3, 159, 43, 42, 21, 4], [4, 96, 46, 42, 21, 4, 5, 96, 46, 42, 21, 4, 6, 96, 46, 45, 184, 0, 186, 54, 5, 44, 42, 21, 4, 4, 96, 46, 42, 21, 4, 5], [96, 46, 42, 21, 4, 6, 96, 46, 182, 0, 188, 54, 6, 167, 3, 107, 43, 42, 21, 4, 4, 96, 46, 42, 21, 4, 5, 96, 46, 42, 21, 4], [6, 96, 46, 45, 184, 0, 189, 54, 5, 44, 42, 21, 4, 4, 96, 46, 42, 21, 4, 5, 96, 46, 42, 21, 4, 6, 96, 46, 182, 0, 191, 54], [6, 167, 3, 55, 43, 42, 21, 4, 4, 96, 46, 42, 21, 4, 5, 96, 46, 42, 21, 4, 6, 96, 46, 42, 21, 4, 7, 96, 46, 45, 184, 0], [192, 54, 5, 44, 42, 21, 4, 4, 96, 46, 42, 21, 4, 5, 96, 46, 42, 21, 4, 6, 96, 46, 42, 21, 4, 7, 96, 46, 182, 0, 194, 54], [6, 44, 182, 0, 195, 21, 5, 159, 0, 5, 3, 172, 21, 5, 154, 0, 16, 45, 180, 0, 13, 21, 6, 133, 148, 153, 0, 5, 3, 172, 167, 2], [218, 43, 42, 21, 4, 4, 96, 46, 42, 21, 4, 5, 96, 46, 153, 0, 7, 4, 167, 0, 4, 3, 45, 184, 0, 199, 54, 5, 44, 42, 21, 4], [4, 96, 46, 42, 21, 4, 5, 96, 46, 153, 0, 7, 4, 167, 0, 4, 3, 182, 0, 201, 54, 6, 167, 2, 162, 43, 42, 21, 4, 4, 96, 46], [42, 21, 4, 5, 96, 46, 42, 21, 4, 6, 96, 46, 45, 184, 0, 202, 54, 5, 44, 42, 21, 4, 4, 96, 46, 42, 21, 4, 5, 96, 46, 42], [21, 4, 6, 96, 46, 182, 0, 204, 54, 6, 167, 2, 110, 43, 42, 21, 4, 4, 96, 46, 45, 184, 0, 205, 54, 5, 44, 42, 21, 4, 4, 96], [46, 182, 0, 207, 58, 6, 167, 2, 82, 43, 42, 21, 4, 4, 96, 46, 42, 21, 4, 5, 96, 46, 45, 184, 0, 208, 54, 5, 44, 42, 21, 4], [4, 96, 46, 42, 21, 4, 5, 96, 46, 182, 0, 210, 54, 6, 167, 2, 42, 43, 42, 21, 4, 4, 96, 46, 42, 21, 4, 5, 96, 46, 45, 184], [0, 211, 54, 5, 44, 42, 21, 4, 4, 96, 46, 42, 21, 4, 5, 96, 46, 182, 0, 213, 54, 6, 167, 2, 2, 43, 42, 21, 4, 4, 96, 46], [42, 21, 4, 5, 96, 46, 42, 21, 4, 6, 96, 46, 45, 184, 0, 214, 54, 5, 44, 42, 21, 4, 4, 96, 46, 42, 21, 4, 5, 96, 46, 42], [21, 4, 6, 96, 46, 182, 0, 216, 54, 6, 167, 1, 206, 43, 42, 21, 4, 4, 96, 46, 42, 21, 4, 5, 96, 46, 45, 184, 0, 217, 54, 5], [44, 42, 21, 4, 4, 96, 46, 42, 21, 4, 5, 96, 46, 182, 0, 219, 54, 6, 167, 1, 166, 43, 42, 21, 4, 4, 96, 46, 42, 21, 4, 5], [96, 46, 45, 184, 0, 220, 54, 5, 44, 42, 21, 4, 4, 96, 46, 42, 21, 4, 5, 96, 46, 182, 0, 222, 54, 6, 167, 1, 126, 43, 42, 21], [4, 4, 96, 46, 42, 21, 4, 5, 96, 46, 42, 21, 4, 6, 96, 46, 42, 21, 4, 7, 96, 46, 45, 184, 0, 223, 54, 5, 44, 42, 21, 4], [4, 96, 46, 42, 21, 4, 5, 96, 46, 42, 21, 4, 6, 96, 46, 42, 21, 4, 7, 96, 46, 182, 0, 225, 54, 6, 167, 1, 62, 43, 42, 21], [4, 4, 96, 46, 42, 21, 4, 5, 96, 46, 45, 184, 0, 226, 54, 5, 44, 42, 21, 4, 4, 96, 46, 42, 21, 4, 5, 96, 46, 182, 0, 228], [54, 6, 167, 1, 22, 43, 42, 21, 4, 4, 96, 46, 42, 21, 4, 5, 96, 46, 42, 21, 4, 6, 96, 46, 42, 21, 4, 7, 96, 46, 45, 184], [0, 229, 54, 5, 44, 42, 21, 4, 4, 96, 46, 42, 21, 4, 5, 96, 46, 42, 21, 4, 6, 96, 46, 42, 21, 4, 7, 96, 46, 182, 0, 231], [54, 6, 167, 0, 214, 43, 42, 21, 4, 4, 96, 46, 42, 21, 4, 5, 96, 46, 42, 21, 4, 6, 96, 46, 45, 184, 0, 232, 54, 5, 44, 42], [21, 4, 4, 96, 46, 42, 21, 4, 5, 96, 46, 42, 21, 4, 6, 96, 46, 182, 0, 234, 54, 6, 167, 0, 162, 43, 42, 21, 4, 4, 96, 46], [42, 21, 4, 5, 96, 46, 45, 184, 0, 235, 54, 5, 44, 42, 21, 4, 4, 96, 46, 42, 21, 4, 5, 96, 46, 182, 0, 237, 58, 6, 167, 0], [122, 43, 42, 21, 4, 4, 96, 46, 42, 21, 4, 5, 96, 46, 42, 21, 4, 6, 96, 46, 45, 184, 0, 238, 54, 5, 44, 42, 21, 4, 4, 96], [46, 42, 21, 4, 5, 96, 46, 42, 21, 4, 6, 96, 46, 182, 0, 240, 54, 6, 167, 0, 70, 43, 42, 21, 4, 4, 96, 46, 45, 184, 0, 241], [54, 5, 44, 42, 21, 4, 4, 96, 46, 182, 0, 243, 54, 6, 167, 0, 42, 43, 182, 0, 244, 87, 44, 182, 0, 247, 87, 167, 0, 29, 43, 182], [0, 248, 87, 44, 182, 0, 252, 87, 167, 0, 16, 43, 182, 0, 253, 88, 44, 182, 1, 1, 88, 167, 0, 3, 132, 4, 6, 167, 248, 192, 4, 172]]
set_option maxRecDepth 20000 in
theorem hI_L_law : dz_is cL_law hL_L_law = true := by decide +kernel
theorem dL_law_196 : decode cL_law 196 = .ok (.aload_n 1, 1) := dz_e0 dz_43 hI_L_law (by decide +kernel)
theorem dL_law_197 : decode cL_law 197 = .ok (.aload_n 0, 1) := dz_e0 dz_42 hI_L_law (by decide +kernel)
theorem dL_law_198 : decode cL_law 198 = .ok (.iload 4, 2) := dz_e1 dz_21 hI_L_law (by decide +kernel)
theorem dL_law_200 : decode cL_law 200 = .ok (.iconst 1, 1) := dz_e0 dz_4 hI_L_law (by decide +kernel)
theorem dL_law_201 : decode cL_law 201 = .ok (.iadd, 1) := dz_e0 dz_96 hI_L_law (by decide +kernel)
theorem dL_law_202 : decode cL_law 202 = .ok (.iaload, 1) := dz_e0 dz_46 hI_L_law (by decide +kernel)
theorem dL_law_203 : decode cL_law 203 = .ok (.aload_n 0, 1) := dz_e0 dz_42 hI_L_law (by decide +kernel)
theorem dL_law_204 : decode cL_law 204 = .ok (.iload 4, 2) := dz_e1 dz_21 hI_L_law (by decide +kernel)
theorem dL_law_206 : decode cL_law 206 = .ok (.iconst 2, 1) := dz_e0 dz_5 hI_L_law (by decide +kernel)
theorem dL_law_207 : decode cL_law 207 = .ok (.iadd, 1) := dz_e0 dz_96 hI_L_law (by decide +kernel)
theorem dL_law_208 : decode cL_law 208 = .ok (.iaload, 1) := dz_e0 dz_46 hI_L_law (by decide +kernel)
theorem dL_law_209 : decode cL_law 209 = .ok (.aload_n 0, 1) := dz_e0 dz_42 hI_L_law (by decide +kernel)
theorem dL_law_210 : decode cL_law 210 = .ok (.iload 4, 2) := dz_e1 dz_21 hI_L_law (by decide +kernel)
theorem dL_law_212 : decode cL_law 212 = .ok (.iconst 3, 1) := dz_e0 dz_6 hI_L_law (by decide +kernel)
theorem dL_law_213 : decode cL_law 213 = .ok (.iadd, 1) := dz_e0 dz_96 hI_L_law (by decide +kernel)
theorem dL_law_214 : decode cL_law 214 = .ok (.iaload, 1) := dz_e0 dz_46 hI_L_law (by decide +kernel)
theorem dL_law_215 : decode cL_law 215 = .ok (.aload_n 3, 1) := dz_e0 dz_45 hI_L_law (by decide +kernel)
theorem dL_law_216 : decode cL_law 216 = .ok (.invokestatic 136, 3) := dz_e2 dz_184 hI_L_law (by decide +kernel)
theorem dL_law_219 : decode cL_law 219 = .ok (.istore 5, 2) := dz_e1 dz_54 hI_L_law (by decide +kernel)
theorem dL_law_221 : decode cL_law 221 = .ok (.aload_n 2, 1) := dz_e0 dz_44 hI_L_law (by decide +kernel)
theorem dL_law_222 : decode cL_law 222 = .ok (.aload_n 0, 1) := dz_e0 dz_42 hI_L_law (by decide +kernel)
theorem dL_law_223 : decode cL_law 223 = .ok (.iload 4, 2) := dz_e1 dz_21 hI_L_law (by decide +kernel)
theorem dL_law_225 : decode cL_law 225 = .ok (.iconst 1, 1) := dz_e0 dz_4 hI_L_law (by decide +kernel)
theorem dL_law_226 : decode cL_law 226 = .ok (.iadd, 1) := dz_e0 dz_96 hI_L_law (by decide +kernel)
theorem dL_law_227 : decode cL_law 227 = .ok (.iaload, 1) := dz_e0 dz_46 hI_L_law (by decide +kernel)
theorem dL_law_228 : decode cL_law 228 = .ok (.aload_n 0, 1) := dz_e0 dz_42 hI_L_law (by decide +kernel)
theorem dL_law_229 : decode cL_law 229 = .ok (.iload 4, 2) := dz_e1 dz_21 hI_L_law (by decide +kernel)
theorem dL_law_231 : decode cL_law 231 = .ok (.iconst 2, 1) := dz_e0 dz_5 hI_L_law (by decide +kernel)
theorem dL_law_232 : decode cL_law 232 = .ok (.iadd, 1) := dz_e0 dz_96 hI_L_law (by decide +kernel)
theorem dL_law_233 : decode cL_law 233 = .ok (.iaload, 1) := dz_e0 dz_46 hI_L_law (by decide +kernel)
theorem dL_law_234 : decode cL_law 234 = .ok (.aload_n 0, 1) := dz_e0 dz_42 hI_L_law (by decide +kernel)
theorem dL_law_235 : decode cL_law 235 = .ok (.iload 4, 2) := dz_e1 dz_21 hI_L_law (by decide +kernel)
theorem dL_law_237 : decode cL_law 237 = .ok (.iconst 3, 1) := dz_e0 dz_6 hI_L_law (by decide +kernel)
theorem dL_law_238 : decode cL_law 238 = .ok (.iadd, 1) := dz_e0 dz_96 hI_L_law (by decide +kernel)
theorem dL_law_239 : decode cL_law 239 = .ok (.iaload, 1) := dz_e0 dz_46 hI_L_law (by decide +kernel)
theorem dL_law_240 : decode cL_law 240 = .ok (.invokevirtual 141, 3) := dz_e2 dz_182 hI_L_law (by decide +kernel)
theorem dL_law_243 : decode cL_law 243 = .ok (.istore 6, 2) := dz_e1 dz_54 hI_L_law (by decide +kernel)
theorem dL_law_245 : decode cL_law 245 = .ok (.goto 1635, 3) := dz_f2 dz_167 hI_L_law (by decide +kernel)
set_option maxHeartbeats 4000000 in
set_option maxRecDepth 100000 in
theorem lc_0 : Lc 196 := by
  intro κ p l e s m args below meth c A ret b L o i xs a a2 r2 r q q2 f f2 n v cells slots Q H locs ls hst hX hx9 hbl hbA hi hL hok hm hr hB hl hc hs kk
  have hx := hX.1.1
  have hb := hX.1.2.1
  refine lv_aload_n hx hb dL_law_196 rfl (lv_at hl 1 rfl) ?_
  obtain ⟨z1, e1⟩ : ∃ z, xs (6 * i + 1) = z := ⟨_, rfl⟩
  refine lv_scr (k := 1) hX hB hx9 hbl hbA hi hL hl dL_law_197 dL_law_198 dL_law_200 dL_law_201 dL_law_202 (by decide) (by decide) e1 ?_
  obtain ⟨z2, e2⟩ : ∃ z, xs (6 * i + 2) = z := ⟨_, rfl⟩
  refine lv_scr (k := 2) hX hB hx9 hbl hbA hi hL hl dL_law_203 dL_law_204 dL_law_206 dL_law_207 dL_law_208 (by decide) (by decide) e2 ?_
  obtain ⟨z3, e3⟩ : ∃ z, xs (6 * i + 3) = z := ⟨_, rfl⟩
  refine lv_scr (k := 3) hX hB hx9 hbl hbA hi hL hl dL_law_209 dL_law_210 dL_law_212 dL_law_213 dL_law_214 (by decide) (by decide) e3 ?_
  refine lv_aload_n hx hb dL_law_215 rfl (lv_at hl 3 rfl) ?_
  replace hB := Lw_1 hB
  obtain ⟨Y, hY⟩ : ∃ Y, D_X5_make r q f z1 z2 z3 = Y := ⟨_, rfl⟩
  refine call_SW (n := 5) (As := [.ref (a 0), .int z1, .int z2, .int z3, .ref o]) (rest := []) hX hB (CMW_frame (mw κ a2 r2 f2 q2 (tb a2) []) (w_make κ l hst a r q f o n v z1 z2 z3 hok Y hY)) yk_L_make wm_2_156 wm_2_157 wm_1_0 wm_2_158 ⟨Nat.le_of_ble_eq_true rfl, Nat.le_of_ble_eq_true rfl⟩ ⟨by show _ ≤ 600128; omega, by show _ ≤ 7301098; omega⟩ rfl hl.1 rfl (Nat.le_of_ble_eq_true rfl) dL_law_216 (fun o9 w' H locs hp hB => ?_)
  obtain ⟨_, ⟨x1, n1, v1, rfl, ho, hq, hW, rfl⟩, rfl⟩ := hp
  refine W.eq (g2 := F0 m 219 ls [.int x1]) rfl ?_
  refine lv_istore (lv' := [(5, .int x1), (0, .ref b), (1, .ref (a 0)), (2, .ref (a2 0)), (3, .ref o), (4, .int (nI (6 * i)))]) hx hb dL_law_219 hl (by decide) rfl (fun ls hl => ?_)
  have hl0 := hl
  replace hl : lv_has ls 7 (Lv b (a 0) (a2 0) o i) := lv_sub hl [1, 2, 3, 4, 5] rfl
  refine lv_aload_n hx hb dL_law_221 rfl (lv_at hl 2 rfl) ?_
  refine lv_scr (k := 1) hX hB hx9 hbl hbA hi hL hl dL_law_222 dL_law_223 dL_law_225 dL_law_226 dL_law_227 (by decide) (by decide) e1 ?_
  refine lv_scr (k := 2) hX hB hx9 hbl hbA hi hL hl dL_law_228 dL_law_229 dL_law_231 dL_law_232 dL_law_233 (by decide) (by decide) e2 ?_
  refine lv_scr (k := 3) hX hB hx9 hbl hbA hi hL hl dL_law_234 dL_law_235 dL_law_237 dL_law_238 dL_law_239 (by decide) (by decide) e3 ?_
  replace hB := Lw_2 hB
  obtain ⟨Z, hZ⟩ : ∃ Z, D_X10_make r2 f2 q2 z1 z2 z3 = Z := ⟨_, rfl⟩
  refine call_V (n := 3) (k0 := 0) (As := [.int z1, .int z2, .int z3]) (rest := []) hX hB (k_X10_make κ l (cw κ a Y.2.2.1 Y.2.2.2.1 Y.2.2.2.2 ++ [Ot o n1 v1]) a2 r2 f2 q2 z1 z2 z3 hm _ _ _ _ (hZ.trans (te4 Z))) ⟨rfl, yk_X10_make⟩ wm_5_182 wm_5_183 wm_5_184 wm_1_6 wm_5_185 ⟨Nat.le_of_ble_eq_true rfl, Nat.le_of_ble_eq_true rfl⟩ ⟨by show _ ≤ 600128; omega, by show _ ≤ 7301098; omega⟩ mw0 rfl rfl rfl hl.1 rfl (Nat.le_of_ble_eq_true rfl) dL_law_240 (fun o9 w' H locs hp hB => ?_)
  obtain ⟨a3, rfl, hf0, hf1, hf2, rfl⟩ := hp
  have hO : Ok Y Z := by rw [← hY, ← hZ]; exact make_eq hr
  refine W.eq (g2 := F0 m 243 ls [.int Z.1]) rfl ?_
  refine lv_istore (lv' := [(6, .int Z.1), (5, .int x1), (0, .ref b), (1, .ref (a 0)), (2, .ref (a2 0)), (3, .ref o), (4, .int (nI (6 * i)))]) hx hb dL_law_243 hl0 (by decide) rfl (fun ls hl => ?_)
  have hl0 := hl
  replace hl : lv_has ls 7 (Lv b (a 0) (a2 0) o i) := lv_sub hl [2, 3, 4, 5, 6] rfl
  refine lv_goto (tgt := 1880) hx hb dL_law_245 (by decide) ?_
  replace hB := Lw_3 hB
  refine W.widen (k := cells + 100) (n := slots + 70000) (by omega) (by omega) ?_
  exact kk _ _ _ _ _ _ _ _ _ _ _ _ (ho hok) hf1 hO.1 hf0 hB hl
theorem dL_law_248 : decode cL_law 248 = .ok (.aload_n 1, 1) := dz_e0 dz_43 hI_L_law (by decide +kernel)
theorem dL_law_249 : decode cL_law 249 = .ok (.aload_n 0, 1) := dz_e0 dz_42 hI_L_law (by decide +kernel)
theorem dL_law_250 : decode cL_law 250 = .ok (.iload 4, 2) := dz_e1 dz_21 hI_L_law (by decide +kernel)
theorem dL_law_252 : decode cL_law 252 = .ok (.iconst 1, 1) := dz_e0 dz_4 hI_L_law (by decide +kernel)
theorem dL_law_253 : decode cL_law 253 = .ok (.iadd, 1) := dz_e0 dz_96 hI_L_law (by decide +kernel)
theorem dL_law_254 : decode cL_law 254 = .ok (.iaload, 1) := dz_e0 dz_46 hI_L_law (by decide +kernel)
theorem dL_law_255 : decode cL_law 255 = .ok (.aload_n 0, 1) := dz_e0 dz_42 hI_L_law (by decide +kernel)
theorem dL_law_256 : decode cL_law 256 = .ok (.iload 4, 2) := dz_e1 dz_21 hI_L_law (by decide +kernel)
theorem dL_law_258 : decode cL_law 258 = .ok (.iconst 2, 1) := dz_e0 dz_5 hI_L_law (by decide +kernel)
theorem dL_law_259 : decode cL_law 259 = .ok (.iadd, 1) := dz_e0 dz_96 hI_L_law (by decide +kernel)
theorem dL_law_260 : decode cL_law 260 = .ok (.iaload, 1) := dz_e0 dz_46 hI_L_law (by decide +kernel)
theorem dL_law_261 : decode cL_law 261 = .ok (.aload_n 3, 1) := dz_e0 dz_45 hI_L_law (by decide +kernel)
theorem dL_law_262 : decode cL_law 262 = .ok (.invokestatic 142, 3) := dz_e2 dz_184 hI_L_law (by decide +kernel)
theorem dL_law_265 : decode cL_law 265 = .ok (.istore 5, 2) := dz_e1 dz_54 hI_L_law (by decide +kernel)
theorem dL_law_267 : decode cL_law 267 = .ok (.aload_n 2, 1) := dz_e0 dz_44 hI_L_law (by decide +kernel)
theorem dL_law_268 : decode cL_law 268 = .ok (.aload_n 0, 1) := dz_e0 dz_42 hI_L_law (by decide +kernel)
theorem dL_law_269 : decode cL_law 269 = .ok (.iload 4, 2) := dz_e1 dz_21 hI_L_law (by decide +kernel)
theorem dL_law_271 : decode cL_law 271 = .ok (.iconst 1, 1) := dz_e0 dz_4 hI_L_law (by decide +kernel)
theorem dL_law_272 : decode cL_law 272 = .ok (.iadd, 1) := dz_e0 dz_96 hI_L_law (by decide +kernel)
theorem dL_law_273 : decode cL_law 273 = .ok (.iaload, 1) := dz_e0 dz_46 hI_L_law (by decide +kernel)
theorem dL_law_274 : decode cL_law 274 = .ok (.aload_n 0, 1) := dz_e0 dz_42 hI_L_law (by decide +kernel)
theorem dL_law_275 : decode cL_law 275 = .ok (.iload 4, 2) := dz_e1 dz_21 hI_L_law (by decide +kernel)
theorem dL_law_277 : decode cL_law 277 = .ok (.iconst 2, 1) := dz_e0 dz_5 hI_L_law (by decide +kernel)
theorem dL_law_278 : decode cL_law 278 = .ok (.iadd, 1) := dz_e0 dz_96 hI_L_law (by decide +kernel)
theorem dL_law_279 : decode cL_law 279 = .ok (.iaload, 1) := dz_e0 dz_46 hI_L_law (by decide +kernel)
theorem dL_law_280 : decode cL_law 280 = .ok (.invokevirtual 145, 3) := dz_e2 dz_182 hI_L_law (by decide +kernel)
theorem dL_law_283 : decode cL_law 283 = .ok (.istore 6, 2) := dz_e1 dz_54 hI_L_law (by decide +kernel)
theorem dL_law_285 : decode cL_law 285 = .ok (.goto 1595, 3) := dz_f2 dz_167 hI_L_law (by decide +kernel)
set_option maxHeartbeats 4000000 in
set_option maxRecDepth 100000 in
theorem lc_1 : Lc 248 := by
  intro κ p l e s m args below meth c A ret b L o i xs a a2 r2 r q q2 f f2 n v cells slots Q H locs ls hst hX hx9 hbl hbA hi hL hok hm hr hB hl hc hs kk
  have hx := hX.1.1
  have hb := hX.1.2.1
  refine lv_aload_n hx hb dL_law_248 rfl (lv_at hl 1 rfl) ?_
  obtain ⟨z1, e1⟩ : ∃ z, xs (6 * i + 1) = z := ⟨_, rfl⟩
  refine lv_scr (k := 1) hX hB hx9 hbl hbA hi hL hl dL_law_249 dL_law_250 dL_law_252 dL_law_253 dL_law_254 (by decide) (by decide) e1 ?_
  obtain ⟨z2, e2⟩ : ∃ z, xs (6 * i + 2) = z := ⟨_, rfl⟩
  refine lv_scr (k := 2) hX hB hx9 hbl hbA hi hL hl dL_law_255 dL_law_256 dL_law_258 dL_law_259 dL_law_260 (by decide) (by decide) e2 ?_
  refine lv_aload_n hx hb dL_law_261 rfl (lv_at hl 3 rfl) ?_
  replace hB := Lw_1 hB
  obtain ⟨Y, hY⟩ : ∃ Y, D_X5_unit r q f z1 z2 = Y := ⟨_, rfl⟩
  refine call_SW (n := 4) (As := [.ref (a 0), .int z1, .int z2, .ref o]) (rest := []) hX hB (CMW_frame (mw κ a2 r2 f2 q2 (tb a2) []) (w_unit κ l hst a r q f o n v z1 z2 hok Y hY)) yk_L_unit wm_3_28 wm_3_29 wm_1_0 wm_3_30 ⟨Nat.le_of_ble_eq_true rfl, Nat.le_of_ble_eq_true rfl⟩ ⟨by show _ ≤ 600128; omega, by show _ ≤ 7301098; omega⟩ rfl hl.1 rfl (Nat.le_of_ble_eq_true rfl) dL_law_262 (fun o9 w' H locs hp hB => ?_)
  obtain ⟨_, ⟨x1, n1, v1, rfl, ho, hq, hW, rfl⟩, rfl⟩ := hp
  refine W.eq (g2 := F0 m 265 ls [.int x1]) rfl ?_
  refine lv_istore (lv' := [(5, .int x1), (0, .ref b), (1, .ref (a 0)), (2, .ref (a2 0)), (3, .ref o), (4, .int (nI (6 * i)))]) hx hb dL_law_265 hl (by decide) rfl (fun ls hl => ?_)
  have hl0 := hl
  replace hl : lv_has ls 7 (Lv b (a 0) (a2 0) o i) := lv_sub hl [1, 2, 3, 4, 5] rfl
  refine lv_aload_n hx hb dL_law_267 rfl (lv_at hl 2 rfl) ?_
  refine lv_scr (k := 1) hX hB hx9 hbl hbA hi hL hl dL_law_268 dL_law_269 dL_law_271 dL_law_272 dL_law_273 (by decide) (by decide) e1 ?_
  refine lv_scr (k := 2) hX hB hx9 hbl hbA hi hL hl dL_law_274 dL_law_275 dL_law_277 dL_law_278 dL_law_279 (by decide) (by decide) e2 ?_
  replace hB := Lw_2 hB
  obtain ⟨Z, hZ⟩ : ∃ Z, D_X10_unit r2 f2 q2 z1 z2 = Z := ⟨_, rfl⟩
  refine call_V (n := 2) (k0 := 0) (As := [.int z1, .int z2]) (rest := []) hX hB (k_X10_unit κ l (cw κ a Y.2.2.1 Y.2.2.2.1 Y.2.2.2.2 ++ [Ot o n1 v1]) a2 r2 f2 q2 z1 z2 hm _ _ _ _ (hZ.trans (te4 Z))) ⟨rfl, yk_X10_unit⟩ wm_5_212 wm_5_213 wm_5_214 wm_1_6 wm_5_215 ⟨Nat.le_of_ble_eq_true rfl, Nat.le_of_ble_eq_true rfl⟩ ⟨by show _ ≤ 600128; omega, by show _ ≤ 7301098; omega⟩ mw0 rfl rfl rfl hl.1 rfl (Nat.le_of_ble_eq_true rfl) dL_law_280 (fun o9 w' H locs hp hB => ?_)
  obtain ⟨a3, rfl, hf0, hf1, hf2, rfl⟩ := hp
  have hO : Ok Y Z := by rw [← hY, ← hZ]; exact unit_eq hr
  refine W.eq (g2 := F0 m 283 ls [.int Z.1]) rfl ?_
  refine lv_istore (lv' := [(6, .int Z.1), (5, .int x1), (0, .ref b), (1, .ref (a 0)), (2, .ref (a2 0)), (3, .ref o), (4, .int (nI (6 * i)))]) hx hb dL_law_283 hl0 (by decide) rfl (fun ls hl => ?_)
  have hl0 := hl
  replace hl : lv_has ls 7 (Lv b (a 0) (a2 0) o i) := lv_sub hl [2, 3, 4, 5, 6] rfl
  refine lv_goto (tgt := 1880) hx hb dL_law_285 (by decide) ?_
  replace hB := Lw_3 hB
  refine W.widen (k := cells + 100) (n := slots + 70000) (by omega) (by omega) ?_
  exact kk _ _ _ _ _ _ _ _ _ _ _ _ (ho hok) hf1 hO.1 hf0 hB hl
theorem dL_law_288 : decode cL_law 288 = .ok (.aload_n 1, 1) := dz_e0 dz_43 hI_L_law (by decide +kernel)
theorem dL_law_289 : decode cL_law 289 = .ok (.aload_n 0, 1) := dz_e0 dz_42 hI_L_law (by decide +kernel)
theorem dL_law_290 : decode cL_law 290 = .ok (.iload 4, 2) := dz_e1 dz_21 hI_L_law (by decide +kernel)
theorem dL_law_292 : decode cL_law 292 = .ok (.iconst 1, 1) := dz_e0 dz_4 hI_L_law (by decide +kernel)
theorem dL_law_293 : decode cL_law 293 = .ok (.iadd, 1) := dz_e0 dz_96 hI_L_law (by decide +kernel)
theorem dL_law_294 : decode cL_law 294 = .ok (.iaload, 1) := dz_e0 dz_46 hI_L_law (by decide +kernel)
theorem dL_law_295 : decode cL_law 295 = .ok (.aload_n 0, 1) := dz_e0 dz_42 hI_L_law (by decide +kernel)
theorem dL_law_296 : decode cL_law 296 = .ok (.iload 4, 2) := dz_e1 dz_21 hI_L_law (by decide +kernel)
theorem dL_law_298 : decode cL_law 298 = .ok (.iconst 2, 1) := dz_e0 dz_5 hI_L_law (by decide +kernel)
theorem dL_law_299 : decode cL_law 299 = .ok (.iadd, 1) := dz_e0 dz_96 hI_L_law (by decide +kernel)
theorem dL_law_300 : decode cL_law 300 = .ok (.iaload, 1) := dz_e0 dz_46 hI_L_law (by decide +kernel)
theorem dL_law_301 : decode cL_law 301 = .ok (.aload_n 0, 1) := dz_e0 dz_42 hI_L_law (by decide +kernel)
theorem dL_law_302 : decode cL_law 302 = .ok (.iload 4, 2) := dz_e1 dz_21 hI_L_law (by decide +kernel)
theorem dL_law_304 : decode cL_law 304 = .ok (.iconst 3, 1) := dz_e0 dz_6 hI_L_law (by decide +kernel)
theorem dL_law_305 : decode cL_law 305 = .ok (.iadd, 1) := dz_e0 dz_96 hI_L_law (by decide +kernel)
theorem dL_law_306 : decode cL_law 306 = .ok (.iaload, 1) := dz_e0 dz_46 hI_L_law (by decide +kernel)
theorem dL_law_307 : decode cL_law 307 = .ok (.aload_n 0, 1) := dz_e0 dz_42 hI_L_law (by decide +kernel)
theorem dL_law_308 : decode cL_law 308 = .ok (.iload 4, 2) := dz_e1 dz_21 hI_L_law (by decide +kernel)
theorem dL_law_310 : decode cL_law 310 = .ok (.iconst 4, 1) := dz_e0 dz_7 hI_L_law (by decide +kernel)
theorem dL_law_311 : decode cL_law 311 = .ok (.iadd, 1) := dz_e0 dz_96 hI_L_law (by decide +kernel)
theorem dL_law_312 : decode cL_law 312 = .ok (.iaload, 1) := dz_e0 dz_46 hI_L_law (by decide +kernel)
theorem dL_law_313 : decode cL_law 313 = .ok (.aload_n 3, 1) := dz_e0 dz_45 hI_L_law (by decide +kernel)
theorem dL_law_314 : decode cL_law 314 = .ok (.invokestatic 146, 3) := dz_e2 dz_184 hI_L_law (by decide +kernel)
theorem dL_law_317 : decode cL_law 317 = .ok (.istore 5, 2) := dz_e1 dz_54 hI_L_law (by decide +kernel)
theorem dL_law_319 : decode cL_law 319 = .ok (.aload_n 2, 1) := dz_e0 dz_44 hI_L_law (by decide +kernel)
theorem dL_law_320 : decode cL_law 320 = .ok (.aload_n 0, 1) := dz_e0 dz_42 hI_L_law (by decide +kernel)
theorem dL_law_321 : decode cL_law 321 = .ok (.iload 4, 2) := dz_e1 dz_21 hI_L_law (by decide +kernel)
theorem dL_law_323 : decode cL_law 323 = .ok (.iconst 1, 1) := dz_e0 dz_4 hI_L_law (by decide +kernel)
theorem dL_law_324 : decode cL_law 324 = .ok (.iadd, 1) := dz_e0 dz_96 hI_L_law (by decide +kernel)
theorem dL_law_325 : decode cL_law 325 = .ok (.iaload, 1) := dz_e0 dz_46 hI_L_law (by decide +kernel)
theorem dL_law_326 : decode cL_law 326 = .ok (.aload_n 0, 1) := dz_e0 dz_42 hI_L_law (by decide +kernel)
theorem dL_law_327 : decode cL_law 327 = .ok (.iload 4, 2) := dz_e1 dz_21 hI_L_law (by decide +kernel)
theorem dL_law_329 : decode cL_law 329 = .ok (.iconst 2, 1) := dz_e0 dz_5 hI_L_law (by decide +kernel)
theorem dL_law_330 : decode cL_law 330 = .ok (.iadd, 1) := dz_e0 dz_96 hI_L_law (by decide +kernel)
theorem dL_law_331 : decode cL_law 331 = .ok (.iaload, 1) := dz_e0 dz_46 hI_L_law (by decide +kernel)
theorem dL_law_332 : decode cL_law 332 = .ok (.aload_n 0, 1) := dz_e0 dz_42 hI_L_law (by decide +kernel)
theorem dL_law_333 : decode cL_law 333 = .ok (.iload 4, 2) := dz_e1 dz_21 hI_L_law (by decide +kernel)
theorem dL_law_335 : decode cL_law 335 = .ok (.iconst 3, 1) := dz_e0 dz_6 hI_L_law (by decide +kernel)
theorem dL_law_336 : decode cL_law 336 = .ok (.iadd, 1) := dz_e0 dz_96 hI_L_law (by decide +kernel)
theorem dL_law_337 : decode cL_law 337 = .ok (.iaload, 1) := dz_e0 dz_46 hI_L_law (by decide +kernel)
theorem dL_law_338 : decode cL_law 338 = .ok (.aload_n 0, 1) := dz_e0 dz_42 hI_L_law (by decide +kernel)
theorem dL_law_339 : decode cL_law 339 = .ok (.iload 4, 2) := dz_e1 dz_21 hI_L_law (by decide +kernel)
theorem dL_law_341 : decode cL_law 341 = .ok (.iconst 4, 1) := dz_e0 dz_7 hI_L_law (by decide +kernel)
theorem dL_law_342 : decode cL_law 342 = .ok (.iadd, 1) := dz_e0 dz_96 hI_L_law (by decide +kernel)
theorem dL_law_343 : decode cL_law 343 = .ok (.iaload, 1) := dz_e0 dz_46 hI_L_law (by decide +kernel)
theorem dL_law_344 : decode cL_law 344 = .ok (.invokevirtual 149, 3) := dz_e2 dz_182 hI_L_law (by decide +kernel)
theorem dL_law_347 : decode cL_law 347 = .ok (.istore 6, 2) := dz_e1 dz_54 hI_L_law (by decide +kernel)
theorem dL_law_349 : decode cL_law 349 = .ok (.goto 1531, 3) := dz_f2 dz_167 hI_L_law (by decide +kernel)
set_option maxHeartbeats 4000000 in
set_option maxRecDepth 100000 in
theorem lc_2 : Lc 288 := by
  intro κ p l e s m args below meth c A ret b L o i xs a a2 r2 r q q2 f f2 n v cells slots Q H locs ls hst hX hx9 hbl hbA hi hL hok hm hr hB hl hc hs kk
  have hx := hX.1.1
  have hb := hX.1.2.1
  refine lv_aload_n hx hb dL_law_288 rfl (lv_at hl 1 rfl) ?_
  obtain ⟨z1, e1⟩ : ∃ z, xs (6 * i + 1) = z := ⟨_, rfl⟩
  refine lv_scr (k := 1) hX hB hx9 hbl hbA hi hL hl dL_law_289 dL_law_290 dL_law_292 dL_law_293 dL_law_294 (by decide) (by decide) e1 ?_
  obtain ⟨z2, e2⟩ : ∃ z, xs (6 * i + 2) = z := ⟨_, rfl⟩
  refine lv_scr (k := 2) hX hB hx9 hbl hbA hi hL hl dL_law_295 dL_law_296 dL_law_298 dL_law_299 dL_law_300 (by decide) (by decide) e2 ?_
  obtain ⟨z3, e3⟩ : ∃ z, xs (6 * i + 3) = z := ⟨_, rfl⟩
  refine lv_scr (k := 3) hX hB hx9 hbl hbA hi hL hl dL_law_301 dL_law_302 dL_law_304 dL_law_305 dL_law_306 (by decide) (by decide) e3 ?_
  obtain ⟨z4, e4⟩ : ∃ z, xs (6 * i + 4) = z := ⟨_, rfl⟩
  refine lv_scr (k := 4) hX hB hx9 hbl hbA hi hL hl dL_law_307 dL_law_308 dL_law_310 dL_law_311 dL_law_312 (by decide) (by decide) e4 ?_
  refine lv_aload_n hx hb dL_law_313 rfl (lv_at hl 3 rfl) ?_
  replace hB := Lw_1 hB
  obtain ⟨Y, hY⟩ : ∃ Y, D_X5_put r q f z1 z2 z3 z4 = Y := ⟨_, rfl⟩
  refine call_SW (n := 6) (As := [.ref (a 0), .int z1, .int z2, .int z3, .int z4, .ref o]) (rest := []) hX hB (CMW_frame (mw κ a2 r2 f2 q2 (tb a2) []) (w_put κ l hst a r q f o n v z1 z2 z3 z4 hok Y hY)) yk_L_put wm_3_36 wm_3_37 wm_1_0 wm_3_38 ⟨Nat.le_of_ble_eq_true rfl, Nat.le_of_ble_eq_true rfl⟩ ⟨by show _ ≤ 600128; omega, by show _ ≤ 7301098; omega⟩ rfl hl.1 rfl (Nat.le_of_ble_eq_true rfl) dL_law_314 (fun o9 w' H locs hp hB => ?_)
  obtain ⟨_, ⟨x1, n1, v1, rfl, ho, hq, hW, rfl⟩, rfl⟩ := hp
  refine W.eq (g2 := F0 m 317 ls [.int x1]) rfl ?_
  refine lv_istore (lv' := [(5, .int x1), (0, .ref b), (1, .ref (a 0)), (2, .ref (a2 0)), (3, .ref o), (4, .int (nI (6 * i)))]) hx hb dL_law_317 hl (by decide) rfl (fun ls hl => ?_)
  have hl0 := hl
  replace hl : lv_has ls 7 (Lv b (a 0) (a2 0) o i) := lv_sub hl [1, 2, 3, 4, 5] rfl
  refine lv_aload_n hx hb dL_law_319 rfl (lv_at hl 2 rfl) ?_
  refine lv_scr (k := 1) hX hB hx9 hbl hbA hi hL hl dL_law_320 dL_law_321 dL_law_323 dL_law_324 dL_law_325 (by decide) (by decide) e1 ?_
  refine lv_scr (k := 2) hX hB hx9 hbl hbA hi hL hl dL_law_326 dL_law_327 dL_law_329 dL_law_330 dL_law_331 (by decide) (by decide) e2 ?_
  refine lv_scr (k := 3) hX hB hx9 hbl hbA hi hL hl dL_law_332 dL_law_333 dL_law_335 dL_law_336 dL_law_337 (by decide) (by decide) e3 ?_
  refine lv_scr (k := 4) hX hB hx9 hbl hbA hi hL hl dL_law_338 dL_law_339 dL_law_341 dL_law_342 dL_law_343 (by decide) (by decide) e4 ?_
  replace hB := Lw_2 hB
  obtain ⟨Z, hZ⟩ : ∃ Z, D_X10_put r2 f2 q2 z1 z2 z3 z4 = Z := ⟨_, rfl⟩
  refine call_V (n := 4) (k0 := 0) (As := [.int z1, .int z2, .int z3, .int z4]) (rest := []) hX hB (k_X10_put κ l (cw κ a Y.2.2.1 Y.2.2.2.1 Y.2.2.2.2 ++ [Ot o n1 v1]) a2 r2 f2 q2 z1 z2 z3 z4 hm _ _ _ _ (hZ.trans (te4 Z))) ⟨rfl, yk_X10_put⟩ wm_5_225 wm_5_226 wm_5_227 wm_1_6 wm_5_228 ⟨Nat.le_of_ble_eq_true rfl, Nat.le_of_ble_eq_true rfl⟩ ⟨by show _ ≤ 600128; omega, by show _ ≤ 7301098; omega⟩ mw0 rfl rfl rfl hl.1 rfl (Nat.le_of_ble_eq_true rfl) dL_law_344 (fun o9 w' H locs hp hB => ?_)
  obtain ⟨a3, rfl, hf0, hf1, hf2, rfl⟩ := hp
  have hO : Ok Y Z := by rw [← hY, ← hZ]; exact put_eq hr
  refine W.eq (g2 := F0 m 347 ls [.int Z.1]) rfl ?_
  refine lv_istore (lv' := [(6, .int Z.1), (5, .int x1), (0, .ref b), (1, .ref (a 0)), (2, .ref (a2 0)), (3, .ref o), (4, .int (nI (6 * i)))]) hx hb dL_law_347 hl0 (by decide) rfl (fun ls hl => ?_)
  have hl0 := hl
  replace hl : lv_has ls 7 (Lv b (a 0) (a2 0) o i) := lv_sub hl [2, 3, 4, 5, 6] rfl
  refine lv_goto (tgt := 1880) hx hb dL_law_349 (by decide) ?_
  replace hB := Lw_3 hB
  refine W.widen (k := cells + 100) (n := slots + 70000) (by omega) (by omega) ?_
  exact kk _ _ _ _ _ _ _ _ _ _ _ _ (ho hok) hf1 hO.1 hf0 hB hl
theorem dL_law_352 : decode cL_law 352 = .ok (.aload_n 1, 1) := dz_e0 dz_43 hI_L_law (by decide +kernel)
theorem dL_law_353 : decode cL_law 353 = .ok (.aload_n 0, 1) := dz_e0 dz_42 hI_L_law (by decide +kernel)
theorem dL_law_354 : decode cL_law 354 = .ok (.iload 4, 2) := dz_e1 dz_21 hI_L_law (by decide +kernel)
theorem dL_law_356 : decode cL_law 356 = .ok (.iconst 1, 1) := dz_e0 dz_4 hI_L_law (by decide +kernel)
theorem dL_law_357 : decode cL_law 357 = .ok (.iadd, 1) := dz_e0 dz_96 hI_L_law (by decide +kernel)
theorem dL_law_358 : decode cL_law 358 = .ok (.iaload, 1) := dz_e0 dz_46 hI_L_law (by decide +kernel)
theorem dL_law_359 : decode cL_law 359 = .ok (.aload_n 0, 1) := dz_e0 dz_42 hI_L_law (by decide +kernel)
theorem dL_law_360 : decode cL_law 360 = .ok (.iload 4, 2) := dz_e1 dz_21 hI_L_law (by decide +kernel)
theorem dL_law_362 : decode cL_law 362 = .ok (.iconst 2, 1) := dz_e0 dz_5 hI_L_law (by decide +kernel)
theorem dL_law_363 : decode cL_law 363 = .ok (.iadd, 1) := dz_e0 dz_96 hI_L_law (by decide +kernel)
theorem dL_law_364 : decode cL_law 364 = .ok (.iaload, 1) := dz_e0 dz_46 hI_L_law (by decide +kernel)
theorem dL_law_365 : decode cL_law 365 = .ok (.aload_n 0, 1) := dz_e0 dz_42 hI_L_law (by decide +kernel)
theorem dL_law_366 : decode cL_law 366 = .ok (.iload 4, 2) := dz_e1 dz_21 hI_L_law (by decide +kernel)
theorem dL_law_368 : decode cL_law 368 = .ok (.iconst 3, 1) := dz_e0 dz_6 hI_L_law (by decide +kernel)
theorem dL_law_369 : decode cL_law 369 = .ok (.iadd, 1) := dz_e0 dz_96 hI_L_law (by decide +kernel)
theorem dL_law_370 : decode cL_law 370 = .ok (.iaload, 1) := dz_e0 dz_46 hI_L_law (by decide +kernel)
theorem dL_law_371 : decode cL_law 371 = .ok (.aload_n 3, 1) := dz_e0 dz_45 hI_L_law (by decide +kernel)
theorem dL_law_372 : decode cL_law 372 = .ok (.invokestatic 150, 3) := dz_e2 dz_184 hI_L_law (by decide +kernel)
theorem dL_law_375 : decode cL_law 375 = .ok (.istore 5, 2) := dz_e1 dz_54 hI_L_law (by decide +kernel)
theorem dL_law_377 : decode cL_law 377 = .ok (.aload_n 2, 1) := dz_e0 dz_44 hI_L_law (by decide +kernel)
theorem dL_law_378 : decode cL_law 378 = .ok (.aload_n 0, 1) := dz_e0 dz_42 hI_L_law (by decide +kernel)
theorem dL_law_379 : decode cL_law 379 = .ok (.iload 4, 2) := dz_e1 dz_21 hI_L_law (by decide +kernel)
theorem dL_law_381 : decode cL_law 381 = .ok (.iconst 1, 1) := dz_e0 dz_4 hI_L_law (by decide +kernel)
theorem dL_law_382 : decode cL_law 382 = .ok (.iadd, 1) := dz_e0 dz_96 hI_L_law (by decide +kernel)
theorem dL_law_383 : decode cL_law 383 = .ok (.iaload, 1) := dz_e0 dz_46 hI_L_law (by decide +kernel)
theorem dL_law_384 : decode cL_law 384 = .ok (.aload_n 0, 1) := dz_e0 dz_42 hI_L_law (by decide +kernel)
theorem dL_law_385 : decode cL_law 385 = .ok (.iload 4, 2) := dz_e1 dz_21 hI_L_law (by decide +kernel)
theorem dL_law_387 : decode cL_law 387 = .ok (.iconst 2, 1) := dz_e0 dz_5 hI_L_law (by decide +kernel)
theorem dL_law_388 : decode cL_law 388 = .ok (.iadd, 1) := dz_e0 dz_96 hI_L_law (by decide +kernel)
theorem dL_law_389 : decode cL_law 389 = .ok (.iaload, 1) := dz_e0 dz_46 hI_L_law (by decide +kernel)
theorem dL_law_390 : decode cL_law 390 = .ok (.aload_n 0, 1) := dz_e0 dz_42 hI_L_law (by decide +kernel)
theorem dL_law_391 : decode cL_law 391 = .ok (.iload 4, 2) := dz_e1 dz_21 hI_L_law (by decide +kernel)
theorem dL_law_393 : decode cL_law 393 = .ok (.iconst 3, 1) := dz_e0 dz_6 hI_L_law (by decide +kernel)
theorem dL_law_394 : decode cL_law 394 = .ok (.iadd, 1) := dz_e0 dz_96 hI_L_law (by decide +kernel)
theorem dL_law_395 : decode cL_law 395 = .ok (.iaload, 1) := dz_e0 dz_46 hI_L_law (by decide +kernel)
theorem dL_law_396 : decode cL_law 396 = .ok (.invokevirtual 152, 3) := dz_e2 dz_182 hI_L_law (by decide +kernel)
theorem dL_law_399 : decode cL_law 399 = .ok (.istore 6, 2) := dz_e1 dz_54 hI_L_law (by decide +kernel)
theorem dL_law_401 : decode cL_law 401 = .ok (.goto 1479, 3) := dz_f2 dz_167 hI_L_law (by decide +kernel)
set_option maxHeartbeats 4000000 in
set_option maxRecDepth 100000 in
theorem lc_3 : Lc 352 := by
  intro κ p l e s m args below meth c A ret b L o i xs a a2 r2 r q q2 f f2 n v cells slots Q H locs ls hst hX hx9 hbl hbA hi hL hok hm hr hB hl hc hs kk
  have hx := hX.1.1
  have hb := hX.1.2.1
  refine lv_aload_n hx hb dL_law_352 rfl (lv_at hl 1 rfl) ?_
  obtain ⟨z1, e1⟩ : ∃ z, xs (6 * i + 1) = z := ⟨_, rfl⟩
  refine lv_scr (k := 1) hX hB hx9 hbl hbA hi hL hl dL_law_353 dL_law_354 dL_law_356 dL_law_357 dL_law_358 (by decide) (by decide) e1 ?_
  obtain ⟨z2, e2⟩ : ∃ z, xs (6 * i + 2) = z := ⟨_, rfl⟩
  refine lv_scr (k := 2) hX hB hx9 hbl hbA hi hL hl dL_law_359 dL_law_360 dL_law_362 dL_law_363 dL_law_364 (by decide) (by decide) e2 ?_
  obtain ⟨z3, e3⟩ : ∃ z, xs (6 * i + 3) = z := ⟨_, rfl⟩
  refine lv_scr (k := 3) hX hB hx9 hbl hbA hi hL hl dL_law_365 dL_law_366 dL_law_368 dL_law_369 dL_law_370 (by decide) (by decide) e3 ?_
  refine lv_aload_n hx hb dL_law_371 rfl (lv_at hl 3 rfl) ?_
  replace hB := Lw_1 hB
  obtain ⟨Y, hY⟩ : ∃ Y, D_X5_sow r q f z1 z2 z3 = Y := ⟨_, rfl⟩
  refine call_SW (n := 5) (As := [.ref (a 0), .int z1, .int z2, .int z3, .ref o]) (rest := []) hX hB (CMW_frame (mw κ a2 r2 f2 q2 (tb a2) []) (w_sow κ l hst a r q f o n v z1 z2 z3 hok Y hY)) yk_L_sow wm_3_52 wm_3_53 wm_1_0 wm_3_54 ⟨Nat.le_of_ble_eq_true rfl, Nat.le_of_ble_eq_true rfl⟩ ⟨by show _ ≤ 600128; omega, by show _ ≤ 7301098; omega⟩ rfl hl.1 rfl (Nat.le_of_ble_eq_true rfl) dL_law_372 (fun o9 w' H locs hp hB => ?_)
  obtain ⟨_, ⟨x1, n1, v1, rfl, ho, hq, hW, rfl⟩, rfl⟩ := hp
  refine W.eq (g2 := F0 m 375 ls [.int x1]) rfl ?_
  refine lv_istore (lv' := [(5, .int x1), (0, .ref b), (1, .ref (a 0)), (2, .ref (a2 0)), (3, .ref o), (4, .int (nI (6 * i)))]) hx hb dL_law_375 hl (by decide) rfl (fun ls hl => ?_)
  have hl0 := hl
  replace hl : lv_has ls 7 (Lv b (a 0) (a2 0) o i) := lv_sub hl [1, 2, 3, 4, 5] rfl
  refine lv_aload_n hx hb dL_law_377 rfl (lv_at hl 2 rfl) ?_
  refine lv_scr (k := 1) hX hB hx9 hbl hbA hi hL hl dL_law_378 dL_law_379 dL_law_381 dL_law_382 dL_law_383 (by decide) (by decide) e1 ?_
  refine lv_scr (k := 2) hX hB hx9 hbl hbA hi hL hl dL_law_384 dL_law_385 dL_law_387 dL_law_388 dL_law_389 (by decide) (by decide) e2 ?_
  refine lv_scr (k := 3) hX hB hx9 hbl hbA hi hL hl dL_law_390 dL_law_391 dL_law_393 dL_law_394 dL_law_395 (by decide) (by decide) e3 ?_
  replace hB := Lw_2 hB
  obtain ⟨Z, hZ⟩ : ∃ Z, D_X10_sow r2 f2 q2 z1 z2 z3 = Z := ⟨_, rfl⟩
  refine call_V (n := 3) (k0 := 0) (As := [.int z1, .int z2, .int z3]) (rest := []) hX hB (k_X10_sow κ l (cw κ a Y.2.2.1 Y.2.2.2.1 Y.2.2.2.2 ++ [Ot o n1 v1]) a2 r2 f2 q2 z1 z2 z3 hm _ _ _ _ (hZ.trans (te4 Z))) ⟨rfl, yk_X10_sow⟩ wm_6_2 wm_6_3 wm_6_4 wm_1_6 wm_6_5 ⟨Nat.le_of_ble_eq_true rfl, Nat.le_of_ble_eq_true rfl⟩ ⟨by show _ ≤ 600128; omega, by show _ ≤ 7301098; omega⟩ mw0 rfl rfl rfl hl.1 rfl (Nat.le_of_ble_eq_true rfl) dL_law_396 (fun o9 w' H locs hp hB => ?_)
  obtain ⟨a3, rfl, hf0, hf1, hf2, rfl⟩ := hp
  have hO : Ok Y Z := by rw [← hY, ← hZ]; exact sow_eq hr
  refine W.eq (g2 := F0 m 399 ls [.int Z.1]) rfl ?_
  refine lv_istore (lv' := [(6, .int Z.1), (5, .int x1), (0, .ref b), (1, .ref (a 0)), (2, .ref (a2 0)), (3, .ref o), (4, .int (nI (6 * i)))]) hx hb dL_law_399 hl0 (by decide) rfl (fun ls hl => ?_)
  have hl0 := hl
  replace hl : lv_has ls 7 (Lv b (a 0) (a2 0) o i) := lv_sub hl [2, 3, 4, 5, 6] rfl
  refine lv_goto (tgt := 1880) hx hb dL_law_401 (by decide) ?_
  replace hB := Lw_3 hB
  refine W.widen (k := cells + 100) (n := slots + 70000) (by omega) (by omega) ?_
  exact kk _ _ _ _ _ _ _ _ _ _ _ _ (ho hok) hf1 hO.1 hf0 hB hl
theorem dL_law_404 : decode cL_law 404 = .ok (.aload_n 1, 1) := dz_e0 dz_43 hI_L_law (by decide +kernel)
theorem dL_law_405 : decode cL_law 405 = .ok (.aload_n 0, 1) := dz_e0 dz_42 hI_L_law (by decide +kernel)
theorem dL_law_406 : decode cL_law 406 = .ok (.iload 4, 2) := dz_e1 dz_21 hI_L_law (by decide +kernel)
theorem dL_law_408 : decode cL_law 408 = .ok (.iconst 1, 1) := dz_e0 dz_4 hI_L_law (by decide +kernel)
theorem dL_law_409 : decode cL_law 409 = .ok (.iadd, 1) := dz_e0 dz_96 hI_L_law (by decide +kernel)
theorem dL_law_410 : decode cL_law 410 = .ok (.iaload, 1) := dz_e0 dz_46 hI_L_law (by decide +kernel)
theorem dL_law_411 : decode cL_law 411 = .ok (.aload_n 0, 1) := dz_e0 dz_42 hI_L_law (by decide +kernel)
theorem dL_law_412 : decode cL_law 412 = .ok (.iload 4, 2) := dz_e1 dz_21 hI_L_law (by decide +kernel)
theorem dL_law_414 : decode cL_law 414 = .ok (.iconst 2, 1) := dz_e0 dz_5 hI_L_law (by decide +kernel)
theorem dL_law_415 : decode cL_law 415 = .ok (.iadd, 1) := dz_e0 dz_96 hI_L_law (by decide +kernel)
theorem dL_law_416 : decode cL_law 416 = .ok (.iaload, 1) := dz_e0 dz_46 hI_L_law (by decide +kernel)
theorem dL_law_417 : decode cL_law 417 = .ok (.aload_n 3, 1) := dz_e0 dz_45 hI_L_law (by decide +kernel)
theorem dL_law_418 : decode cL_law 418 = .ok (.invokestatic 153, 3) := dz_e2 dz_184 hI_L_law (by decide +kernel)
theorem dL_law_421 : decode cL_law 421 = .ok (.istore 5, 2) := dz_e1 dz_54 hI_L_law (by decide +kernel)
theorem dL_law_423 : decode cL_law 423 = .ok (.aload_n 2, 1) := dz_e0 dz_44 hI_L_law (by decide +kernel)
theorem dL_law_424 : decode cL_law 424 = .ok (.aload_n 0, 1) := dz_e0 dz_42 hI_L_law (by decide +kernel)
theorem dL_law_425 : decode cL_law 425 = .ok (.iload 4, 2) := dz_e1 dz_21 hI_L_law (by decide +kernel)
theorem dL_law_427 : decode cL_law 427 = .ok (.iconst 1, 1) := dz_e0 dz_4 hI_L_law (by decide +kernel)
theorem dL_law_428 : decode cL_law 428 = .ok (.iadd, 1) := dz_e0 dz_96 hI_L_law (by decide +kernel)
theorem dL_law_429 : decode cL_law 429 = .ok (.iaload, 1) := dz_e0 dz_46 hI_L_law (by decide +kernel)
theorem dL_law_430 : decode cL_law 430 = .ok (.aload_n 0, 1) := dz_e0 dz_42 hI_L_law (by decide +kernel)
theorem dL_law_431 : decode cL_law 431 = .ok (.iload 4, 2) := dz_e1 dz_21 hI_L_law (by decide +kernel)
theorem dL_law_433 : decode cL_law 433 = .ok (.iconst 2, 1) := dz_e0 dz_5 hI_L_law (by decide +kernel)
theorem dL_law_434 : decode cL_law 434 = .ok (.iadd, 1) := dz_e0 dz_96 hI_L_law (by decide +kernel)
theorem dL_law_435 : decode cL_law 435 = .ok (.iaload, 1) := dz_e0 dz_46 hI_L_law (by decide +kernel)
theorem dL_law_436 : decode cL_law 436 = .ok (.invokevirtual 155, 3) := dz_e2 dz_182 hI_L_law (by decide +kernel)
theorem dL_law_439 : decode cL_law 439 = .ok (.istore 6, 2) := dz_e1 dz_54 hI_L_law (by decide +kernel)
theorem dL_law_441 : decode cL_law 441 = .ok (.goto 1439, 3) := dz_f2 dz_167 hI_L_law (by decide +kernel)
set_option maxHeartbeats 4000000 in
set_option maxRecDepth 100000 in
theorem lc_4 : Lc 404 := by
  intro κ p l e s m args below meth c A ret b L o i xs a a2 r2 r q q2 f f2 n v cells slots Q H locs ls hst hX hx9 hbl hbA hi hL hok hm hr hB hl hc hs kk
  have hx := hX.1.1
  have hb := hX.1.2.1
  refine lv_aload_n hx hb dL_law_404 rfl (lv_at hl 1 rfl) ?_
  obtain ⟨z1, e1⟩ : ∃ z, xs (6 * i + 1) = z := ⟨_, rfl⟩
  refine lv_scr (k := 1) hX hB hx9 hbl hbA hi hL hl dL_law_405 dL_law_406 dL_law_408 dL_law_409 dL_law_410 (by decide) (by decide) e1 ?_
  obtain ⟨z2, e2⟩ : ∃ z, xs (6 * i + 2) = z := ⟨_, rfl⟩
  refine lv_scr (k := 2) hX hB hx9 hbl hbA hi hL hl dL_law_411 dL_law_412 dL_law_414 dL_law_415 dL_law_416 (by decide) (by decide) e2 ?_
  refine lv_aload_n hx hb dL_law_417 rfl (lv_at hl 3 rfl) ?_
  replace hB := Lw_1 hB
  obtain ⟨Y, hY⟩ : ∃ Y, D_X5_copy r q f z1 z2 = Y := ⟨_, rfl⟩
  refine call_SW (n := 4) (As := [.ref (a 0), .int z1, .int z2, .ref o]) (rest := []) hX hB (CMW_frame (mw κ a2 r2 f2 q2 (tb a2) []) (w_copy κ l hst a r q f o n v z1 z2 hok Y hY)) yk_L_copy wm_3_67 wm_3_68 wm_1_0 wm_3_69 ⟨Nat.le_of_ble_eq_true rfl, Nat.le_of_ble_eq_true rfl⟩ ⟨by show _ ≤ 600128; omega, by show _ ≤ 7301098; omega⟩ rfl hl.1 rfl (Nat.le_of_ble_eq_true rfl) dL_law_418 (fun o9 w' H locs hp hB => ?_)
  obtain ⟨_, ⟨x1, n1, v1, rfl, ho, hq, hW, rfl⟩, rfl⟩ := hp
  refine W.eq (g2 := F0 m 421 ls [.int x1]) rfl ?_
  refine lv_istore (lv' := [(5, .int x1), (0, .ref b), (1, .ref (a 0)), (2, .ref (a2 0)), (3, .ref o), (4, .int (nI (6 * i)))]) hx hb dL_law_421 hl (by decide) rfl (fun ls hl => ?_)
  have hl0 := hl
  replace hl : lv_has ls 7 (Lv b (a 0) (a2 0) o i) := lv_sub hl [1, 2, 3, 4, 5] rfl
  refine lv_aload_n hx hb dL_law_423 rfl (lv_at hl 2 rfl) ?_
  refine lv_scr (k := 1) hX hB hx9 hbl hbA hi hL hl dL_law_424 dL_law_425 dL_law_427 dL_law_428 dL_law_429 (by decide) (by decide) e1 ?_
  refine lv_scr (k := 2) hX hB hx9 hbl hbA hi hL hl dL_law_430 dL_law_431 dL_law_433 dL_law_434 dL_law_435 (by decide) (by decide) e2 ?_
  replace hB := Lw_2 hB
  obtain ⟨Z, hZ⟩ : ∃ Z, D_X10_copy r2 f2 q2 z1 z2 = Z := ⟨_, rfl⟩
  refine call_V (n := 2) (k0 := 0) (As := [.int z1, .int z2]) (rest := []) hX hB (k_X10_copy κ l (cw κ a Y.2.2.1 Y.2.2.2.1 Y.2.2.2.2 ++ [Ot o n1 v1]) a2 r2 f2 q2 z1 z2 hm _ _ _ _ (hZ.trans (te4 Z))) ⟨rfl, yk_X10_copy⟩ wm_6_11 wm_6_12 wm_6_13 wm_1_6 wm_6_14 ⟨Nat.le_of_ble_eq_true rfl, Nat.le_of_ble_eq_true rfl⟩ ⟨by show _ ≤ 600128; omega, by show _ ≤ 7301098; omega⟩ mw0 rfl rfl rfl hl.1 rfl (Nat.le_of_ble_eq_true rfl) dL_law_436 (fun o9 w' H locs hp hB => ?_)
  obtain ⟨a3, rfl, hf0, hf1, hf2, rfl⟩ := hp
  have hO : Ok Y Z := by rw [← hY, ← hZ]; exact copy_eq hr
  refine W.eq (g2 := F0 m 439 ls [.int Z.1]) rfl ?_
  refine lv_istore (lv' := [(6, .int Z.1), (5, .int x1), (0, .ref b), (1, .ref (a 0)), (2, .ref (a2 0)), (3, .ref o), (4, .int (nI (6 * i)))]) hx hb dL_law_439 hl0 (by decide) rfl (fun ls hl => ?_)
  have hl0 := hl
  replace hl : lv_has ls 7 (Lv b (a 0) (a2 0) o i) := lv_sub hl [2, 3, 4, 5, 6] rfl
  refine lv_goto (tgt := 1880) hx hb dL_law_441 (by decide) ?_
  replace hB := Lw_3 hB
  refine W.widen (k := cells + 100) (n := slots + 70000) (by omega) (by omega) ?_
  exact kk _ _ _ _ _ _ _ _ _ _ _ _ (ho hok) hf1 hO.1 hf0 hB hl
theorem dL_law_444 : decode cL_law 444 = .ok (.aload_n 1, 1) := dz_e0 dz_43 hI_L_law (by decide +kernel)
theorem dL_law_445 : decode cL_law 445 = .ok (.aload_n 0, 1) := dz_e0 dz_42 hI_L_law (by decide +kernel)
theorem dL_law_446 : decode cL_law 446 = .ok (.iload 4, 2) := dz_e1 dz_21 hI_L_law (by decide +kernel)
theorem dL_law_448 : decode cL_law 448 = .ok (.iconst 1, 1) := dz_e0 dz_4 hI_L_law (by decide +kernel)
theorem dL_law_449 : decode cL_law 449 = .ok (.iadd, 1) := dz_e0 dz_96 hI_L_law (by decide +kernel)
theorem dL_law_450 : decode cL_law 450 = .ok (.iaload, 1) := dz_e0 dz_46 hI_L_law (by decide +kernel)
theorem dL_law_451 : decode cL_law 451 = .ok (.aload_n 0, 1) := dz_e0 dz_42 hI_L_law (by decide +kernel)
theorem dL_law_452 : decode cL_law 452 = .ok (.iload 4, 2) := dz_e1 dz_21 hI_L_law (by decide +kernel)
theorem dL_law_454 : decode cL_law 454 = .ok (.iconst 2, 1) := dz_e0 dz_5 hI_L_law (by decide +kernel)
theorem dL_law_455 : decode cL_law 455 = .ok (.iadd, 1) := dz_e0 dz_96 hI_L_law (by decide +kernel)
theorem dL_law_456 : decode cL_law 456 = .ok (.iaload, 1) := dz_e0 dz_46 hI_L_law (by decide +kernel)
theorem dL_law_457 : decode cL_law 457 = .ok (.aload_n 3, 1) := dz_e0 dz_45 hI_L_law (by decide +kernel)
theorem dL_law_458 : decode cL_law 458 = .ok (.invokestatic 156, 3) := dz_e2 dz_184 hI_L_law (by decide +kernel)
theorem dL_law_461 : decode cL_law 461 = .ok (.istore 5, 2) := dz_e1 dz_54 hI_L_law (by decide +kernel)
theorem dL_law_463 : decode cL_law 463 = .ok (.aload_n 2, 1) := dz_e0 dz_44 hI_L_law (by decide +kernel)
theorem dL_law_464 : decode cL_law 464 = .ok (.aload_n 0, 1) := dz_e0 dz_42 hI_L_law (by decide +kernel)
theorem dL_law_465 : decode cL_law 465 = .ok (.iload 4, 2) := dz_e1 dz_21 hI_L_law (by decide +kernel)
theorem dL_law_467 : decode cL_law 467 = .ok (.iconst 1, 1) := dz_e0 dz_4 hI_L_law (by decide +kernel)
theorem dL_law_468 : decode cL_law 468 = .ok (.iadd, 1) := dz_e0 dz_96 hI_L_law (by decide +kernel)
theorem dL_law_469 : decode cL_law 469 = .ok (.iaload, 1) := dz_e0 dz_46 hI_L_law (by decide +kernel)
theorem dL_law_470 : decode cL_law 470 = .ok (.aload_n 0, 1) := dz_e0 dz_42 hI_L_law (by decide +kernel)
theorem dL_law_471 : decode cL_law 471 = .ok (.iload 4, 2) := dz_e1 dz_21 hI_L_law (by decide +kernel)
theorem dL_law_473 : decode cL_law 473 = .ok (.iconst 2, 1) := dz_e0 dz_5 hI_L_law (by decide +kernel)
theorem dL_law_474 : decode cL_law 474 = .ok (.iadd, 1) := dz_e0 dz_96 hI_L_law (by decide +kernel)
theorem dL_law_475 : decode cL_law 475 = .ok (.iaload, 1) := dz_e0 dz_46 hI_L_law (by decide +kernel)
theorem dL_law_476 : decode cL_law 476 = .ok (.invokevirtual 158, 3) := dz_e2 dz_182 hI_L_law (by decide +kernel)
theorem dL_law_479 : decode cL_law 479 = .ok (.istore 6, 2) := dz_e1 dz_54 hI_L_law (by decide +kernel)
theorem dL_law_481 : decode cL_law 481 = .ok (.goto 1399, 3) := dz_f2 dz_167 hI_L_law (by decide +kernel)
set_option maxHeartbeats 4000000 in
set_option maxRecDepth 100000 in
theorem lc_5 : Lc 444 := by
  intro κ p l e s m args below meth c A ret b L o i xs a a2 r2 r q q2 f f2 n v cells slots Q H locs ls hst hX hx9 hbl hbA hi hL hok hm hr hB hl hc hs kk
  have hx := hX.1.1
  have hb := hX.1.2.1
  refine lv_aload_n hx hb dL_law_444 rfl (lv_at hl 1 rfl) ?_
  obtain ⟨z1, e1⟩ : ∃ z, xs (6 * i + 1) = z := ⟨_, rfl⟩
  refine lv_scr (k := 1) hX hB hx9 hbl hbA hi hL hl dL_law_445 dL_law_446 dL_law_448 dL_law_449 dL_law_450 (by decide) (by decide) e1 ?_
  obtain ⟨z2, e2⟩ : ∃ z, xs (6 * i + 2) = z := ⟨_, rfl⟩
  refine lv_scr (k := 2) hX hB hx9 hbl hbA hi hL hl dL_law_451 dL_law_452 dL_law_454 dL_law_455 dL_law_456 (by decide) (by decide) e2 ?_
  refine lv_aload_n hx hb dL_law_457 rfl (lv_at hl 3 rfl) ?_
  replace hB := Lw_1 hB
  obtain ⟨Y, hY⟩ : ∃ Y, D_X5_swap r q f z1 z2 = Y := ⟨_, rfl⟩
  refine call_SW (n := 4) (As := [.ref (a 0), .int z1, .int z2, .ref o]) (rest := []) hX hB (CMW_frame (mw κ a2 r2 f2 q2 (tb a2) []) (w_swap κ l hst a r q f o n v z1 z2 hok Y hY)) yk_L_swap wm_3_75 wm_3_76 wm_1_0 wm_3_77 ⟨Nat.le_of_ble_eq_true rfl, Nat.le_of_ble_eq_true rfl⟩ ⟨by show _ ≤ 600128; omega, by show _ ≤ 7301098; omega⟩ rfl hl.1 rfl (Nat.le_of_ble_eq_true rfl) dL_law_458 (fun o9 w' H locs hp hB => ?_)
  obtain ⟨_, ⟨x1, n1, v1, rfl, ho, hq, hW, rfl⟩, rfl⟩ := hp
  refine W.eq (g2 := F0 m 461 ls [.int x1]) rfl ?_
  refine lv_istore (lv' := [(5, .int x1), (0, .ref b), (1, .ref (a 0)), (2, .ref (a2 0)), (3, .ref o), (4, .int (nI (6 * i)))]) hx hb dL_law_461 hl (by decide) rfl (fun ls hl => ?_)
  have hl0 := hl
  replace hl : lv_has ls 7 (Lv b (a 0) (a2 0) o i) := lv_sub hl [1, 2, 3, 4, 5] rfl
  refine lv_aload_n hx hb dL_law_463 rfl (lv_at hl 2 rfl) ?_
  refine lv_scr (k := 1) hX hB hx9 hbl hbA hi hL hl dL_law_464 dL_law_465 dL_law_467 dL_law_468 dL_law_469 (by decide) (by decide) e1 ?_
  refine lv_scr (k := 2) hX hB hx9 hbl hbA hi hL hl dL_law_470 dL_law_471 dL_law_473 dL_law_474 dL_law_475 (by decide) (by decide) e2 ?_
  replace hB := Lw_2 hB
  obtain ⟨Z, hZ⟩ : ∃ Z, D_X10_swap r2 f2 q2 z1 z2 = Z := ⟨_, rfl⟩
  refine call_V (n := 2) (k0 := 0) (As := [.int z1, .int z2]) (rest := []) hX hB (k_X10_swap κ l (cw κ a Y.2.2.1 Y.2.2.2.1 Y.2.2.2.2 ++ [Ot o n1 v1]) a2 r2 f2 q2 z1 z2 hm _ _ _ _ (hZ.trans (te4 Z))) ⟨rfl, yk_X10_swap⟩ wm_6_27 wm_6_28 wm_6_29 wm_1_6 wm_6_30 ⟨Nat.le_of_ble_eq_true rfl, Nat.le_of_ble_eq_true rfl⟩ ⟨by show _ ≤ 600128; omega, by show _ ≤ 7301098; omega⟩ mw0 rfl rfl rfl hl.1 rfl (Nat.le_of_ble_eq_true rfl) dL_law_476 (fun o9 w' H locs hp hB => ?_)
  obtain ⟨a3, rfl, hf0, hf1, hf2, rfl⟩ := hp
  have hO : Ok Y Z := by rw [← hY, ← hZ]; exact swap_eq hr
  refine W.eq (g2 := F0 m 479 ls [.int Z.1]) rfl ?_
  refine lv_istore (lv' := [(6, .int Z.1), (5, .int x1), (0, .ref b), (1, .ref (a 0)), (2, .ref (a2 0)), (3, .ref o), (4, .int (nI (6 * i)))]) hx hb dL_law_479 hl0 (by decide) rfl (fun ls hl => ?_)
  have hl0 := hl
  replace hl : lv_has ls 7 (Lv b (a 0) (a2 0) o i) := lv_sub hl [2, 3, 4, 5, 6] rfl
  refine lv_goto (tgt := 1880) hx hb dL_law_481 (by decide) ?_
  replace hB := Lw_3 hB
  refine W.widen (k := cells + 100) (n := slots + 70000) (by omega) (by omega) ?_
  exact kk _ _ _ _ _ _ _ _ _ _ _ _ (ho hok) hf1 hO.1 hf0 hB hl
end
section
-- 93.lcase1
theorem dL_law_484 : decode cL_law 484 = .ok (.aload_n 1, 1) := dz_e0 dz_43 hI_L_law (by decide +kernel)
theorem dL_law_485 : decode cL_law 485 = .ok (.aload_n 0, 1) := dz_e0 dz_42 hI_L_law (by decide +kernel)
theorem dL_law_486 : decode cL_law 486 = .ok (.iload 4, 2) := dz_e1 dz_21 hI_L_law (by decide +kernel)
theorem dL_law_488 : decode cL_law 488 = .ok (.iconst 1, 1) := dz_e0 dz_4 hI_L_law (by decide +kernel)
theorem dL_law_489 : decode cL_law 489 = .ok (.iadd, 1) := dz_e0 dz_96 hI_L_law (by decide +kernel)
theorem dL_law_490 : decode cL_law 490 = .ok (.iaload, 1) := dz_e0 dz_46 hI_L_law (by decide +kernel)
theorem dL_law_491 : decode cL_law 491 = .ok (.aload_n 3, 1) := dz_e0 dz_45 hI_L_law (by decide +kernel)
theorem dL_law_492 : decode cL_law 492 = .ok (.invokestatic 159, 3) := dz_e2 dz_184 hI_L_law (by decide +kernel)
theorem dL_law_495 : decode cL_law 495 = .ok (.istore 5, 2) := dz_e1 dz_54 hI_L_law (by decide +kernel)
theorem dL_law_497 : decode cL_law 497 = .ok (.aload_n 2, 1) := dz_e0 dz_44 hI_L_law (by decide +kernel)
theorem dL_law_498 : decode cL_law 498 = .ok (.aload_n 0, 1) := dz_e0 dz_42 hI_L_law (by decide +kernel)
theorem dL_law_499 : decode cL_law 499 = .ok (.iload 4, 2) := dz_e1 dz_21 hI_L_law (by decide +kernel)
theorem dL_law_501 : decode cL_law 501 = .ok (.iconst 1, 1) := dz_e0 dz_4 hI_L_law (by decide +kernel)
theorem dL_law_502 : decode cL_law 502 = .ok (.iadd, 1) := dz_e0 dz_96 hI_L_law (by decide +kernel)
theorem dL_law_503 : decode cL_law 503 = .ok (.iaload, 1) := dz_e0 dz_46 hI_L_law (by decide +kernel)
theorem dL_law_504 : decode cL_law 504 = .ok (.invokevirtual 162, 3) := dz_e2 dz_182 hI_L_law (by decide +kernel)
theorem dL_law_507 : decode cL_law 507 = .ok (.istore 6, 2) := dz_e1 dz_54 hI_L_law (by decide +kernel)
theorem dL_law_509 : decode cL_law 509 = .ok (.goto 1371, 3) := dz_f2 dz_167 hI_L_law (by decide +kernel)
set_option maxHeartbeats 4000000 in
set_option maxRecDepth 100000 in
theorem lc_6 : Lc 484 := by
  intro κ p l e s m args below meth c A ret b L o i xs a a2 r2 r q q2 f f2 n v cells slots Q H locs ls hst hX hx9 hbl hbA hi hL hok hm hr hB hl hc hs kk
  have hx := hX.1.1
  have hb := hX.1.2.1
  refine lv_aload_n hx hb dL_law_484 rfl (lv_at hl 1 rfl) ?_
  obtain ⟨z1, e1⟩ : ∃ z, xs (6 * i + 1) = z := ⟨_, rfl⟩
  refine lv_scr (k := 1) hX hB hx9 hbl hbA hi hL hl dL_law_485 dL_law_486 dL_law_488 dL_law_489 dL_law_490 (by decide) (by decide) e1 ?_
  refine lv_aload_n hx hb dL_law_491 rfl (lv_at hl 3 rfl) ?_
  replace hB := Lw_1 hB
  obtain ⟨Y, hY⟩ : ∃ Y, D_X5_flip r q f z1 = Y := ⟨_, rfl⟩
  refine call_SW (n := 3) (As := [.ref (a 0), .int z1, .ref o]) (rest := []) hX hB (CMW_frame (mw κ a2 r2 f2 q2 (tb a2) []) (w_flip κ l hst a r q f o n v z1 hok Y hY)) yk_L_flip wm_3_82 wm_3_83 wm_1_0 wm_3_84 ⟨Nat.le_of_ble_eq_true rfl, Nat.le_of_ble_eq_true rfl⟩ ⟨by show _ ≤ 600128; omega, by show _ ≤ 7301098; omega⟩ rfl hl.1 rfl (Nat.le_of_ble_eq_true rfl) dL_law_492 (fun o9 w' H locs hp hB => ?_)
  obtain ⟨_, ⟨x1, n1, v1, rfl, ho, hq, hW, rfl⟩, rfl⟩ := hp
  refine W.eq (g2 := F0 m 495 ls [.int x1]) rfl ?_
  refine lv_istore (lv' := [(5, .int x1), (0, .ref b), (1, .ref (a 0)), (2, .ref (a2 0)), (3, .ref o), (4, .int (nI (6 * i)))]) hx hb dL_law_495 hl (by decide) rfl (fun ls hl => ?_)
  have hl0 := hl
  replace hl : lv_has ls 7 (Lv b (a 0) (a2 0) o i) := lv_sub hl [1, 2, 3, 4, 5] rfl
  refine lv_aload_n hx hb dL_law_497 rfl (lv_at hl 2 rfl) ?_
  refine lv_scr (k := 1) hX hB hx9 hbl hbA hi hL hl dL_law_498 dL_law_499 dL_law_501 dL_law_502 dL_law_503 (by decide) (by decide) e1 ?_
  replace hB := Lw_2 hB
  obtain ⟨Z, hZ⟩ : ∃ Z, D_X10_flip r2 f2 q2 z1 = Z := ⟨_, rfl⟩
  refine call_V (n := 1) (k0 := 0) (As := [.int z1]) (rest := []) hX hB (k_X10_flip κ l (cw κ a Y.2.2.1 Y.2.2.2.1 Y.2.2.2.2 ++ [Ot o n1 v1]) a2 r2 f2 q2 z1 hm _ _ _ _ (hZ.trans (te4 Z))) ⟨rfl, yk_X10_flip⟩ wm_6_31 wm_6_32 wm_6_33 wm_1_6 wm_6_34 ⟨Nat.le_of_ble_eq_true rfl, Nat.le_of_ble_eq_true rfl⟩ ⟨by show _ ≤ 600128; omega, by show _ ≤ 7301098; omega⟩ mw0 rfl rfl rfl hl.1 rfl (Nat.le_of_ble_eq_true rfl) dL_law_504 (fun o9 w' H locs hp hB => ?_)
  obtain ⟨a3, rfl, hf0, hf1, hf2, rfl⟩ := hp
  have hO : Ok Y Z := by rw [← hY, ← hZ]; exact flip_eq hr
  refine W.eq (g2 := F0 m 507 ls [.int Z.1]) rfl ?_
  refine lv_istore (lv' := [(6, .int Z.1), (5, .int x1), (0, .ref b), (1, .ref (a 0)), (2, .ref (a2 0)), (3, .ref o), (4, .int (nI (6 * i)))]) hx hb dL_law_507 hl0 (by decide) rfl (fun ls hl => ?_)
  have hl0 := hl
  replace hl : lv_has ls 7 (Lv b (a 0) (a2 0) o i) := lv_sub hl [2, 3, 4, 5, 6] rfl
  refine lv_goto (tgt := 1880) hx hb dL_law_509 (by decide) ?_
  replace hB := Lw_3 hB
  refine W.widen (k := cells + 100) (n := slots + 70000) (by omega) (by omega) ?_
  exact kk _ _ _ _ _ _ _ _ _ _ _ _ (ho hok) hf1 hO.1 hf0 hB hl
theorem dL_law_512 : decode cL_law 512 = .ok (.aload_n 1, 1) := dz_e0 dz_43 hI_L_law (by decide +kernel)
theorem dL_law_513 : decode cL_law 513 = .ok (.aload_n 0, 1) := dz_e0 dz_42 hI_L_law (by decide +kernel)
theorem dL_law_514 : decode cL_law 514 = .ok (.iload 4, 2) := dz_e1 dz_21 hI_L_law (by decide +kernel)
theorem dL_law_516 : decode cL_law 516 = .ok (.iconst 1, 1) := dz_e0 dz_4 hI_L_law (by decide +kernel)
theorem dL_law_517 : decode cL_law 517 = .ok (.iadd, 1) := dz_e0 dz_96 hI_L_law (by decide +kernel)
theorem dL_law_518 : decode cL_law 518 = .ok (.iaload, 1) := dz_e0 dz_46 hI_L_law (by decide +kernel)
theorem dL_law_519 : decode cL_law 519 = .ok (.aload_n 0, 1) := dz_e0 dz_42 hI_L_law (by decide +kernel)
theorem dL_law_520 : decode cL_law 520 = .ok (.iload 4, 2) := dz_e1 dz_21 hI_L_law (by decide +kernel)
theorem dL_law_522 : decode cL_law 522 = .ok (.iconst 2, 1) := dz_e0 dz_5 hI_L_law (by decide +kernel)
theorem dL_law_523 : decode cL_law 523 = .ok (.iadd, 1) := dz_e0 dz_96 hI_L_law (by decide +kernel)
theorem dL_law_524 : decode cL_law 524 = .ok (.iaload, 1) := dz_e0 dz_46 hI_L_law (by decide +kernel)
theorem dL_law_525 : decode cL_law 525 = .ok (.ifCond .eq 7, 3) := dz_f2 dz_153 hI_L_law (by decide +kernel)
theorem dL_law_528 : decode cL_law 528 = .ok (.iconst 1, 1) := dz_e0 dz_4 hI_L_law (by decide +kernel)
theorem dL_law_529 : decode cL_law 529 = .ok (.goto 4, 3) := dz_f2 dz_167 hI_L_law (by decide +kernel)
theorem dL_law_532 : decode cL_law 532 = .ok (.iconst 0, 1) := dz_e0 dz_3 hI_L_law (by decide +kernel)
theorem dL_law_533 : decode cL_law 533 = .ok (.aload_n 0, 1) := dz_e0 dz_42 hI_L_law (by decide +kernel)
theorem dL_law_534 : decode cL_law 534 = .ok (.iload 4, 2) := dz_e1 dz_21 hI_L_law (by decide +kernel)
theorem dL_law_536 : decode cL_law 536 = .ok (.iconst 3, 1) := dz_e0 dz_6 hI_L_law (by decide +kernel)
theorem dL_law_537 : decode cL_law 537 = .ok (.iadd, 1) := dz_e0 dz_96 hI_L_law (by decide +kernel)
theorem dL_law_538 : decode cL_law 538 = .ok (.iaload, 1) := dz_e0 dz_46 hI_L_law (by decide +kernel)
theorem dL_law_539 : decode cL_law 539 = .ok (.aload_n 0, 1) := dz_e0 dz_42 hI_L_law (by decide +kernel)
theorem dL_law_540 : decode cL_law 540 = .ok (.iload 4, 2) := dz_e1 dz_21 hI_L_law (by decide +kernel)
theorem dL_law_542 : decode cL_law 542 = .ok (.iconst 4, 1) := dz_e0 dz_7 hI_L_law (by decide +kernel)
theorem dL_law_543 : decode cL_law 543 = .ok (.iadd, 1) := dz_e0 dz_96 hI_L_law (by decide +kernel)
theorem dL_law_544 : decode cL_law 544 = .ok (.iaload, 1) := dz_e0 dz_46 hI_L_law (by decide +kernel)
theorem dL_law_545 : decode cL_law 545 = .ok (.aload_n 3, 1) := dz_e0 dz_45 hI_L_law (by decide +kernel)
theorem dL_law_546 : decode cL_law 546 = .ok (.invokestatic 163, 3) := dz_e2 dz_184 hI_L_law (by decide +kernel)
theorem dL_law_549 : decode cL_law 549 = .ok (.istore 5, 2) := dz_e1 dz_54 hI_L_law (by decide +kernel)
theorem dL_law_551 : decode cL_law 551 = .ok (.aload_n 2, 1) := dz_e0 dz_44 hI_L_law (by decide +kernel)
theorem dL_law_552 : decode cL_law 552 = .ok (.aload_n 0, 1) := dz_e0 dz_42 hI_L_law (by decide +kernel)
theorem dL_law_553 : decode cL_law 553 = .ok (.iload 4, 2) := dz_e1 dz_21 hI_L_law (by decide +kernel)
theorem dL_law_555 : decode cL_law 555 = .ok (.iconst 1, 1) := dz_e0 dz_4 hI_L_law (by decide +kernel)
theorem dL_law_556 : decode cL_law 556 = .ok (.iadd, 1) := dz_e0 dz_96 hI_L_law (by decide +kernel)
theorem dL_law_557 : decode cL_law 557 = .ok (.iaload, 1) := dz_e0 dz_46 hI_L_law (by decide +kernel)
theorem dL_law_558 : decode cL_law 558 = .ok (.aload_n 0, 1) := dz_e0 dz_42 hI_L_law (by decide +kernel)
theorem dL_law_559 : decode cL_law 559 = .ok (.iload 4, 2) := dz_e1 dz_21 hI_L_law (by decide +kernel)
theorem dL_law_561 : decode cL_law 561 = .ok (.iconst 2, 1) := dz_e0 dz_5 hI_L_law (by decide +kernel)
theorem dL_law_562 : decode cL_law 562 = .ok (.iadd, 1) := dz_e0 dz_96 hI_L_law (by decide +kernel)
theorem dL_law_563 : decode cL_law 563 = .ok (.iaload, 1) := dz_e0 dz_46 hI_L_law (by decide +kernel)
theorem dL_law_564 : decode cL_law 564 = .ok (.ifCond .eq 7, 3) := dz_f2 dz_153 hI_L_law (by decide +kernel)
theorem dL_law_567 : decode cL_law 567 = .ok (.iconst 1, 1) := dz_e0 dz_4 hI_L_law (by decide +kernel)
theorem dL_law_568 : decode cL_law 568 = .ok (.goto 4, 3) := dz_f2 dz_167 hI_L_law (by decide +kernel)
theorem dL_law_571 : decode cL_law 571 = .ok (.iconst 0, 1) := dz_e0 dz_3 hI_L_law (by decide +kernel)
theorem dL_law_572 : decode cL_law 572 = .ok (.aload_n 0, 1) := dz_e0 dz_42 hI_L_law (by decide +kernel)
theorem dL_law_573 : decode cL_law 573 = .ok (.iload 4, 2) := dz_e1 dz_21 hI_L_law (by decide +kernel)
theorem dL_law_575 : decode cL_law 575 = .ok (.iconst 3, 1) := dz_e0 dz_6 hI_L_law (by decide +kernel)
theorem dL_law_576 : decode cL_law 576 = .ok (.iadd, 1) := dz_e0 dz_96 hI_L_law (by decide +kernel)
theorem dL_law_577 : decode cL_law 577 = .ok (.iaload, 1) := dz_e0 dz_46 hI_L_law (by decide +kernel)
theorem dL_law_578 : decode cL_law 578 = .ok (.aload_n 0, 1) := dz_e0 dz_42 hI_L_law (by decide +kernel)
theorem dL_law_579 : decode cL_law 579 = .ok (.iload 4, 2) := dz_e1 dz_21 hI_L_law (by decide +kernel)
theorem dL_law_581 : decode cL_law 581 = .ok (.iconst 4, 1) := dz_e0 dz_7 hI_L_law (by decide +kernel)
theorem dL_law_582 : decode cL_law 582 = .ok (.iadd, 1) := dz_e0 dz_96 hI_L_law (by decide +kernel)
theorem dL_law_583 : decode cL_law 583 = .ok (.iaload, 1) := dz_e0 dz_46 hI_L_law (by decide +kernel)
theorem dL_law_584 : decode cL_law 584 = .ok (.invokevirtual 166, 3) := dz_e2 dz_182 hI_L_law (by decide +kernel)
theorem dL_law_587 : decode cL_law 587 = .ok (.istore 6, 2) := dz_e1 dz_54 hI_L_law (by decide +kernel)
theorem dL_law_589 : decode cL_law 589 = .ok (.goto 1291, 3) := dz_f2 dz_167 hI_L_law (by decide +kernel)
set_option maxHeartbeats 4000000 in
set_option maxRecDepth 100000 in
theorem lc_7 : Lc 512 := by
  intro κ p l e s m args below meth c A ret b L o i xs a a2 r2 r q q2 f f2 n v cells slots Q H locs ls hst hX hx9 hbl hbA hi hL hok hm hr hB hl hc hs kk
  have hx := hX.1.1
  have hb := hX.1.2.1
  refine lv_aload_n hx hb dL_law_512 rfl (lv_at hl 1 rfl) ?_
  obtain ⟨z1, e1⟩ : ∃ z, xs (6 * i + 1) = z := ⟨_, rfl⟩
  refine lv_scr (k := 1) hX hB hx9 hbl hbA hi hL hl dL_law_513 dL_law_514 dL_law_516 dL_law_517 dL_law_518 (by decide) (by decide) e1 ?_
  obtain ⟨z2, e2⟩ : ∃ z, xs (6 * i + 2) = z := ⟨_, rfl⟩
  refine lv_scr (k := 2) hX hB hx9 hbl hbA hi hL hl dL_law_519 dL_law_520 dL_law_522 dL_law_523 dL_law_524 (by decide) (by decide) e2 ?_
  obtain ⟨y2, dy2⟩ : ∃ z, bz z2 = z := ⟨_, rfl⟩
  refine lv_bool hX dL_law_525 dL_law_528 dL_law_529 dL_law_532 dy2 ?_
  obtain ⟨z3, e3⟩ : ∃ z, xs (6 * i + 3) = z := ⟨_, rfl⟩
  refine lv_scr (k := 3) hX hB hx9 hbl hbA hi hL hl dL_law_533 dL_law_534 dL_law_536 dL_law_537 dL_law_538 (by decide) (by decide) e3 ?_
  obtain ⟨z4, e4⟩ : ∃ z, xs (6 * i + 4) = z := ⟨_, rfl⟩
  refine lv_scr (k := 4) hX hB hx9 hbl hbA hi hL hl dL_law_539 dL_law_540 dL_law_542 dL_law_543 dL_law_544 (by decide) (by decide) e4 ?_
  refine lv_aload_n hx hb dL_law_545 rfl (lv_at hl 3 rfl) ?_
  replace hB := Lw_1 hB
  obtain ⟨Y, hY⟩ : ∃ Y, D_X5_exchange r q f z1 y2 z3 z4 = Y := ⟨_, rfl⟩
  refine call_SW (n := 6) (As := [.ref (a 0), .int z1, .int y2, .int z3, .int z4, .ref o]) (rest := []) hX hB (CMW_frame (mw κ a2 r2 f2 q2 (tb a2) []) (w_exchange κ l hst a r q f o n v z1 y2 z3 z4 hok Y hY)) yk_L_exchange wm_3_89 wm_3_90 wm_1_0 wm_3_91 ⟨Nat.le_of_ble_eq_true rfl, Nat.le_of_ble_eq_true rfl⟩ ⟨by show _ ≤ 600128; omega, by show _ ≤ 7301098; omega⟩ rfl hl.1 rfl (Nat.le_of_ble_eq_true rfl) dL_law_546 (fun o9 w' H locs hp hB => ?_)
  obtain ⟨_, ⟨x1, n1, v1, rfl, ho, hq, hW, rfl⟩, rfl⟩ := hp
  refine W.eq (g2 := F0 m 549 ls [.int x1]) rfl ?_
  refine lv_istore (lv' := [(5, .int x1), (0, .ref b), (1, .ref (a 0)), (2, .ref (a2 0)), (3, .ref o), (4, .int (nI (6 * i)))]) hx hb dL_law_549 hl (by decide) rfl (fun ls hl => ?_)
  have hl0 := hl
  replace hl : lv_has ls 7 (Lv b (a 0) (a2 0) o i) := lv_sub hl [1, 2, 3, 4, 5] rfl
  refine lv_aload_n hx hb dL_law_551 rfl (lv_at hl 2 rfl) ?_
  refine lv_scr (k := 1) hX hB hx9 hbl hbA hi hL hl dL_law_552 dL_law_553 dL_law_555 dL_law_556 dL_law_557 (by decide) (by decide) e1 ?_
  refine lv_scr (k := 2) hX hB hx9 hbl hbA hi hL hl dL_law_558 dL_law_559 dL_law_561 dL_law_562 dL_law_563 (by decide) (by decide) e2 ?_
  refine lv_bool hX dL_law_564 dL_law_567 dL_law_568 dL_law_571 dy2 ?_
  refine lv_scr (k := 3) hX hB hx9 hbl hbA hi hL hl dL_law_572 dL_law_573 dL_law_575 dL_law_576 dL_law_577 (by decide) (by decide) e3 ?_
  refine lv_scr (k := 4) hX hB hx9 hbl hbA hi hL hl dL_law_578 dL_law_579 dL_law_581 dL_law_582 dL_law_583 (by decide) (by decide) e4 ?_
  replace hB := Lw_2 hB
  obtain ⟨Z, hZ⟩ : ∃ Z, D_X10_exchange r2 f2 q2 z1 y2 z3 z4 = Z := ⟨_, rfl⟩
  refine call_V (n := 4) (k0 := 0) (As := [.int z1, .int y2, .int z3, .int z4]) (rest := []) hX hB (k_X10_exchange κ l (cw κ a Y.2.2.1 Y.2.2.2.1 Y.2.2.2.2 ++ [Ot o n1 v1]) a2 r2 f2 q2 z1 y2 z3 z4 hm _ _ _ _ (hZ.trans (te4 Z))) ⟨rfl, yk_X10_exchange⟩ wm_6_38 wm_6_39 wm_6_40 wm_1_6 wm_6_41 ⟨Nat.le_of_ble_eq_true rfl, Nat.le_of_ble_eq_true rfl⟩ ⟨by show _ ≤ 600128; omega, by show _ ≤ 7301098; omega⟩ mw0 rfl rfl rfl hl.1 rfl (Nat.le_of_ble_eq_true rfl) dL_law_584 (fun o9 w' H locs hp hB => ?_)
  obtain ⟨a3, rfl, hf0, hf1, hf2, rfl⟩ := hp
  have hO : Ok Y Z := by rw [← hY, ← hZ]; exact exchange_eq hr
  refine W.eq (g2 := F0 m 587 ls [.int Z.1]) rfl ?_
  refine lv_istore (lv' := [(6, .int Z.1), (5, .int x1), (0, .ref b), (1, .ref (a 0)), (2, .ref (a2 0)), (3, .ref o), (4, .int (nI (6 * i)))]) hx hb dL_law_587 hl0 (by decide) rfl (fun ls hl => ?_)
  have hl0 := hl
  replace hl : lv_has ls 7 (Lv b (a 0) (a2 0) o i) := lv_sub hl [2, 3, 4, 5, 6] rfl
  refine lv_goto (tgt := 1880) hx hb dL_law_589 (by decide) ?_
  replace hB := Lw_3 hB
  refine W.widen (k := cells + 100) (n := slots + 70000) (by omega) (by omega) ?_
  exact kk _ _ _ _ _ _ _ _ _ _ _ _ (ho hok) hf1 hO.1 hf0 hB hl
theorem dL_law_592 : decode cL_law 592 = .ok (.aload_n 1, 1) := dz_e0 dz_43 hI_L_law (by decide +kernel)
theorem dL_law_593 : decode cL_law 593 = .ok (.aload_n 0, 1) := dz_e0 dz_42 hI_L_law (by decide +kernel)
theorem dL_law_594 : decode cL_law 594 = .ok (.iload 4, 2) := dz_e1 dz_21 hI_L_law (by decide +kernel)
theorem dL_law_596 : decode cL_law 596 = .ok (.iconst 1, 1) := dz_e0 dz_4 hI_L_law (by decide +kernel)
theorem dL_law_597 : decode cL_law 597 = .ok (.iadd, 1) := dz_e0 dz_96 hI_L_law (by decide +kernel)
theorem dL_law_598 : decode cL_law 598 = .ok (.iaload, 1) := dz_e0 dz_46 hI_L_law (by decide +kernel)
theorem dL_law_599 : decode cL_law 599 = .ok (.aload_n 0, 1) := dz_e0 dz_42 hI_L_law (by decide +kernel)
theorem dL_law_600 : decode cL_law 600 = .ok (.iload 4, 2) := dz_e1 dz_21 hI_L_law (by decide +kernel)
theorem dL_law_602 : decode cL_law 602 = .ok (.iconst 2, 1) := dz_e0 dz_5 hI_L_law (by decide +kernel)
theorem dL_law_603 : decode cL_law 603 = .ok (.iadd, 1) := dz_e0 dz_96 hI_L_law (by decide +kernel)
theorem dL_law_604 : decode cL_law 604 = .ok (.iaload, 1) := dz_e0 dz_46 hI_L_law (by decide +kernel)
theorem dL_law_605 : decode cL_law 605 = .ok (.ifCond .eq 7, 3) := dz_f2 dz_153 hI_L_law (by decide +kernel)
theorem dL_law_608 : decode cL_law 608 = .ok (.iconst 1, 1) := dz_e0 dz_4 hI_L_law (by decide +kernel)
theorem dL_law_609 : decode cL_law 609 = .ok (.goto 4, 3) := dz_f2 dz_167 hI_L_law (by decide +kernel)
theorem dL_law_612 : decode cL_law 612 = .ok (.iconst 0, 1) := dz_e0 dz_3 hI_L_law (by decide +kernel)
theorem dL_law_613 : decode cL_law 613 = .ok (.aload_n 0, 1) := dz_e0 dz_42 hI_L_law (by decide +kernel)
theorem dL_law_614 : decode cL_law 614 = .ok (.iload 4, 2) := dz_e1 dz_21 hI_L_law (by decide +kernel)
theorem dL_law_616 : decode cL_law 616 = .ok (.iconst 3, 1) := dz_e0 dz_6 hI_L_law (by decide +kernel)
theorem dL_law_617 : decode cL_law 617 = .ok (.iadd, 1) := dz_e0 dz_96 hI_L_law (by decide +kernel)
theorem dL_law_618 : decode cL_law 618 = .ok (.iaload, 1) := dz_e0 dz_46 hI_L_law (by decide +kernel)
theorem dL_law_619 : decode cL_law 619 = .ok (.aload_n 3, 1) := dz_e0 dz_45 hI_L_law (by decide +kernel)
theorem dL_law_620 : decode cL_law 620 = .ok (.invokestatic 167, 3) := dz_e2 dz_184 hI_L_law (by decide +kernel)
theorem dL_law_623 : decode cL_law 623 = .ok (.istore 5, 2) := dz_e1 dz_54 hI_L_law (by decide +kernel)
theorem dL_law_625 : decode cL_law 625 = .ok (.aload_n 2, 1) := dz_e0 dz_44 hI_L_law (by decide +kernel)
theorem dL_law_626 : decode cL_law 626 = .ok (.aload_n 0, 1) := dz_e0 dz_42 hI_L_law (by decide +kernel)
theorem dL_law_627 : decode cL_law 627 = .ok (.iload 4, 2) := dz_e1 dz_21 hI_L_law (by decide +kernel)
theorem dL_law_629 : decode cL_law 629 = .ok (.iconst 1, 1) := dz_e0 dz_4 hI_L_law (by decide +kernel)
theorem dL_law_630 : decode cL_law 630 = .ok (.iadd, 1) := dz_e0 dz_96 hI_L_law (by decide +kernel)
theorem dL_law_631 : decode cL_law 631 = .ok (.iaload, 1) := dz_e0 dz_46 hI_L_law (by decide +kernel)
theorem dL_law_632 : decode cL_law 632 = .ok (.aload_n 0, 1) := dz_e0 dz_42 hI_L_law (by decide +kernel)
theorem dL_law_633 : decode cL_law 633 = .ok (.iload 4, 2) := dz_e1 dz_21 hI_L_law (by decide +kernel)
theorem dL_law_635 : decode cL_law 635 = .ok (.iconst 2, 1) := dz_e0 dz_5 hI_L_law (by decide +kernel)
theorem dL_law_636 : decode cL_law 636 = .ok (.iadd, 1) := dz_e0 dz_96 hI_L_law (by decide +kernel)
theorem dL_law_637 : decode cL_law 637 = .ok (.iaload, 1) := dz_e0 dz_46 hI_L_law (by decide +kernel)
theorem dL_law_638 : decode cL_law 638 = .ok (.ifCond .eq 7, 3) := dz_f2 dz_153 hI_L_law (by decide +kernel)
theorem dL_law_641 : decode cL_law 641 = .ok (.iconst 1, 1) := dz_e0 dz_4 hI_L_law (by decide +kernel)
theorem dL_law_642 : decode cL_law 642 = .ok (.goto 4, 3) := dz_f2 dz_167 hI_L_law (by decide +kernel)
theorem dL_law_645 : decode cL_law 645 = .ok (.iconst 0, 1) := dz_e0 dz_3 hI_L_law (by decide +kernel)
theorem dL_law_646 : decode cL_law 646 = .ok (.aload_n 0, 1) := dz_e0 dz_42 hI_L_law (by decide +kernel)
theorem dL_law_647 : decode cL_law 647 = .ok (.iload 4, 2) := dz_e1 dz_21 hI_L_law (by decide +kernel)
theorem dL_law_649 : decode cL_law 649 = .ok (.iconst 3, 1) := dz_e0 dz_6 hI_L_law (by decide +kernel)
theorem dL_law_650 : decode cL_law 650 = .ok (.iadd, 1) := dz_e0 dz_96 hI_L_law (by decide +kernel)
theorem dL_law_651 : decode cL_law 651 = .ok (.iaload, 1) := dz_e0 dz_46 hI_L_law (by decide +kernel)
theorem dL_law_652 : decode cL_law 652 = .ok (.invokevirtual 170, 3) := dz_e2 dz_182 hI_L_law (by decide +kernel)
theorem dL_law_655 : decode cL_law 655 = .ok (.istore 6, 2) := dz_e1 dz_54 hI_L_law (by decide +kernel)
theorem dL_law_657 : decode cL_law 657 = .ok (.goto 1223, 3) := dz_f2 dz_167 hI_L_law (by decide +kernel)
set_option maxHeartbeats 4000000 in
set_option maxRecDepth 100000 in
theorem lc_8 : Lc 592 := by
  intro κ p l e s m args below meth c A ret b L o i xs a a2 r2 r q q2 f f2 n v cells slots Q H locs ls hst hX hx9 hbl hbA hi hL hok hm hr hB hl hc hs kk
  have hx := hX.1.1
  have hb := hX.1.2.1
  refine lv_aload_n hx hb dL_law_592 rfl (lv_at hl 1 rfl) ?_
  obtain ⟨z1, e1⟩ : ∃ z, xs (6 * i + 1) = z := ⟨_, rfl⟩
  refine lv_scr (k := 1) hX hB hx9 hbl hbA hi hL hl dL_law_593 dL_law_594 dL_law_596 dL_law_597 dL_law_598 (by decide) (by decide) e1 ?_
  obtain ⟨z2, e2⟩ : ∃ z, xs (6 * i + 2) = z := ⟨_, rfl⟩
  refine lv_scr (k := 2) hX hB hx9 hbl hbA hi hL hl dL_law_599 dL_law_600 dL_law_602 dL_law_603 dL_law_604 (by decide) (by decide) e2 ?_
  obtain ⟨y2, dy2⟩ : ∃ z, bz z2 = z := ⟨_, rfl⟩
  refine lv_bool hX dL_law_605 dL_law_608 dL_law_609 dL_law_612 dy2 ?_
  obtain ⟨z3, e3⟩ : ∃ z, xs (6 * i + 3) = z := ⟨_, rfl⟩
  refine lv_scr (k := 3) hX hB hx9 hbl hbA hi hL hl dL_law_613 dL_law_614 dL_law_616 dL_law_617 dL_law_618 (by decide) (by decide) e3 ?_
  refine lv_aload_n hx hb dL_law_619 rfl (lv_at hl 3 rfl) ?_
  replace hB := Lw_1 hB
  obtain ⟨Y, hY⟩ : ∃ Y, D_X5_turn r q f z1 y2 z3 = Y := ⟨_, rfl⟩
  refine call_SW (n := 5) (As := [.ref (a 0), .int z1, .int y2, .int z3, .ref o]) (rest := []) hX hB (CMW_frame (mw κ a2 r2 f2 q2 (tb a2) []) (w_turn κ l hst a r q f o n v z1 y2 z3 hok Y hY)) yk_L_turn wm_3_108 wm_3_109 wm_1_0 wm_3_110 ⟨Nat.le_of_ble_eq_true rfl, Nat.le_of_ble_eq_true rfl⟩ ⟨by show _ ≤ 600128; omega, by show _ ≤ 7301098; omega⟩ rfl hl.1 rfl (Nat.le_of_ble_eq_true rfl) dL_law_620 (fun o9 w' H locs hp hB => ?_)
  obtain ⟨_, ⟨x1, n1, v1, rfl, ho, hq, hW, rfl⟩, rfl⟩ := hp
  refine W.eq (g2 := F0 m 623 ls [.int x1]) rfl ?_
  refine lv_istore (lv' := [(5, .int x1), (0, .ref b), (1, .ref (a 0)), (2, .ref (a2 0)), (3, .ref o), (4, .int (nI (6 * i)))]) hx hb dL_law_623 hl (by decide) rfl (fun ls hl => ?_)
  have hl0 := hl
  replace hl : lv_has ls 7 (Lv b (a 0) (a2 0) o i) := lv_sub hl [1, 2, 3, 4, 5] rfl
  refine lv_aload_n hx hb dL_law_625 rfl (lv_at hl 2 rfl) ?_
  refine lv_scr (k := 1) hX hB hx9 hbl hbA hi hL hl dL_law_626 dL_law_627 dL_law_629 dL_law_630 dL_law_631 (by decide) (by decide) e1 ?_
  refine lv_scr (k := 2) hX hB hx9 hbl hbA hi hL hl dL_law_632 dL_law_633 dL_law_635 dL_law_636 dL_law_637 (by decide) (by decide) e2 ?_
  refine lv_bool hX dL_law_638 dL_law_641 dL_law_642 dL_law_645 dy2 ?_
  refine lv_scr (k := 3) hX hB hx9 hbl hbA hi hL hl dL_law_646 dL_law_647 dL_law_649 dL_law_650 dL_law_651 (by decide) (by decide) e3 ?_
  replace hB := Lw_2 hB
  obtain ⟨Z, hZ⟩ : ∃ Z, D_X10_turn r2 f2 q2 z1 y2 z3 = Z := ⟨_, rfl⟩
  refine call_V (n := 3) (k0 := 0) (As := [.int z1, .int y2, .int z3]) (rest := []) hX hB (k_X10_turn κ l (cw κ a Y.2.2.1 Y.2.2.2.1 Y.2.2.2.2 ++ [Ot o n1 v1]) a2 r2 f2 q2 z1 y2 z3 hm _ _ _ _ (hZ.trans (te4 Z))) ⟨rfl, yk_X10_turn⟩ wm_6_63 wm_6_64 wm_6_65 wm_1_6 wm_6_66 ⟨Nat.le_of_ble_eq_true rfl, Nat.le_of_ble_eq_true rfl⟩ ⟨by show _ ≤ 600128; omega, by show _ ≤ 7301098; omega⟩ mw0 rfl rfl rfl hl.1 rfl (Nat.le_of_ble_eq_true rfl) dL_law_652 (fun o9 w' H locs hp hB => ?_)
  obtain ⟨a3, rfl, hf0, hf1, hf2, rfl⟩ := hp
  have hO : Ok Y Z := by rw [← hY, ← hZ]; exact turn_eq hr
  refine W.eq (g2 := F0 m 655 ls [.int Z.1]) rfl ?_
  refine lv_istore (lv' := [(6, .int Z.1), (5, .int x1), (0, .ref b), (1, .ref (a 0)), (2, .ref (a2 0)), (3, .ref o), (4, .int (nI (6 * i)))]) hx hb dL_law_655 hl0 (by decide) rfl (fun ls hl => ?_)
  have hl0 := hl
  replace hl : lv_has ls 7 (Lv b (a 0) (a2 0) o i) := lv_sub hl [2, 3, 4, 5, 6] rfl
  refine lv_goto (tgt := 1880) hx hb dL_law_657 (by decide) ?_
  replace hB := Lw_3 hB
  refine W.widen (k := cells + 100) (n := slots + 70000) (by omega) (by omega) ?_
  exact kk _ _ _ _ _ _ _ _ _ _ _ _ (ho hok) hf1 hO.1 hf0 hB hl
theorem dL_law_660 : decode cL_law 660 = .ok (.aload_n 1, 1) := dz_e0 dz_43 hI_L_law (by decide +kernel)
theorem dL_law_661 : decode cL_law 661 = .ok (.aload_n 0, 1) := dz_e0 dz_42 hI_L_law (by decide +kernel)
theorem dL_law_662 : decode cL_law 662 = .ok (.iload 4, 2) := dz_e1 dz_21 hI_L_law (by decide +kernel)
theorem dL_law_664 : decode cL_law 664 = .ok (.iconst 1, 1) := dz_e0 dz_4 hI_L_law (by decide +kernel)
theorem dL_law_665 : decode cL_law 665 = .ok (.iadd, 1) := dz_e0 dz_96 hI_L_law (by decide +kernel)
theorem dL_law_666 : decode cL_law 666 = .ok (.iaload, 1) := dz_e0 dz_46 hI_L_law (by decide +kernel)
theorem dL_law_667 : decode cL_law 667 = .ok (.aload_n 0, 1) := dz_e0 dz_42 hI_L_law (by decide +kernel)
theorem dL_law_668 : decode cL_law 668 = .ok (.iload 4, 2) := dz_e1 dz_21 hI_L_law (by decide +kernel)
theorem dL_law_670 : decode cL_law 670 = .ok (.iconst 2, 1) := dz_e0 dz_5 hI_L_law (by decide +kernel)
theorem dL_law_671 : decode cL_law 671 = .ok (.iadd, 1) := dz_e0 dz_96 hI_L_law (by decide +kernel)
theorem dL_law_672 : decode cL_law 672 = .ok (.iaload, 1) := dz_e0 dz_46 hI_L_law (by decide +kernel)
theorem dL_law_673 : decode cL_law 673 = .ok (.ifCond .eq 7, 3) := dz_f2 dz_153 hI_L_law (by decide +kernel)
theorem dL_law_676 : decode cL_law 676 = .ok (.iconst 1, 1) := dz_e0 dz_4 hI_L_law (by decide +kernel)
theorem dL_law_677 : decode cL_law 677 = .ok (.goto 4, 3) := dz_f2 dz_167 hI_L_law (by decide +kernel)
theorem dL_law_680 : decode cL_law 680 = .ok (.iconst 0, 1) := dz_e0 dz_3 hI_L_law (by decide +kernel)
theorem dL_law_681 : decode cL_law 681 = .ok (.aload_n 0, 1) := dz_e0 dz_42 hI_L_law (by decide +kernel)
theorem dL_law_682 : decode cL_law 682 = .ok (.iload 4, 2) := dz_e1 dz_21 hI_L_law (by decide +kernel)
theorem dL_law_684 : decode cL_law 684 = .ok (.iconst 3, 1) := dz_e0 dz_6 hI_L_law (by decide +kernel)
theorem dL_law_685 : decode cL_law 685 = .ok (.iadd, 1) := dz_e0 dz_96 hI_L_law (by decide +kernel)
theorem dL_law_686 : decode cL_law 686 = .ok (.iaload, 1) := dz_e0 dz_46 hI_L_law (by decide +kernel)
theorem dL_law_687 : decode cL_law 687 = .ok (.aload_n 0, 1) := dz_e0 dz_42 hI_L_law (by decide +kernel)
theorem dL_law_688 : decode cL_law 688 = .ok (.iload 4, 2) := dz_e1 dz_21 hI_L_law (by decide +kernel)
theorem dL_law_690 : decode cL_law 690 = .ok (.iconst 4, 1) := dz_e0 dz_7 hI_L_law (by decide +kernel)
theorem dL_law_691 : decode cL_law 691 = .ok (.iadd, 1) := dz_e0 dz_96 hI_L_law (by decide +kernel)
theorem dL_law_692 : decode cL_law 692 = .ok (.iaload, 1) := dz_e0 dz_46 hI_L_law (by decide +kernel)
theorem dL_law_693 : decode cL_law 693 = .ok (.aload_n 0, 1) := dz_e0 dz_42 hI_L_law (by decide +kernel)
theorem dL_law_694 : decode cL_law 694 = .ok (.iload 4, 2) := dz_e1 dz_21 hI_L_law (by decide +kernel)
theorem dL_law_696 : decode cL_law 696 = .ok (.iconst 5, 1) := dz_e0 dz_8 hI_L_law (by decide +kernel)
theorem dL_law_697 : decode cL_law 697 = .ok (.iadd, 1) := dz_e0 dz_96 hI_L_law (by decide +kernel)
theorem dL_law_698 : decode cL_law 698 = .ok (.iaload, 1) := dz_e0 dz_46 hI_L_law (by decide +kernel)
theorem dL_law_699 : decode cL_law 699 = .ok (.aload_n 3, 1) := dz_e0 dz_45 hI_L_law (by decide +kernel)
theorem dL_law_700 : decode cL_law 700 = .ok (.invokestatic 171, 3) := dz_e2 dz_184 hI_L_law (by decide +kernel)
theorem dL_law_703 : decode cL_law 703 = .ok (.istore 5, 2) := dz_e1 dz_54 hI_L_law (by decide +kernel)
theorem dL_law_705 : decode cL_law 705 = .ok (.aload_n 2, 1) := dz_e0 dz_44 hI_L_law (by decide +kernel)
theorem dL_law_706 : decode cL_law 706 = .ok (.aload_n 0, 1) := dz_e0 dz_42 hI_L_law (by decide +kernel)
theorem dL_law_707 : decode cL_law 707 = .ok (.iload 4, 2) := dz_e1 dz_21 hI_L_law (by decide +kernel)
theorem dL_law_709 : decode cL_law 709 = .ok (.iconst 1, 1) := dz_e0 dz_4 hI_L_law (by decide +kernel)
theorem dL_law_710 : decode cL_law 710 = .ok (.iadd, 1) := dz_e0 dz_96 hI_L_law (by decide +kernel)
theorem dL_law_711 : decode cL_law 711 = .ok (.iaload, 1) := dz_e0 dz_46 hI_L_law (by decide +kernel)
theorem dL_law_712 : decode cL_law 712 = .ok (.aload_n 0, 1) := dz_e0 dz_42 hI_L_law (by decide +kernel)
theorem dL_law_713 : decode cL_law 713 = .ok (.iload 4, 2) := dz_e1 dz_21 hI_L_law (by decide +kernel)
theorem dL_law_715 : decode cL_law 715 = .ok (.iconst 2, 1) := dz_e0 dz_5 hI_L_law (by decide +kernel)
theorem dL_law_716 : decode cL_law 716 = .ok (.iadd, 1) := dz_e0 dz_96 hI_L_law (by decide +kernel)
theorem dL_law_717 : decode cL_law 717 = .ok (.iaload, 1) := dz_e0 dz_46 hI_L_law (by decide +kernel)
theorem dL_law_718 : decode cL_law 718 = .ok (.ifCond .eq 7, 3) := dz_f2 dz_153 hI_L_law (by decide +kernel)
theorem dL_law_721 : decode cL_law 721 = .ok (.iconst 1, 1) := dz_e0 dz_4 hI_L_law (by decide +kernel)
theorem dL_law_722 : decode cL_law 722 = .ok (.goto 4, 3) := dz_f2 dz_167 hI_L_law (by decide +kernel)
theorem dL_law_725 : decode cL_law 725 = .ok (.iconst 0, 1) := dz_e0 dz_3 hI_L_law (by decide +kernel)
theorem dL_law_726 : decode cL_law 726 = .ok (.aload_n 0, 1) := dz_e0 dz_42 hI_L_law (by decide +kernel)
theorem dL_law_727 : decode cL_law 727 = .ok (.iload 4, 2) := dz_e1 dz_21 hI_L_law (by decide +kernel)
theorem dL_law_729 : decode cL_law 729 = .ok (.iconst 3, 1) := dz_e0 dz_6 hI_L_law (by decide +kernel)
theorem dL_law_730 : decode cL_law 730 = .ok (.iadd, 1) := dz_e0 dz_96 hI_L_law (by decide +kernel)
theorem dL_law_731 : decode cL_law 731 = .ok (.iaload, 1) := dz_e0 dz_46 hI_L_law (by decide +kernel)
theorem dL_law_732 : decode cL_law 732 = .ok (.aload_n 0, 1) := dz_e0 dz_42 hI_L_law (by decide +kernel)
theorem dL_law_733 : decode cL_law 733 = .ok (.iload 4, 2) := dz_e1 dz_21 hI_L_law (by decide +kernel)
theorem dL_law_735 : decode cL_law 735 = .ok (.iconst 4, 1) := dz_e0 dz_7 hI_L_law (by decide +kernel)
theorem dL_law_736 : decode cL_law 736 = .ok (.iadd, 1) := dz_e0 dz_96 hI_L_law (by decide +kernel)
theorem dL_law_737 : decode cL_law 737 = .ok (.iaload, 1) := dz_e0 dz_46 hI_L_law (by decide +kernel)
theorem dL_law_738 : decode cL_law 738 = .ok (.aload_n 0, 1) := dz_e0 dz_42 hI_L_law (by decide +kernel)
theorem dL_law_739 : decode cL_law 739 = .ok (.iload 4, 2) := dz_e1 dz_21 hI_L_law (by decide +kernel)
theorem dL_law_741 : decode cL_law 741 = .ok (.iconst 5, 1) := dz_e0 dz_8 hI_L_law (by decide +kernel)
theorem dL_law_742 : decode cL_law 742 = .ok (.iadd, 1) := dz_e0 dz_96 hI_L_law (by decide +kernel)
theorem dL_law_743 : decode cL_law 743 = .ok (.iaload, 1) := dz_e0 dz_46 hI_L_law (by decide +kernel)
theorem dL_law_744 : decode cL_law 744 = .ok (.invokevirtual 174, 3) := dz_e2 dz_182 hI_L_law (by decide +kernel)
theorem dL_law_747 : decode cL_law 747 = .ok (.istore 6, 2) := dz_e1 dz_54 hI_L_law (by decide +kernel)
theorem dL_law_749 : decode cL_law 749 = .ok (.goto 1131, 3) := dz_f2 dz_167 hI_L_law (by decide +kernel)
set_option maxHeartbeats 4000000 in
set_option maxRecDepth 100000 in
theorem lc_9 : Lc 660 := by
  intro κ p l e s m args below meth c A ret b L o i xs a a2 r2 r q q2 f f2 n v cells slots Q H locs ls hst hX hx9 hbl hbA hi hL hok hm hr hB hl hc hs kk
  have hx := hX.1.1
  have hb := hX.1.2.1
  refine lv_aload_n hx hb dL_law_660 rfl (lv_at hl 1 rfl) ?_
  obtain ⟨z1, e1⟩ : ∃ z, xs (6 * i + 1) = z := ⟨_, rfl⟩
  refine lv_scr (k := 1) hX hB hx9 hbl hbA hi hL hl dL_law_661 dL_law_662 dL_law_664 dL_law_665 dL_law_666 (by decide) (by decide) e1 ?_
  obtain ⟨z2, e2⟩ : ∃ z, xs (6 * i + 2) = z := ⟨_, rfl⟩
  refine lv_scr (k := 2) hX hB hx9 hbl hbA hi hL hl dL_law_667 dL_law_668 dL_law_670 dL_law_671 dL_law_672 (by decide) (by decide) e2 ?_
  obtain ⟨y2, dy2⟩ : ∃ z, bz z2 = z := ⟨_, rfl⟩
  refine lv_bool hX dL_law_673 dL_law_676 dL_law_677 dL_law_680 dy2 ?_
  obtain ⟨z3, e3⟩ : ∃ z, xs (6 * i + 3) = z := ⟨_, rfl⟩
  refine lv_scr (k := 3) hX hB hx9 hbl hbA hi hL hl dL_law_681 dL_law_682 dL_law_684 dL_law_685 dL_law_686 (by decide) (by decide) e3 ?_
  obtain ⟨z4, e4⟩ : ∃ z, xs (6 * i + 4) = z := ⟨_, rfl⟩
  refine lv_scr (k := 4) hX hB hx9 hbl hbA hi hL hl dL_law_687 dL_law_688 dL_law_690 dL_law_691 dL_law_692 (by decide) (by decide) e4 ?_
  obtain ⟨z5, e5⟩ : ∃ z, xs (6 * i + 5) = z := ⟨_, rfl⟩
  refine lv_scr (k := 5) hX hB hx9 hbl hbA hi hL hl dL_law_693 dL_law_694 dL_law_696 dL_law_697 dL_law_698 (by decide) (by decide) e5 ?_
  refine lv_aload_n hx hb dL_law_699 rfl (lv_at hl 3 rfl) ?_
  replace hB := Lw_1 hB
  obtain ⟨Y, hY⟩ : ∃ Y, D_X5_add r q f z1 y2 z3 z4 z5 = Y := ⟨_, rfl⟩
  refine call_SW (n := 7) (As := [.ref (a 0), .int z1, .int y2, .int z3, .int z4, .int z5, .ref o]) (rest := []) hX hB (CMW_frame (mw κ a2 r2 f2 q2 (tb a2) []) (w_add κ l hst a r q f o n v z1 y2 z3 z4 z5 hok Y hY)) yk_L_add wm_3_116 wm_3_117 wm_1_0 wm_3_118 ⟨Nat.le_of_ble_eq_true rfl, Nat.le_of_ble_eq_true rfl⟩ ⟨by show _ ≤ 600128; omega, by show _ ≤ 7301098; omega⟩ rfl hl.1 rfl (Nat.le_of_ble_eq_true rfl) dL_law_700 (fun o9 w' H locs hp hB => ?_)
  obtain ⟨_, ⟨x1, n1, v1, rfl, ho, hq, hW, rfl⟩, rfl⟩ := hp
  refine W.eq (g2 := F0 m 703 ls [.int x1]) rfl ?_
  refine lv_istore (lv' := [(5, .int x1), (0, .ref b), (1, .ref (a 0)), (2, .ref (a2 0)), (3, .ref o), (4, .int (nI (6 * i)))]) hx hb dL_law_703 hl (by decide) rfl (fun ls hl => ?_)
  have hl0 := hl
  replace hl : lv_has ls 7 (Lv b (a 0) (a2 0) o i) := lv_sub hl [1, 2, 3, 4, 5] rfl
  refine lv_aload_n hx hb dL_law_705 rfl (lv_at hl 2 rfl) ?_
  refine lv_scr (k := 1) hX hB hx9 hbl hbA hi hL hl dL_law_706 dL_law_707 dL_law_709 dL_law_710 dL_law_711 (by decide) (by decide) e1 ?_
  refine lv_scr (k := 2) hX hB hx9 hbl hbA hi hL hl dL_law_712 dL_law_713 dL_law_715 dL_law_716 dL_law_717 (by decide) (by decide) e2 ?_
  refine lv_bool hX dL_law_718 dL_law_721 dL_law_722 dL_law_725 dy2 ?_
  refine lv_scr (k := 3) hX hB hx9 hbl hbA hi hL hl dL_law_726 dL_law_727 dL_law_729 dL_law_730 dL_law_731 (by decide) (by decide) e3 ?_
  refine lv_scr (k := 4) hX hB hx9 hbl hbA hi hL hl dL_law_732 dL_law_733 dL_law_735 dL_law_736 dL_law_737 (by decide) (by decide) e4 ?_
  refine lv_scr (k := 5) hX hB hx9 hbl hbA hi hL hl dL_law_738 dL_law_739 dL_law_741 dL_law_742 dL_law_743 (by decide) (by decide) e5 ?_
  replace hB := Lw_2 hB
  obtain ⟨Z, hZ⟩ : ∃ Z, D_X10_add r2 f2 q2 z1 y2 z3 z4 z5 = Z := ⟨_, rfl⟩
  refine call_V (n := 5) (k0 := 0) (As := [.int z1, .int y2, .int z3, .int z4, .int z5]) (rest := []) hX hB (k_X10_add κ l (cw κ a Y.2.2.1 Y.2.2.2.1 Y.2.2.2.2 ++ [Ot o n1 v1]) a2 r2 f2 q2 z1 y2 z3 z4 z5 hm _ _ _ _ (hZ.trans (te4 Z))) ⟨rfl, yk_X10_add⟩ wm_6_71 wm_6_72 wm_6_73 wm_1_6 wm_6_74 ⟨Nat.le_of_ble_eq_true rfl, Nat.le_of_ble_eq_true rfl⟩ ⟨by show _ ≤ 600128; omega, by show _ ≤ 7301098; omega⟩ mw0 rfl rfl rfl hl.1 rfl (Nat.le_of_ble_eq_true rfl) dL_law_744 (fun o9 w' H locs hp hB => ?_)
  obtain ⟨a3, rfl, hf0, hf1, hf2, rfl⟩ := hp
  have hO : Ok Y Z := by rw [← hY, ← hZ]; exact add_eq hr
  refine W.eq (g2 := F0 m 747 ls [.int Z.1]) rfl ?_
  refine lv_istore (lv' := [(6, .int Z.1), (5, .int x1), (0, .ref b), (1, .ref (a 0)), (2, .ref (a2 0)), (3, .ref o), (4, .int (nI (6 * i)))]) hx hb dL_law_747 hl0 (by decide) rfl (fun ls hl => ?_)
  have hl0 := hl
  replace hl : lv_has ls 7 (Lv b (a 0) (a2 0) o i) := lv_sub hl [2, 3, 4, 5, 6] rfl
  refine lv_goto (tgt := 1880) hx hb dL_law_749 (by decide) ?_
  replace hB := Lw_3 hB
  refine W.widen (k := cells + 100) (n := slots + 70000) (by omega) (by omega) ?_
  exact kk _ _ _ _ _ _ _ _ _ _ _ _ (ho hok) hf1 hO.1 hf0 hB hl
theorem dL_law_752 : decode cL_law 752 = .ok (.aload_n 1, 1) := dz_e0 dz_43 hI_L_law (by decide +kernel)
theorem dL_law_753 : decode cL_law 753 = .ok (.aload_n 0, 1) := dz_e0 dz_42 hI_L_law (by decide +kernel)
theorem dL_law_754 : decode cL_law 754 = .ok (.iload 4, 2) := dz_e1 dz_21 hI_L_law (by decide +kernel)
theorem dL_law_756 : decode cL_law 756 = .ok (.iconst 1, 1) := dz_e0 dz_4 hI_L_law (by decide +kernel)
theorem dL_law_757 : decode cL_law 757 = .ok (.iadd, 1) := dz_e0 dz_96 hI_L_law (by decide +kernel)
theorem dL_law_758 : decode cL_law 758 = .ok (.iaload, 1) := dz_e0 dz_46 hI_L_law (by decide +kernel)
theorem dL_law_759 : decode cL_law 759 = .ok (.aload_n 0, 1) := dz_e0 dz_42 hI_L_law (by decide +kernel)
theorem dL_law_760 : decode cL_law 760 = .ok (.iload 4, 2) := dz_e1 dz_21 hI_L_law (by decide +kernel)
theorem dL_law_762 : decode cL_law 762 = .ok (.iconst 2, 1) := dz_e0 dz_5 hI_L_law (by decide +kernel)
theorem dL_law_763 : decode cL_law 763 = .ok (.iadd, 1) := dz_e0 dz_96 hI_L_law (by decide +kernel)
theorem dL_law_764 : decode cL_law 764 = .ok (.iaload, 1) := dz_e0 dz_46 hI_L_law (by decide +kernel)
theorem dL_law_765 : decode cL_law 765 = .ok (.ifCond .eq 7, 3) := dz_f2 dz_153 hI_L_law (by decide +kernel)
theorem dL_law_768 : decode cL_law 768 = .ok (.iconst 1, 1) := dz_e0 dz_4 hI_L_law (by decide +kernel)
theorem dL_law_769 : decode cL_law 769 = .ok (.goto 4, 3) := dz_f2 dz_167 hI_L_law (by decide +kernel)
theorem dL_law_772 : decode cL_law 772 = .ok (.iconst 0, 1) := dz_e0 dz_3 hI_L_law (by decide +kernel)
theorem dL_law_773 : decode cL_law 773 = .ok (.aload_n 3, 1) := dz_e0 dz_45 hI_L_law (by decide +kernel)
theorem dL_law_774 : decode cL_law 774 = .ok (.invokestatic 175, 3) := dz_e2 dz_184 hI_L_law (by decide +kernel)
theorem dL_law_777 : decode cL_law 777 = .ok (.istore 5, 2) := dz_e1 dz_54 hI_L_law (by decide +kernel)
theorem dL_law_779 : decode cL_law 779 = .ok (.aload_n 2, 1) := dz_e0 dz_44 hI_L_law (by decide +kernel)
theorem dL_law_780 : decode cL_law 780 = .ok (.aload_n 0, 1) := dz_e0 dz_42 hI_L_law (by decide +kernel)
theorem dL_law_781 : decode cL_law 781 = .ok (.iload 4, 2) := dz_e1 dz_21 hI_L_law (by decide +kernel)
theorem dL_law_783 : decode cL_law 783 = .ok (.iconst 1, 1) := dz_e0 dz_4 hI_L_law (by decide +kernel)
theorem dL_law_784 : decode cL_law 784 = .ok (.iadd, 1) := dz_e0 dz_96 hI_L_law (by decide +kernel)
theorem dL_law_785 : decode cL_law 785 = .ok (.iaload, 1) := dz_e0 dz_46 hI_L_law (by decide +kernel)
theorem dL_law_786 : decode cL_law 786 = .ok (.aload_n 0, 1) := dz_e0 dz_42 hI_L_law (by decide +kernel)
theorem dL_law_787 : decode cL_law 787 = .ok (.iload 4, 2) := dz_e1 dz_21 hI_L_law (by decide +kernel)
theorem dL_law_789 : decode cL_law 789 = .ok (.iconst 2, 1) := dz_e0 dz_5 hI_L_law (by decide +kernel)
theorem dL_law_790 : decode cL_law 790 = .ok (.iadd, 1) := dz_e0 dz_96 hI_L_law (by decide +kernel)
theorem dL_law_791 : decode cL_law 791 = .ok (.iaload, 1) := dz_e0 dz_46 hI_L_law (by decide +kernel)
theorem dL_law_792 : decode cL_law 792 = .ok (.ifCond .eq 7, 3) := dz_f2 dz_153 hI_L_law (by decide +kernel)
theorem dL_law_795 : decode cL_law 795 = .ok (.iconst 1, 1) := dz_e0 dz_4 hI_L_law (by decide +kernel)
theorem dL_law_796 : decode cL_law 796 = .ok (.goto 4, 3) := dz_f2 dz_167 hI_L_law (by decide +kernel)
theorem dL_law_799 : decode cL_law 799 = .ok (.iconst 0, 1) := dz_e0 dz_3 hI_L_law (by decide +kernel)
theorem dL_law_800 : decode cL_law 800 = .ok (.invokevirtual 178, 3) := dz_e2 dz_182 hI_L_law (by decide +kernel)
theorem dL_law_803 : decode cL_law 803 = .ok (.istore 6, 2) := dz_e1 dz_54 hI_L_law (by decide +kernel)
theorem dL_law_805 : decode cL_law 805 = .ok (.goto 1075, 3) := dz_f2 dz_167 hI_L_law (by decide +kernel)
set_option maxHeartbeats 4000000 in
set_option maxRecDepth 100000 in
theorem lc_10 : Lc 752 := by
  intro κ p l e s m args below meth c A ret b L o i xs a a2 r2 r q q2 f f2 n v cells slots Q H locs ls hst hX hx9 hbl hbA hi hL hok hm hr hB hl hc hs kk
  have hx := hX.1.1
  have hb := hX.1.2.1
  refine lv_aload_n hx hb dL_law_752 rfl (lv_at hl 1 rfl) ?_
  obtain ⟨z1, e1⟩ : ∃ z, xs (6 * i + 1) = z := ⟨_, rfl⟩
  refine lv_scr (k := 1) hX hB hx9 hbl hbA hi hL hl dL_law_753 dL_law_754 dL_law_756 dL_law_757 dL_law_758 (by decide) (by decide) e1 ?_
  obtain ⟨z2, e2⟩ : ∃ z, xs (6 * i + 2) = z := ⟨_, rfl⟩
  refine lv_scr (k := 2) hX hB hx9 hbl hbA hi hL hl dL_law_759 dL_law_760 dL_law_762 dL_law_763 dL_law_764 (by decide) (by decide) e2 ?_
  obtain ⟨y2, dy2⟩ : ∃ z, bz z2 = z := ⟨_, rfl⟩
  refine lv_bool hX dL_law_765 dL_law_768 dL_law_769 dL_law_772 dy2 ?_
  refine lv_aload_n hx hb dL_law_773 rfl (lv_at hl 3 rfl) ?_
  replace hB := Lw_1 hB
  obtain ⟨Y, hY⟩ : ∃ Y, D_X5_widen r q f z1 y2 = Y := ⟨_, rfl⟩
  refine call_SW (n := 4) (As := [.ref (a 0), .int z1, .int y2, .ref o]) (rest := []) hX hB (CMW_frame (mw κ a2 r2 f2 q2 (tb a2) []) (w_widen κ l hst a r q f o n v z1 y2 hok Y hY)) yk_L_widen wm_3_124 wm_3_125 wm_1_0 wm_3_126 ⟨Nat.le_of_ble_eq_true rfl, Nat.le_of_ble_eq_true rfl⟩ ⟨by show _ ≤ 600128; omega, by show _ ≤ 7301098; omega⟩ rfl hl.1 rfl (Nat.le_of_ble_eq_true rfl) dL_law_774 (fun o9 w' H locs hp hB => ?_)
  obtain ⟨_, ⟨x1, n1, v1, rfl, ho, hq, hW, rfl⟩, rfl⟩ := hp
  refine W.eq (g2 := F0 m 777 ls [.int x1]) rfl ?_
  refine lv_istore (lv' := [(5, .int x1), (0, .ref b), (1, .ref (a 0)), (2, .ref (a2 0)), (3, .ref o), (4, .int (nI (6 * i)))]) hx hb dL_law_777 hl (by decide) rfl (fun ls hl => ?_)
  have hl0 := hl
  replace hl : lv_has ls 7 (Lv b (a 0) (a2 0) o i) := lv_sub hl [1, 2, 3, 4, 5] rfl
  refine lv_aload_n hx hb dL_law_779 rfl (lv_at hl 2 rfl) ?_
  refine lv_scr (k := 1) hX hB hx9 hbl hbA hi hL hl dL_law_780 dL_law_781 dL_law_783 dL_law_784 dL_law_785 (by decide) (by decide) e1 ?_
  refine lv_scr (k := 2) hX hB hx9 hbl hbA hi hL hl dL_law_786 dL_law_787 dL_law_789 dL_law_790 dL_law_791 (by decide) (by decide) e2 ?_
  refine lv_bool hX dL_law_792 dL_law_795 dL_law_796 dL_law_799 dy2 ?_
  replace hB := Lw_2 hB
  obtain ⟨Z, hZ⟩ : ∃ Z, D_X10_widen r2 f2 q2 z1 y2 = Z := ⟨_, rfl⟩
  refine call_V (n := 2) (k0 := 0) (As := [.int z1, .int y2]) (rest := []) hX hB (k_X10_widen κ l (cw κ a Y.2.2.1 Y.2.2.2.1 Y.2.2.2.2 ++ [Ot o n1 v1]) a2 r2 f2 q2 z1 y2 hm _ _ _ _ (hZ.trans (te4 Z))) ⟨rfl, yk_X10_widen⟩ wm_6_93 wm_6_94 wm_6_95 wm_1_6 wm_6_96 ⟨Nat.le_of_ble_eq_true rfl, Nat.le_of_ble_eq_true rfl⟩ ⟨by show _ ≤ 600128; omega, by show _ ≤ 7301098; omega⟩ mw0 rfl rfl rfl hl.1 rfl (Nat.le_of_ble_eq_true rfl) dL_law_800 (fun o9 w' H locs hp hB => ?_)
  obtain ⟨a3, rfl, hf0, hf1, hf2, rfl⟩ := hp
  have hO : Ok Y Z := by rw [← hY, ← hZ]; exact widen_eq hr
  refine W.eq (g2 := F0 m 803 ls [.int Z.1]) rfl ?_
  refine lv_istore (lv' := [(6, .int Z.1), (5, .int x1), (0, .ref b), (1, .ref (a 0)), (2, .ref (a2 0)), (3, .ref o), (4, .int (nI (6 * i)))]) hx hb dL_law_803 hl0 (by decide) rfl (fun ls hl => ?_)
  have hl0 := hl
  replace hl : lv_has ls 7 (Lv b (a 0) (a2 0) o i) := lv_sub hl [2, 3, 4, 5, 6] rfl
  refine lv_goto (tgt := 1880) hx hb dL_law_805 (by decide) ?_
  replace hB := Lw_3 hB
  refine W.widen (k := cells + 100) (n := slots + 70000) (by omega) (by omega) ?_
  exact kk _ _ _ _ _ _ _ _ _ _ _ _ (ho hok) hf1 hO.1 hf0 hB hl
theorem dL_law_808 : decode cL_law 808 = .ok (.aload_n 1, 1) := dz_e0 dz_43 hI_L_law (by decide +kernel)
theorem dL_law_809 : decode cL_law 809 = .ok (.aload_n 0, 1) := dz_e0 dz_42 hI_L_law (by decide +kernel)
theorem dL_law_810 : decode cL_law 810 = .ok (.iload 4, 2) := dz_e1 dz_21 hI_L_law (by decide +kernel)
theorem dL_law_812 : decode cL_law 812 = .ok (.iconst 1, 1) := dz_e0 dz_4 hI_L_law (by decide +kernel)
theorem dL_law_813 : decode cL_law 813 = .ok (.iadd, 1) := dz_e0 dz_96 hI_L_law (by decide +kernel)
theorem dL_law_814 : decode cL_law 814 = .ok (.iaload, 1) := dz_e0 dz_46 hI_L_law (by decide +kernel)
theorem dL_law_815 : decode cL_law 815 = .ok (.aload_n 0, 1) := dz_e0 dz_42 hI_L_law (by decide +kernel)
theorem dL_law_816 : decode cL_law 816 = .ok (.iload 4, 2) := dz_e1 dz_21 hI_L_law (by decide +kernel)
theorem dL_law_818 : decode cL_law 818 = .ok (.iconst 2, 1) := dz_e0 dz_5 hI_L_law (by decide +kernel)
theorem dL_law_819 : decode cL_law 819 = .ok (.iadd, 1) := dz_e0 dz_96 hI_L_law (by decide +kernel)
theorem dL_law_820 : decode cL_law 820 = .ok (.iaload, 1) := dz_e0 dz_46 hI_L_law (by decide +kernel)
theorem dL_law_821 : decode cL_law 821 = .ok (.ifCond .eq 7, 3) := dz_f2 dz_153 hI_L_law (by decide +kernel)
theorem dL_law_824 : decode cL_law 824 = .ok (.iconst 1, 1) := dz_e0 dz_4 hI_L_law (by decide +kernel)
theorem dL_law_825 : decode cL_law 825 = .ok (.goto 4, 3) := dz_f2 dz_167 hI_L_law (by decide +kernel)
theorem dL_law_828 : decode cL_law 828 = .ok (.iconst 0, 1) := dz_e0 dz_3 hI_L_law (by decide +kernel)
theorem dL_law_829 : decode cL_law 829 = .ok (.aload_n 0, 1) := dz_e0 dz_42 hI_L_law (by decide +kernel)
theorem dL_law_830 : decode cL_law 830 = .ok (.iload 4, 2) := dz_e1 dz_21 hI_L_law (by decide +kernel)
theorem dL_law_832 : decode cL_law 832 = .ok (.iconst 3, 1) := dz_e0 dz_6 hI_L_law (by decide +kernel)
theorem dL_law_833 : decode cL_law 833 = .ok (.iadd, 1) := dz_e0 dz_96 hI_L_law (by decide +kernel)
theorem dL_law_834 : decode cL_law 834 = .ok (.iaload, 1) := dz_e0 dz_46 hI_L_law (by decide +kernel)
theorem dL_law_835 : decode cL_law 835 = .ok (.aload_n 3, 1) := dz_e0 dz_45 hI_L_law (by decide +kernel)
theorem dL_law_836 : decode cL_law 836 = .ok (.invokestatic 179, 3) := dz_e2 dz_184 hI_L_law (by decide +kernel)
theorem dL_law_839 : decode cL_law 839 = .ok (.istore 5, 2) := dz_e1 dz_54 hI_L_law (by decide +kernel)
theorem dL_law_841 : decode cL_law 841 = .ok (.aload_n 2, 1) := dz_e0 dz_44 hI_L_law (by decide +kernel)
theorem dL_law_842 : decode cL_law 842 = .ok (.aload_n 0, 1) := dz_e0 dz_42 hI_L_law (by decide +kernel)
theorem dL_law_843 : decode cL_law 843 = .ok (.iload 4, 2) := dz_e1 dz_21 hI_L_law (by decide +kernel)
theorem dL_law_845 : decode cL_law 845 = .ok (.iconst 1, 1) := dz_e0 dz_4 hI_L_law (by decide +kernel)
theorem dL_law_846 : decode cL_law 846 = .ok (.iadd, 1) := dz_e0 dz_96 hI_L_law (by decide +kernel)
theorem dL_law_847 : decode cL_law 847 = .ok (.iaload, 1) := dz_e0 dz_46 hI_L_law (by decide +kernel)
theorem dL_law_848 : decode cL_law 848 = .ok (.aload_n 0, 1) := dz_e0 dz_42 hI_L_law (by decide +kernel)
theorem dL_law_849 : decode cL_law 849 = .ok (.iload 4, 2) := dz_e1 dz_21 hI_L_law (by decide +kernel)
theorem dL_law_851 : decode cL_law 851 = .ok (.iconst 2, 1) := dz_e0 dz_5 hI_L_law (by decide +kernel)
theorem dL_law_852 : decode cL_law 852 = .ok (.iadd, 1) := dz_e0 dz_96 hI_L_law (by decide +kernel)
theorem dL_law_853 : decode cL_law 853 = .ok (.iaload, 1) := dz_e0 dz_46 hI_L_law (by decide +kernel)
theorem dL_law_854 : decode cL_law 854 = .ok (.ifCond .eq 7, 3) := dz_f2 dz_153 hI_L_law (by decide +kernel)
theorem dL_law_857 : decode cL_law 857 = .ok (.iconst 1, 1) := dz_e0 dz_4 hI_L_law (by decide +kernel)
theorem dL_law_858 : decode cL_law 858 = .ok (.goto 4, 3) := dz_f2 dz_167 hI_L_law (by decide +kernel)
theorem dL_law_861 : decode cL_law 861 = .ok (.iconst 0, 1) := dz_e0 dz_3 hI_L_law (by decide +kernel)
theorem dL_law_862 : decode cL_law 862 = .ok (.aload_n 0, 1) := dz_e0 dz_42 hI_L_law (by decide +kernel)
theorem dL_law_863 : decode cL_law 863 = .ok (.iload 4, 2) := dz_e1 dz_21 hI_L_law (by decide +kernel)
theorem dL_law_865 : decode cL_law 865 = .ok (.iconst 3, 1) := dz_e0 dz_6 hI_L_law (by decide +kernel)
theorem dL_law_866 : decode cL_law 866 = .ok (.iadd, 1) := dz_e0 dz_96 hI_L_law (by decide +kernel)
theorem dL_law_867 : decode cL_law 867 = .ok (.iaload, 1) := dz_e0 dz_46 hI_L_law (by decide +kernel)
theorem dL_law_868 : decode cL_law 868 = .ok (.invokevirtual 181, 3) := dz_e2 dz_182 hI_L_law (by decide +kernel)
theorem dL_law_871 : decode cL_law 871 = .ok (.istore 6, 2) := dz_e1 dz_54 hI_L_law (by decide +kernel)
theorem dL_law_873 : decode cL_law 873 = .ok (.goto 1007, 3) := dz_f2 dz_167 hI_L_law (by decide +kernel)
set_option maxHeartbeats 4000000 in
set_option maxRecDepth 100000 in
theorem lc_11 : Lc 808 := by
  intro κ p l e s m args below meth c A ret b L o i xs a a2 r2 r q q2 f f2 n v cells slots Q H locs ls hst hX hx9 hbl hbA hi hL hok hm hr hB hl hc hs kk
  have hx := hX.1.1
  have hb := hX.1.2.1
  refine lv_aload_n hx hb dL_law_808 rfl (lv_at hl 1 rfl) ?_
  obtain ⟨z1, e1⟩ : ∃ z, xs (6 * i + 1) = z := ⟨_, rfl⟩
  refine lv_scr (k := 1) hX hB hx9 hbl hbA hi hL hl dL_law_809 dL_law_810 dL_law_812 dL_law_813 dL_law_814 (by decide) (by decide) e1 ?_
  obtain ⟨z2, e2⟩ : ∃ z, xs (6 * i + 2) = z := ⟨_, rfl⟩
  refine lv_scr (k := 2) hX hB hx9 hbl hbA hi hL hl dL_law_815 dL_law_816 dL_law_818 dL_law_819 dL_law_820 (by decide) (by decide) e2 ?_
  obtain ⟨y2, dy2⟩ : ∃ z, bz z2 = z := ⟨_, rfl⟩
  refine lv_bool hX dL_law_821 dL_law_824 dL_law_825 dL_law_828 dy2 ?_
  obtain ⟨z3, e3⟩ : ∃ z, xs (6 * i + 3) = z := ⟨_, rfl⟩
  refine lv_scr (k := 3) hX hB hx9 hbl hbA hi hL hl dL_law_829 dL_law_830 dL_law_832 dL_law_833 dL_law_834 (by decide) (by decide) e3 ?_
  refine lv_aload_n hx hb dL_law_835 rfl (lv_at hl 3 rfl) ?_
  replace hB := Lw_1 hB
  obtain ⟨Y, hY⟩ : ∃ Y, D_X5_drop r q f z1 y2 z3 = Y := ⟨_, rfl⟩
  refine call_SW (n := 5) (As := [.ref (a 0), .int z1, .int y2, .int z3, .ref o]) (rest := []) hX hB (CMW_frame (mw κ a2 r2 f2 q2 (tb a2) []) (w_drop κ l hst a r q f o n v z1 y2 z3 hok Y hY)) yk_L_drop wm_3_139 wm_3_140 wm_1_0 wm_3_141 ⟨Nat.le_of_ble_eq_true rfl, Nat.le_of_ble_eq_true rfl⟩ ⟨by show _ ≤ 600128; omega, by show _ ≤ 7301098; omega⟩ rfl hl.1 rfl (Nat.le_of_ble_eq_true rfl) dL_law_836 (fun o9 w' H locs hp hB => ?_)
  obtain ⟨_, ⟨x1, n1, v1, rfl, ho, hq, hW, rfl⟩, rfl⟩ := hp
  refine W.eq (g2 := F0 m 839 ls [.int x1]) rfl ?_
  refine lv_istore (lv' := [(5, .int x1), (0, .ref b), (1, .ref (a 0)), (2, .ref (a2 0)), (3, .ref o), (4, .int (nI (6 * i)))]) hx hb dL_law_839 hl (by decide) rfl (fun ls hl => ?_)
  have hl0 := hl
  replace hl : lv_has ls 7 (Lv b (a 0) (a2 0) o i) := lv_sub hl [1, 2, 3, 4, 5] rfl
  refine lv_aload_n hx hb dL_law_841 rfl (lv_at hl 2 rfl) ?_
  refine lv_scr (k := 1) hX hB hx9 hbl hbA hi hL hl dL_law_842 dL_law_843 dL_law_845 dL_law_846 dL_law_847 (by decide) (by decide) e1 ?_
  refine lv_scr (k := 2) hX hB hx9 hbl hbA hi hL hl dL_law_848 dL_law_849 dL_law_851 dL_law_852 dL_law_853 (by decide) (by decide) e2 ?_
  refine lv_bool hX dL_law_854 dL_law_857 dL_law_858 dL_law_861 dy2 ?_
  refine lv_scr (k := 3) hX hB hx9 hbl hbA hi hL hl dL_law_862 dL_law_863 dL_law_865 dL_law_866 dL_law_867 (by decide) (by decide) e3 ?_
  replace hB := Lw_2 hB
  obtain ⟨Z, hZ⟩ : ∃ Z, D_X10_drop r2 f2 q2 z1 y2 z3 = Z := ⟨_, rfl⟩
  refine call_V (n := 3) (k0 := 0) (As := [.int z1, .int y2, .int z3]) (rest := []) hX hB (k_X10_drop κ l (cw κ a Y.2.2.1 Y.2.2.2.1 Y.2.2.2.2 ++ [Ot o n1 v1]) a2 r2 f2 q2 z1 y2 z3 hm _ _ _ _ (hZ.trans (te4 Z))) ⟨rfl, yk_X10_drop⟩ wm_6_100 wm_6_101 wm_6_102 wm_1_6 wm_6_103 ⟨Nat.le_of_ble_eq_true rfl, Nat.le_of_ble_eq_true rfl⟩ ⟨by show _ ≤ 600128; omega, by show _ ≤ 7301098; omega⟩ mw0 rfl rfl rfl hl.1 rfl (Nat.le_of_ble_eq_true rfl) dL_law_868 (fun o9 w' H locs hp hB => ?_)
  obtain ⟨a3, rfl, hf0, hf1, hf2, rfl⟩ := hp
  have hO : Ok Y Z := by rw [← hY, ← hZ]; exact drop_eq hr
  refine W.eq (g2 := F0 m 871 ls [.int Z.1]) rfl ?_
  refine lv_istore (lv' := [(6, .int Z.1), (5, .int x1), (0, .ref b), (1, .ref (a 0)), (2, .ref (a2 0)), (3, .ref o), (4, .int (nI (6 * i)))]) hx hb dL_law_871 hl0 (by decide) rfl (fun ls hl => ?_)
  have hl0 := hl
  replace hl : lv_has ls 7 (Lv b (a 0) (a2 0) o i) := lv_sub hl [2, 3, 4, 5, 6] rfl
  refine lv_goto (tgt := 1880) hx hb dL_law_873 (by decide) ?_
  replace hB := Lw_3 hB
  refine W.widen (k := cells + 100) (n := slots + 70000) (by omega) (by omega) ?_
  exact kk _ _ _ _ _ _ _ _ _ _ _ _ (ho hok) hf1 hO.1 hf0 hB hl
end
section
-- 94.lcase2
theorem dL_law_876 : decode cL_law 876 = .ok (.aload_n 1, 1) := dz_e0 dz_43 hI_L_law (by decide +kernel)
theorem dL_law_877 : decode cL_law 877 = .ok (.aload_n 0, 1) := dz_e0 dz_42 hI_L_law (by decide +kernel)
theorem dL_law_878 : decode cL_law 878 = .ok (.iload 4, 2) := dz_e1 dz_21 hI_L_law (by decide +kernel)
theorem dL_law_880 : decode cL_law 880 = .ok (.iconst 1, 1) := dz_e0 dz_4 hI_L_law (by decide +kernel)
theorem dL_law_881 : decode cL_law 881 = .ok (.iadd, 1) := dz_e0 dz_96 hI_L_law (by decide +kernel)
theorem dL_law_882 : decode cL_law 882 = .ok (.iaload, 1) := dz_e0 dz_46 hI_L_law (by decide +kernel)
theorem dL_law_883 : decode cL_law 883 = .ok (.aload_n 0, 1) := dz_e0 dz_42 hI_L_law (by decide +kernel)
theorem dL_law_884 : decode cL_law 884 = .ok (.iload 4, 2) := dz_e1 dz_21 hI_L_law (by decide +kernel)
theorem dL_law_886 : decode cL_law 886 = .ok (.iconst 2, 1) := dz_e0 dz_5 hI_L_law (by decide +kernel)
theorem dL_law_887 : decode cL_law 887 = .ok (.iadd, 1) := dz_e0 dz_96 hI_L_law (by decide +kernel)
theorem dL_law_888 : decode cL_law 888 = .ok (.iaload, 1) := dz_e0 dz_46 hI_L_law (by decide +kernel)
theorem dL_law_889 : decode cL_law 889 = .ok (.aload_n 0, 1) := dz_e0 dz_42 hI_L_law (by decide +kernel)
theorem dL_law_890 : decode cL_law 890 = .ok (.iload 4, 2) := dz_e1 dz_21 hI_L_law (by decide +kernel)
theorem dL_law_892 : decode cL_law 892 = .ok (.iconst 3, 1) := dz_e0 dz_6 hI_L_law (by decide +kernel)
theorem dL_law_893 : decode cL_law 893 = .ok (.iadd, 1) := dz_e0 dz_96 hI_L_law (by decide +kernel)
theorem dL_law_894 : decode cL_law 894 = .ok (.iaload, 1) := dz_e0 dz_46 hI_L_law (by decide +kernel)
theorem dL_law_895 : decode cL_law 895 = .ok (.ifCond .eq 7, 3) := dz_f2 dz_153 hI_L_law (by decide +kernel)
theorem dL_law_898 : decode cL_law 898 = .ok (.iconst 1, 1) := dz_e0 dz_4 hI_L_law (by decide +kernel)
theorem dL_law_899 : decode cL_law 899 = .ok (.goto 4, 3) := dz_f2 dz_167 hI_L_law (by decide +kernel)
theorem dL_law_902 : decode cL_law 902 = .ok (.iconst 0, 1) := dz_e0 dz_3 hI_L_law (by decide +kernel)
theorem dL_law_903 : decode cL_law 903 = .ok (.aload_n 0, 1) := dz_e0 dz_42 hI_L_law (by decide +kernel)
theorem dL_law_904 : decode cL_law 904 = .ok (.iload 4, 2) := dz_e1 dz_21 hI_L_law (by decide +kernel)
theorem dL_law_906 : decode cL_law 906 = .ok (.iconst 4, 1) := dz_e0 dz_7 hI_L_law (by decide +kernel)
theorem dL_law_907 : decode cL_law 907 = .ok (.iadd, 1) := dz_e0 dz_96 hI_L_law (by decide +kernel)
theorem dL_law_908 : decode cL_law 908 = .ok (.iaload, 1) := dz_e0 dz_46 hI_L_law (by decide +kernel)
theorem dL_law_909 : decode cL_law 909 = .ok (.aload_n 3, 1) := dz_e0 dz_45 hI_L_law (by decide +kernel)
theorem dL_law_910 : decode cL_law 910 = .ok (.invokestatic 182, 3) := dz_e2 dz_184 hI_L_law (by decide +kernel)
theorem dL_law_913 : decode cL_law 913 = .ok (.istore 5, 2) := dz_e1 dz_54 hI_L_law (by decide +kernel)
theorem dL_law_915 : decode cL_law 915 = .ok (.aload_n 2, 1) := dz_e0 dz_44 hI_L_law (by decide +kernel)
theorem dL_law_916 : decode cL_law 916 = .ok (.aload_n 0, 1) := dz_e0 dz_42 hI_L_law (by decide +kernel)
theorem dL_law_917 : decode cL_law 917 = .ok (.iload 4, 2) := dz_e1 dz_21 hI_L_law (by decide +kernel)
theorem dL_law_919 : decode cL_law 919 = .ok (.iconst 1, 1) := dz_e0 dz_4 hI_L_law (by decide +kernel)
theorem dL_law_920 : decode cL_law 920 = .ok (.iadd, 1) := dz_e0 dz_96 hI_L_law (by decide +kernel)
theorem dL_law_921 : decode cL_law 921 = .ok (.iaload, 1) := dz_e0 dz_46 hI_L_law (by decide +kernel)
theorem dL_law_922 : decode cL_law 922 = .ok (.aload_n 0, 1) := dz_e0 dz_42 hI_L_law (by decide +kernel)
theorem dL_law_923 : decode cL_law 923 = .ok (.iload 4, 2) := dz_e1 dz_21 hI_L_law (by decide +kernel)
theorem dL_law_925 : decode cL_law 925 = .ok (.iconst 2, 1) := dz_e0 dz_5 hI_L_law (by decide +kernel)
theorem dL_law_926 : decode cL_law 926 = .ok (.iadd, 1) := dz_e0 dz_96 hI_L_law (by decide +kernel)
theorem dL_law_927 : decode cL_law 927 = .ok (.iaload, 1) := dz_e0 dz_46 hI_L_law (by decide +kernel)
theorem dL_law_928 : decode cL_law 928 = .ok (.aload_n 0, 1) := dz_e0 dz_42 hI_L_law (by decide +kernel)
theorem dL_law_929 : decode cL_law 929 = .ok (.iload 4, 2) := dz_e1 dz_21 hI_L_law (by decide +kernel)
theorem dL_law_931 : decode cL_law 931 = .ok (.iconst 3, 1) := dz_e0 dz_6 hI_L_law (by decide +kernel)
theorem dL_law_932 : decode cL_law 932 = .ok (.iadd, 1) := dz_e0 dz_96 hI_L_law (by decide +kernel)
theorem dL_law_933 : decode cL_law 933 = .ok (.iaload, 1) := dz_e0 dz_46 hI_L_law (by decide +kernel)
theorem dL_law_934 : decode cL_law 934 = .ok (.ifCond .eq 7, 3) := dz_f2 dz_153 hI_L_law (by decide +kernel)
theorem dL_law_937 : decode cL_law 937 = .ok (.iconst 1, 1) := dz_e0 dz_4 hI_L_law (by decide +kernel)
theorem dL_law_938 : decode cL_law 938 = .ok (.goto 4, 3) := dz_f2 dz_167 hI_L_law (by decide +kernel)
theorem dL_law_941 : decode cL_law 941 = .ok (.iconst 0, 1) := dz_e0 dz_3 hI_L_law (by decide +kernel)
theorem dL_law_942 : decode cL_law 942 = .ok (.aload_n 0, 1) := dz_e0 dz_42 hI_L_law (by decide +kernel)
theorem dL_law_943 : decode cL_law 943 = .ok (.iload 4, 2) := dz_e1 dz_21 hI_L_law (by decide +kernel)
theorem dL_law_945 : decode cL_law 945 = .ok (.iconst 4, 1) := dz_e0 dz_7 hI_L_law (by decide +kernel)
theorem dL_law_946 : decode cL_law 946 = .ok (.iadd, 1) := dz_e0 dz_96 hI_L_law (by decide +kernel)
theorem dL_law_947 : decode cL_law 947 = .ok (.iaload, 1) := dz_e0 dz_46 hI_L_law (by decide +kernel)
theorem dL_law_948 : decode cL_law 948 = .ok (.invokevirtual 185, 3) := dz_e2 dz_182 hI_L_law (by decide +kernel)
theorem dL_law_951 : decode cL_law 951 = .ok (.istore 6, 2) := dz_e1 dz_54 hI_L_law (by decide +kernel)
theorem dL_law_953 : decode cL_law 953 = .ok (.goto 927, 3) := dz_f2 dz_167 hI_L_law (by decide +kernel)
set_option maxHeartbeats 4000000 in
set_option maxRecDepth 100000 in
theorem lc_12 : Lc 876 := by
  intro κ p l e s m args below meth c A ret b L o i xs a a2 r2 r q q2 f f2 n v cells slots Q H locs ls hst hX hx9 hbl hbA hi hL hok hm hr hB hl hc hs kk
  have hx := hX.1.1
  have hb := hX.1.2.1
  refine lv_aload_n hx hb dL_law_876 rfl (lv_at hl 1 rfl) ?_
  obtain ⟨z1, e1⟩ : ∃ z, xs (6 * i + 1) = z := ⟨_, rfl⟩
  refine lv_scr (k := 1) hX hB hx9 hbl hbA hi hL hl dL_law_877 dL_law_878 dL_law_880 dL_law_881 dL_law_882 (by decide) (by decide) e1 ?_
  obtain ⟨z2, e2⟩ : ∃ z, xs (6 * i + 2) = z := ⟨_, rfl⟩
  refine lv_scr (k := 2) hX hB hx9 hbl hbA hi hL hl dL_law_883 dL_law_884 dL_law_886 dL_law_887 dL_law_888 (by decide) (by decide) e2 ?_
  obtain ⟨z3, e3⟩ : ∃ z, xs (6 * i + 3) = z := ⟨_, rfl⟩
  refine lv_scr (k := 3) hX hB hx9 hbl hbA hi hL hl dL_law_889 dL_law_890 dL_law_892 dL_law_893 dL_law_894 (by decide) (by decide) e3 ?_
  obtain ⟨y3, dy3⟩ : ∃ z, bz z3 = z := ⟨_, rfl⟩
  refine lv_bool hX dL_law_895 dL_law_898 dL_law_899 dL_law_902 dy3 ?_
  obtain ⟨z4, e4⟩ : ∃ z, xs (6 * i + 4) = z := ⟨_, rfl⟩
  refine lv_scr (k := 4) hX hB hx9 hbl hbA hi hL hl dL_law_903 dL_law_904 dL_law_906 dL_law_907 dL_law_908 (by decide) (by decide) e4 ?_
  refine lv_aload_n hx hb dL_law_909 rfl (lv_at hl 3 rfl) ?_
  replace hB := Lw_1 hB
  obtain ⟨Y, hY⟩ : ∃ Y, D_X5_sum r q f z1 z2 y3 z4 = Y := ⟨_, rfl⟩
  refine call_SW (n := 6) (As := [.ref (a 0), .int z1, .int z2, .int y3, .int z4, .ref o]) (rest := []) hX hB (CMW_frame (mw κ a2 r2 f2 q2 (tb a2) []) (w_sum κ l hst a r q f o n v z1 z2 y3 z4 hok Y hY)) yk_L_sum wm_3_146 wm_3_147 wm_1_0 wm_3_148 ⟨Nat.le_of_ble_eq_true rfl, Nat.le_of_ble_eq_true rfl⟩ ⟨by show _ ≤ 600128; omega, by show _ ≤ 7301098; omega⟩ rfl hl.1 rfl (Nat.le_of_ble_eq_true rfl) dL_law_910 (fun o9 w' H locs hp hB => ?_)
  obtain ⟨_, ⟨x1, n1, v1, rfl, ho, hq, hW, rfl⟩, rfl⟩ := hp
  refine W.eq (g2 := F0 m 913 ls [.int x1]) rfl ?_
  refine lv_istore (lv' := [(5, .int x1), (0, .ref b), (1, .ref (a 0)), (2, .ref (a2 0)), (3, .ref o), (4, .int (nI (6 * i)))]) hx hb dL_law_913 hl (by decide) rfl (fun ls hl => ?_)
  have hl0 := hl
  replace hl : lv_has ls 7 (Lv b (a 0) (a2 0) o i) := lv_sub hl [1, 2, 3, 4, 5] rfl
  refine lv_aload_n hx hb dL_law_915 rfl (lv_at hl 2 rfl) ?_
  refine lv_scr (k := 1) hX hB hx9 hbl hbA hi hL hl dL_law_916 dL_law_917 dL_law_919 dL_law_920 dL_law_921 (by decide) (by decide) e1 ?_
  refine lv_scr (k := 2) hX hB hx9 hbl hbA hi hL hl dL_law_922 dL_law_923 dL_law_925 dL_law_926 dL_law_927 (by decide) (by decide) e2 ?_
  refine lv_scr (k := 3) hX hB hx9 hbl hbA hi hL hl dL_law_928 dL_law_929 dL_law_931 dL_law_932 dL_law_933 (by decide) (by decide) e3 ?_
  refine lv_bool hX dL_law_934 dL_law_937 dL_law_938 dL_law_941 dy3 ?_
  refine lv_scr (k := 4) hX hB hx9 hbl hbA hi hL hl dL_law_942 dL_law_943 dL_law_945 dL_law_946 dL_law_947 (by decide) (by decide) e4 ?_
  replace hB := Lw_2 hB
  obtain ⟨Z, hZ⟩ : ∃ Z, D_X10_sum r2 f2 q2 z1 z2 y3 z4 = Z := ⟨_, rfl⟩
  refine call_V (n := 4) (k0 := 0) (As := [.int z1, .int z2, .int y3, .int z4]) (rest := []) hX hB (k_X10_sum κ l (cw κ a Y.2.2.1 Y.2.2.2.1 Y.2.2.2.2 ++ [Ot o n1 v1]) a2 r2 f2 q2 z1 z2 y3 z4 hm _ _ _ _ (hZ.trans (te4 Z))) ⟨rfl, yk_X10_sum⟩ wm_6_104 wm_6_105 wm_6_106 wm_1_6 wm_6_107 ⟨Nat.le_of_ble_eq_true rfl, Nat.le_of_ble_eq_true rfl⟩ ⟨by show _ ≤ 600128; omega, by show _ ≤ 7301098; omega⟩ mw0 rfl rfl rfl hl.1 rfl (Nat.le_of_ble_eq_true rfl) dL_law_948 (fun o9 w' H locs hp hB => ?_)
  obtain ⟨a3, rfl, hf0, hf1, hf2, rfl⟩ := hp
  have hO : Ok Y Z := by rw [← hY, ← hZ]; exact sum_eq hr
  refine W.eq (g2 := F0 m 951 ls [.int Z.1]) rfl ?_
  refine lv_istore (lv' := [(6, .int Z.1), (5, .int x1), (0, .ref b), (1, .ref (a 0)), (2, .ref (a2 0)), (3, .ref o), (4, .int (nI (6 * i)))]) hx hb dL_law_951 hl0 (by decide) rfl (fun ls hl => ?_)
  have hl0 := hl
  replace hl : lv_has ls 7 (Lv b (a 0) (a2 0) o i) := lv_sub hl [2, 3, 4, 5, 6] rfl
  refine lv_goto (tgt := 1880) hx hb dL_law_953 (by decide) ?_
  replace hB := Lw_3 hB
  refine W.widen (k := cells + 100) (n := slots + 70000) (by omega) (by omega) ?_
  exact kk _ _ _ _ _ _ _ _ _ _ _ _ (ho hok) hf1 hO.1 hf0 hB hl
theorem dL_law_956 : decode cL_law 956 = .ok (.aload_n 1, 1) := dz_e0 dz_43 hI_L_law (by decide +kernel)
theorem dL_law_957 : decode cL_law 957 = .ok (.aload_n 0, 1) := dz_e0 dz_42 hI_L_law (by decide +kernel)
theorem dL_law_958 : decode cL_law 958 = .ok (.iload 4, 2) := dz_e1 dz_21 hI_L_law (by decide +kernel)
theorem dL_law_960 : decode cL_law 960 = .ok (.iconst 1, 1) := dz_e0 dz_4 hI_L_law (by decide +kernel)
theorem dL_law_961 : decode cL_law 961 = .ok (.iadd, 1) := dz_e0 dz_96 hI_L_law (by decide +kernel)
theorem dL_law_962 : decode cL_law 962 = .ok (.iaload, 1) := dz_e0 dz_46 hI_L_law (by decide +kernel)
theorem dL_law_963 : decode cL_law 963 = .ok (.aload_n 0, 1) := dz_e0 dz_42 hI_L_law (by decide +kernel)
theorem dL_law_964 : decode cL_law 964 = .ok (.iload 4, 2) := dz_e1 dz_21 hI_L_law (by decide +kernel)
theorem dL_law_966 : decode cL_law 966 = .ok (.iconst 2, 1) := dz_e0 dz_5 hI_L_law (by decide +kernel)
theorem dL_law_967 : decode cL_law 967 = .ok (.iadd, 1) := dz_e0 dz_96 hI_L_law (by decide +kernel)
theorem dL_law_968 : decode cL_law 968 = .ok (.iaload, 1) := dz_e0 dz_46 hI_L_law (by decide +kernel)
theorem dL_law_969 : decode cL_law 969 = .ok (.aload_n 0, 1) := dz_e0 dz_42 hI_L_law (by decide +kernel)
theorem dL_law_970 : decode cL_law 970 = .ok (.iload 4, 2) := dz_e1 dz_21 hI_L_law (by decide +kernel)
theorem dL_law_972 : decode cL_law 972 = .ok (.iconst 3, 1) := dz_e0 dz_6 hI_L_law (by decide +kernel)
theorem dL_law_973 : decode cL_law 973 = .ok (.iadd, 1) := dz_e0 dz_96 hI_L_law (by decide +kernel)
theorem dL_law_974 : decode cL_law 974 = .ok (.iaload, 1) := dz_e0 dz_46 hI_L_law (by decide +kernel)
theorem dL_law_975 : decode cL_law 975 = .ok (.aload_n 3, 1) := dz_e0 dz_45 hI_L_law (by decide +kernel)
theorem dL_law_976 : decode cL_law 976 = .ok (.invokestatic 186, 3) := dz_e2 dz_184 hI_L_law (by decide +kernel)
theorem dL_law_979 : decode cL_law 979 = .ok (.istore 5, 2) := dz_e1 dz_54 hI_L_law (by decide +kernel)
theorem dL_law_981 : decode cL_law 981 = .ok (.aload_n 2, 1) := dz_e0 dz_44 hI_L_law (by decide +kernel)
theorem dL_law_982 : decode cL_law 982 = .ok (.aload_n 0, 1) := dz_e0 dz_42 hI_L_law (by decide +kernel)
theorem dL_law_983 : decode cL_law 983 = .ok (.iload 4, 2) := dz_e1 dz_21 hI_L_law (by decide +kernel)
theorem dL_law_985 : decode cL_law 985 = .ok (.iconst 1, 1) := dz_e0 dz_4 hI_L_law (by decide +kernel)
theorem dL_law_986 : decode cL_law 986 = .ok (.iadd, 1) := dz_e0 dz_96 hI_L_law (by decide +kernel)
theorem dL_law_987 : decode cL_law 987 = .ok (.iaload, 1) := dz_e0 dz_46 hI_L_law (by decide +kernel)
theorem dL_law_988 : decode cL_law 988 = .ok (.aload_n 0, 1) := dz_e0 dz_42 hI_L_law (by decide +kernel)
theorem dL_law_989 : decode cL_law 989 = .ok (.iload 4, 2) := dz_e1 dz_21 hI_L_law (by decide +kernel)
theorem dL_law_991 : decode cL_law 991 = .ok (.iconst 2, 1) := dz_e0 dz_5 hI_L_law (by decide +kernel)
theorem dL_law_992 : decode cL_law 992 = .ok (.iadd, 1) := dz_e0 dz_96 hI_L_law (by decide +kernel)
theorem dL_law_993 : decode cL_law 993 = .ok (.iaload, 1) := dz_e0 dz_46 hI_L_law (by decide +kernel)
theorem dL_law_994 : decode cL_law 994 = .ok (.aload_n 0, 1) := dz_e0 dz_42 hI_L_law (by decide +kernel)
theorem dL_law_995 : decode cL_law 995 = .ok (.iload 4, 2) := dz_e1 dz_21 hI_L_law (by decide +kernel)
theorem dL_law_997 : decode cL_law 997 = .ok (.iconst 3, 1) := dz_e0 dz_6 hI_L_law (by decide +kernel)
theorem dL_law_998 : decode cL_law 998 = .ok (.iadd, 1) := dz_e0 dz_96 hI_L_law (by decide +kernel)
theorem dL_law_999 : decode cL_law 999 = .ok (.iaload, 1) := dz_e0 dz_46 hI_L_law (by decide +kernel)
theorem dL_law_1000 : decode cL_law 1000 = .ok (.invokevirtual 188, 3) := dz_e2 dz_182 hI_L_law (by decide +kernel)
theorem dL_law_1003 : decode cL_law 1003 = .ok (.istore 6, 2) := dz_e1 dz_54 hI_L_law (by decide +kernel)
theorem dL_law_1005 : decode cL_law 1005 = .ok (.goto 875, 3) := dz_f2 dz_167 hI_L_law (by decide +kernel)
set_option maxHeartbeats 4000000 in
set_option maxRecDepth 100000 in
theorem lc_13 : Lc 956 := by
  intro κ p l e s m args below meth c A ret b L o i xs a a2 r2 r q q2 f f2 n v cells slots Q H locs ls hst hX hx9 hbl hbA hi hL hok hm hr hB hl hc hs kk
  have hx := hX.1.1
  have hb := hX.1.2.1
  refine lv_aload_n hx hb dL_law_956 rfl (lv_at hl 1 rfl) ?_
  obtain ⟨z1, e1⟩ : ∃ z, xs (6 * i + 1) = z := ⟨_, rfl⟩
  refine lv_scr (k := 1) hX hB hx9 hbl hbA hi hL hl dL_law_957 dL_law_958 dL_law_960 dL_law_961 dL_law_962 (by decide) (by decide) e1 ?_
  obtain ⟨z2, e2⟩ : ∃ z, xs (6 * i + 2) = z := ⟨_, rfl⟩
  refine lv_scr (k := 2) hX hB hx9 hbl hbA hi hL hl dL_law_963 dL_law_964 dL_law_966 dL_law_967 dL_law_968 (by decide) (by decide) e2 ?_
  obtain ⟨z3, e3⟩ : ∃ z, xs (6 * i + 3) = z := ⟨_, rfl⟩
  refine lv_scr (k := 3) hX hB hx9 hbl hbA hi hL hl dL_law_969 dL_law_970 dL_law_972 dL_law_973 dL_law_974 (by decide) (by decide) e3 ?_
  refine lv_aload_n hx hb dL_law_975 rfl (lv_at hl 3 rfl) ?_
  replace hB := Lw_1 hB
  obtain ⟨Y, hY⟩ : ∃ Y, D_X5_multiply r q f z1 z2 z3 = Y := ⟨_, rfl⟩
  refine call_SW (n := 5) (As := [.ref (a 0), .int z1, .int z2, .int z3, .ref o]) (rest := []) hX hB (CMW_frame (mw κ a2 r2 f2 q2 (tb a2) []) (w_multiply κ l hst a r q f o n v z1 z2 z3 hok Y hY)) yk_L_multiply wm_3_157 wm_3_158 wm_1_0 wm_3_159 ⟨Nat.le_of_ble_eq_true rfl, Nat.le_of_ble_eq_true rfl⟩ ⟨by show _ ≤ 600128; omega, by show _ ≤ 7301098; omega⟩ rfl hl.1 rfl (Nat.le_of_ble_eq_true rfl) dL_law_976 (fun o9 w' H locs hp hB => ?_)
  obtain ⟨_, ⟨x1, n1, v1, rfl, ho, hq, hW, rfl⟩, rfl⟩ := hp
  refine W.eq (g2 := F0 m 979 ls [.int x1]) rfl ?_
  refine lv_istore (lv' := [(5, .int x1), (0, .ref b), (1, .ref (a 0)), (2, .ref (a2 0)), (3, .ref o), (4, .int (nI (6 * i)))]) hx hb dL_law_979 hl (by decide) rfl (fun ls hl => ?_)
  have hl0 := hl
  replace hl : lv_has ls 7 (Lv b (a 0) (a2 0) o i) := lv_sub hl [1, 2, 3, 4, 5] rfl
  refine lv_aload_n hx hb dL_law_981 rfl (lv_at hl 2 rfl) ?_
  refine lv_scr (k := 1) hX hB hx9 hbl hbA hi hL hl dL_law_982 dL_law_983 dL_law_985 dL_law_986 dL_law_987 (by decide) (by decide) e1 ?_
  refine lv_scr (k := 2) hX hB hx9 hbl hbA hi hL hl dL_law_988 dL_law_989 dL_law_991 dL_law_992 dL_law_993 (by decide) (by decide) e2 ?_
  refine lv_scr (k := 3) hX hB hx9 hbl hbA hi hL hl dL_law_994 dL_law_995 dL_law_997 dL_law_998 dL_law_999 (by decide) (by decide) e3 ?_
  replace hB := Lw_2 hB
  obtain ⟨Z, hZ⟩ : ∃ Z, D_X10_multiply r2 f2 q2 z1 z2 z3 = Z := ⟨_, rfl⟩
  refine call_V (n := 3) (k0 := 0) (As := [.int z1, .int z2, .int z3]) (rest := []) hX hB (k_X10_multiply κ l (cw κ a Y.2.2.1 Y.2.2.2.1 Y.2.2.2.2 ++ [Ot o n1 v1]) a2 r2 f2 q2 z1 z2 z3 hm _ _ _ _ (hZ.trans (te4 Z))) ⟨rfl, yk_X10_multiply⟩ wm_6_112 wm_6_113 wm_6_114 wm_1_6 wm_6_115 ⟨Nat.le_of_ble_eq_true rfl, Nat.le_of_ble_eq_true rfl⟩ ⟨by show _ ≤ 600128; omega, by show _ ≤ 7301098; omega⟩ mw0 rfl rfl rfl hl.1 rfl (Nat.le_of_ble_eq_true rfl) dL_law_1000 (fun o9 w' H locs hp hB => ?_)
  obtain ⟨a3, rfl, hf0, hf1, hf2, rfl⟩ := hp
  have hO : Ok Y Z := by rw [← hY, ← hZ]; exact multiply_eq hr
  refine W.eq (g2 := F0 m 1003 ls [.int Z.1]) rfl ?_
  refine lv_istore (lv' := [(6, .int Z.1), (5, .int x1), (0, .ref b), (1, .ref (a 0)), (2, .ref (a2 0)), (3, .ref o), (4, .int (nI (6 * i)))]) hx hb dL_law_1003 hl0 (by decide) rfl (fun ls hl => ?_)
  have hl0 := hl
  replace hl : lv_has ls 7 (Lv b (a 0) (a2 0) o i) := lv_sub hl [2, 3, 4, 5, 6] rfl
  refine lv_goto (tgt := 1880) hx hb dL_law_1005 (by decide) ?_
  replace hB := Lw_3 hB
  refine W.widen (k := cells + 100) (n := slots + 70000) (by omega) (by omega) ?_
  exact kk _ _ _ _ _ _ _ _ _ _ _ _ (ho hok) hf1 hO.1 hf0 hB hl
theorem dL_law_1008 : decode cL_law 1008 = .ok (.aload_n 1, 1) := dz_e0 dz_43 hI_L_law (by decide +kernel)
theorem dL_law_1009 : decode cL_law 1009 = .ok (.aload_n 0, 1) := dz_e0 dz_42 hI_L_law (by decide +kernel)
theorem dL_law_1010 : decode cL_law 1010 = .ok (.iload 4, 2) := dz_e1 dz_21 hI_L_law (by decide +kernel)
theorem dL_law_1012 : decode cL_law 1012 = .ok (.iconst 1, 1) := dz_e0 dz_4 hI_L_law (by decide +kernel)
theorem dL_law_1013 : decode cL_law 1013 = .ok (.iadd, 1) := dz_e0 dz_96 hI_L_law (by decide +kernel)
theorem dL_law_1014 : decode cL_law 1014 = .ok (.iaload, 1) := dz_e0 dz_46 hI_L_law (by decide +kernel)
theorem dL_law_1015 : decode cL_law 1015 = .ok (.aload_n 0, 1) := dz_e0 dz_42 hI_L_law (by decide +kernel)
theorem dL_law_1016 : decode cL_law 1016 = .ok (.iload 4, 2) := dz_e1 dz_21 hI_L_law (by decide +kernel)
theorem dL_law_1018 : decode cL_law 1018 = .ok (.iconst 2, 1) := dz_e0 dz_5 hI_L_law (by decide +kernel)
theorem dL_law_1019 : decode cL_law 1019 = .ok (.iadd, 1) := dz_e0 dz_96 hI_L_law (by decide +kernel)
theorem dL_law_1020 : decode cL_law 1020 = .ok (.iaload, 1) := dz_e0 dz_46 hI_L_law (by decide +kernel)
theorem dL_law_1021 : decode cL_law 1021 = .ok (.aload_n 0, 1) := dz_e0 dz_42 hI_L_law (by decide +kernel)
theorem dL_law_1022 : decode cL_law 1022 = .ok (.iload 4, 2) := dz_e1 dz_21 hI_L_law (by decide +kernel)
theorem dL_law_1024 : decode cL_law 1024 = .ok (.iconst 3, 1) := dz_e0 dz_6 hI_L_law (by decide +kernel)
theorem dL_law_1025 : decode cL_law 1025 = .ok (.iadd, 1) := dz_e0 dz_96 hI_L_law (by decide +kernel)
theorem dL_law_1026 : decode cL_law 1026 = .ok (.iaload, 1) := dz_e0 dz_46 hI_L_law (by decide +kernel)
theorem dL_law_1027 : decode cL_law 1027 = .ok (.aload_n 3, 1) := dz_e0 dz_45 hI_L_law (by decide +kernel)
theorem dL_law_1028 : decode cL_law 1028 = .ok (.invokestatic 189, 3) := dz_e2 dz_184 hI_L_law (by decide +kernel)
theorem dL_law_1031 : decode cL_law 1031 = .ok (.istore 5, 2) := dz_e1 dz_54 hI_L_law (by decide +kernel)
theorem dL_law_1033 : decode cL_law 1033 = .ok (.aload_n 2, 1) := dz_e0 dz_44 hI_L_law (by decide +kernel)
theorem dL_law_1034 : decode cL_law 1034 = .ok (.aload_n 0, 1) := dz_e0 dz_42 hI_L_law (by decide +kernel)
theorem dL_law_1035 : decode cL_law 1035 = .ok (.iload 4, 2) := dz_e1 dz_21 hI_L_law (by decide +kernel)
theorem dL_law_1037 : decode cL_law 1037 = .ok (.iconst 1, 1) := dz_e0 dz_4 hI_L_law (by decide +kernel)
theorem dL_law_1038 : decode cL_law 1038 = .ok (.iadd, 1) := dz_e0 dz_96 hI_L_law (by decide +kernel)
theorem dL_law_1039 : decode cL_law 1039 = .ok (.iaload, 1) := dz_e0 dz_46 hI_L_law (by decide +kernel)
theorem dL_law_1040 : decode cL_law 1040 = .ok (.aload_n 0, 1) := dz_e0 dz_42 hI_L_law (by decide +kernel)
theorem dL_law_1041 : decode cL_law 1041 = .ok (.iload 4, 2) := dz_e1 dz_21 hI_L_law (by decide +kernel)
theorem dL_law_1043 : decode cL_law 1043 = .ok (.iconst 2, 1) := dz_e0 dz_5 hI_L_law (by decide +kernel)
theorem dL_law_1044 : decode cL_law 1044 = .ok (.iadd, 1) := dz_e0 dz_96 hI_L_law (by decide +kernel)
theorem dL_law_1045 : decode cL_law 1045 = .ok (.iaload, 1) := dz_e0 dz_46 hI_L_law (by decide +kernel)
theorem dL_law_1046 : decode cL_law 1046 = .ok (.aload_n 0, 1) := dz_e0 dz_42 hI_L_law (by decide +kernel)
theorem dL_law_1047 : decode cL_law 1047 = .ok (.iload 4, 2) := dz_e1 dz_21 hI_L_law (by decide +kernel)
theorem dL_law_1049 : decode cL_law 1049 = .ok (.iconst 3, 1) := dz_e0 dz_6 hI_L_law (by decide +kernel)
theorem dL_law_1050 : decode cL_law 1050 = .ok (.iadd, 1) := dz_e0 dz_96 hI_L_law (by decide +kernel)
theorem dL_law_1051 : decode cL_law 1051 = .ok (.iaload, 1) := dz_e0 dz_46 hI_L_law (by decide +kernel)
theorem dL_law_1052 : decode cL_law 1052 = .ok (.invokevirtual 191, 3) := dz_e2 dz_182 hI_L_law (by decide +kernel)
theorem dL_law_1055 : decode cL_law 1055 = .ok (.istore 6, 2) := dz_e1 dz_54 hI_L_law (by decide +kernel)
theorem dL_law_1057 : decode cL_law 1057 = .ok (.goto 823, 3) := dz_f2 dz_167 hI_L_law (by decide +kernel)
set_option maxHeartbeats 4000000 in
set_option maxRecDepth 100000 in
theorem lc_14 : Lc 1008 := by
  intro κ p l e s m args below meth c A ret b L o i xs a a2 r2 r q q2 f f2 n v cells slots Q H locs ls hst hX hx9 hbl hbA hi hL hok hm hr hB hl hc hs kk
  have hx := hX.1.1
  have hb := hX.1.2.1
  refine lv_aload_n hx hb dL_law_1008 rfl (lv_at hl 1 rfl) ?_
  obtain ⟨z1, e1⟩ : ∃ z, xs (6 * i + 1) = z := ⟨_, rfl⟩
  refine lv_scr (k := 1) hX hB hx9 hbl hbA hi hL hl dL_law_1009 dL_law_1010 dL_law_1012 dL_law_1013 dL_law_1014 (by decide) (by decide) e1 ?_
  obtain ⟨z2, e2⟩ : ∃ z, xs (6 * i + 2) = z := ⟨_, rfl⟩
  refine lv_scr (k := 2) hX hB hx9 hbl hbA hi hL hl dL_law_1015 dL_law_1016 dL_law_1018 dL_law_1019 dL_law_1020 (by decide) (by decide) e2 ?_
  obtain ⟨z3, e3⟩ : ∃ z, xs (6 * i + 3) = z := ⟨_, rfl⟩
  refine lv_scr (k := 3) hX hB hx9 hbl hbA hi hL hl dL_law_1021 dL_law_1022 dL_law_1024 dL_law_1025 dL_law_1026 (by decide) (by decide) e3 ?_
  refine lv_aload_n hx hb dL_law_1027 rfl (lv_at hl 3 rfl) ?_
  replace hB := Lw_1 hB
  obtain ⟨Y, hY⟩ : ∃ Y, D_X5_take r q f z1 z2 z3 = Y := ⟨_, rfl⟩
  refine call_SW (n := 5) (As := [.ref (a 0), .int z1, .int z2, .int z3, .ref o]) (rest := []) hX hB (CMW_frame (mw κ a2 r2 f2 q2 (tb a2) []) (w_take κ l hst a r q f o n v z1 z2 z3 hok Y hY)) yk_L_take wm_3_164 wm_3_165 wm_1_0 wm_3_166 ⟨Nat.le_of_ble_eq_true rfl, Nat.le_of_ble_eq_true rfl⟩ ⟨by show _ ≤ 600128; omega, by show _ ≤ 7301098; omega⟩ rfl hl.1 rfl (Nat.le_of_ble_eq_true rfl) dL_law_1028 (fun o9 w' H locs hp hB => ?_)
  obtain ⟨_, ⟨x1, n1, v1, rfl, ho, hq, hW, rfl⟩, rfl⟩ := hp
  refine W.eq (g2 := F0 m 1031 ls [.int x1]) rfl ?_
  refine lv_istore (lv' := [(5, .int x1), (0, .ref b), (1, .ref (a 0)), (2, .ref (a2 0)), (3, .ref o), (4, .int (nI (6 * i)))]) hx hb dL_law_1031 hl (by decide) rfl (fun ls hl => ?_)
  have hl0 := hl
  replace hl : lv_has ls 7 (Lv b (a 0) (a2 0) o i) := lv_sub hl [1, 2, 3, 4, 5] rfl
  refine lv_aload_n hx hb dL_law_1033 rfl (lv_at hl 2 rfl) ?_
  refine lv_scr (k := 1) hX hB hx9 hbl hbA hi hL hl dL_law_1034 dL_law_1035 dL_law_1037 dL_law_1038 dL_law_1039 (by decide) (by decide) e1 ?_
  refine lv_scr (k := 2) hX hB hx9 hbl hbA hi hL hl dL_law_1040 dL_law_1041 dL_law_1043 dL_law_1044 dL_law_1045 (by decide) (by decide) e2 ?_
  refine lv_scr (k := 3) hX hB hx9 hbl hbA hi hL hl dL_law_1046 dL_law_1047 dL_law_1049 dL_law_1050 dL_law_1051 (by decide) (by decide) e3 ?_
  replace hB := Lw_2 hB
  obtain ⟨Z, hZ⟩ : ∃ Z, D_X10_take r2 f2 q2 z1 z2 z3 = Z := ⟨_, rfl⟩
  refine call_V (n := 3) (k0 := 0) (As := [.int z1, .int z2, .int z3]) (rest := []) hX hB (k_X10_take κ l (cw κ a Y.2.2.1 Y.2.2.2.1 Y.2.2.2.2 ++ [Ot o n1 v1]) a2 r2 f2 q2 z1 z2 z3 hm _ _ _ _ (hZ.trans (te4 Z))) ⟨rfl, yk_X10_take⟩ wm_6_120 wm_6_121 wm_6_122 wm_1_6 wm_6_123 ⟨Nat.le_of_ble_eq_true rfl, Nat.le_of_ble_eq_true rfl⟩ ⟨by show _ ≤ 600128; omega, by show _ ≤ 7301098; omega⟩ mw0 rfl rfl rfl hl.1 rfl (Nat.le_of_ble_eq_true rfl) dL_law_1052 (fun o9 w' H locs hp hB => ?_)
  obtain ⟨a3, rfl, hf0, hf1, hf2, rfl⟩ := hp
  have hO : Ok Y Z := by rw [← hY, ← hZ]; exact take_eq hr
  refine W.eq (g2 := F0 m 1055 ls [.int Z.1]) rfl ?_
  refine lv_istore (lv' := [(6, .int Z.1), (5, .int x1), (0, .ref b), (1, .ref (a 0)), (2, .ref (a2 0)), (3, .ref o), (4, .int (nI (6 * i)))]) hx hb dL_law_1055 hl0 (by decide) rfl (fun ls hl => ?_)
  have hl0 := hl
  replace hl : lv_has ls 7 (Lv b (a 0) (a2 0) o i) := lv_sub hl [2, 3, 4, 5, 6] rfl
  refine lv_goto (tgt := 1880) hx hb dL_law_1057 (by decide) ?_
  replace hB := Lw_3 hB
  refine W.widen (k := cells + 100) (n := slots + 70000) (by omega) (by omega) ?_
  exact kk _ _ _ _ _ _ _ _ _ _ _ _ (ho hok) hf1 hO.1 hf0 hB hl
theorem dL_law_1060 : decode cL_law 1060 = .ok (.aload_n 1, 1) := dz_e0 dz_43 hI_L_law (by decide +kernel)
theorem dL_law_1061 : decode cL_law 1061 = .ok (.aload_n 0, 1) := dz_e0 dz_42 hI_L_law (by decide +kernel)
theorem dL_law_1062 : decode cL_law 1062 = .ok (.iload 4, 2) := dz_e1 dz_21 hI_L_law (by decide +kernel)
theorem dL_law_1064 : decode cL_law 1064 = .ok (.iconst 1, 1) := dz_e0 dz_4 hI_L_law (by decide +kernel)
theorem dL_law_1065 : decode cL_law 1065 = .ok (.iadd, 1) := dz_e0 dz_96 hI_L_law (by decide +kernel)
theorem dL_law_1066 : decode cL_law 1066 = .ok (.iaload, 1) := dz_e0 dz_46 hI_L_law (by decide +kernel)
theorem dL_law_1067 : decode cL_law 1067 = .ok (.aload_n 0, 1) := dz_e0 dz_42 hI_L_law (by decide +kernel)
theorem dL_law_1068 : decode cL_law 1068 = .ok (.iload 4, 2) := dz_e1 dz_21 hI_L_law (by decide +kernel)
theorem dL_law_1070 : decode cL_law 1070 = .ok (.iconst 2, 1) := dz_e0 dz_5 hI_L_law (by decide +kernel)
theorem dL_law_1071 : decode cL_law 1071 = .ok (.iadd, 1) := dz_e0 dz_96 hI_L_law (by decide +kernel)
theorem dL_law_1072 : decode cL_law 1072 = .ok (.iaload, 1) := dz_e0 dz_46 hI_L_law (by decide +kernel)
theorem dL_law_1073 : decode cL_law 1073 = .ok (.aload_n 0, 1) := dz_e0 dz_42 hI_L_law (by decide +kernel)
theorem dL_law_1074 : decode cL_law 1074 = .ok (.iload 4, 2) := dz_e1 dz_21 hI_L_law (by decide +kernel)
theorem dL_law_1076 : decode cL_law 1076 = .ok (.iconst 3, 1) := dz_e0 dz_6 hI_L_law (by decide +kernel)
theorem dL_law_1077 : decode cL_law 1077 = .ok (.iadd, 1) := dz_e0 dz_96 hI_L_law (by decide +kernel)
theorem dL_law_1078 : decode cL_law 1078 = .ok (.iaload, 1) := dz_e0 dz_46 hI_L_law (by decide +kernel)
theorem dL_law_1079 : decode cL_law 1079 = .ok (.aload_n 0, 1) := dz_e0 dz_42 hI_L_law (by decide +kernel)
theorem dL_law_1080 : decode cL_law 1080 = .ok (.iload 4, 2) := dz_e1 dz_21 hI_L_law (by decide +kernel)
theorem dL_law_1082 : decode cL_law 1082 = .ok (.iconst 4, 1) := dz_e0 dz_7 hI_L_law (by decide +kernel)
theorem dL_law_1083 : decode cL_law 1083 = .ok (.iadd, 1) := dz_e0 dz_96 hI_L_law (by decide +kernel)
theorem dL_law_1084 : decode cL_law 1084 = .ok (.iaload, 1) := dz_e0 dz_46 hI_L_law (by decide +kernel)
theorem dL_law_1085 : decode cL_law 1085 = .ok (.aload_n 3, 1) := dz_e0 dz_45 hI_L_law (by decide +kernel)
theorem dL_law_1086 : decode cL_law 1086 = .ok (.invokestatic 192, 3) := dz_e2 dz_184 hI_L_law (by decide +kernel)
theorem dL_law_1089 : decode cL_law 1089 = .ok (.istore 5, 2) := dz_e1 dz_54 hI_L_law (by decide +kernel)
theorem dL_law_1091 : decode cL_law 1091 = .ok (.aload_n 2, 1) := dz_e0 dz_44 hI_L_law (by decide +kernel)
theorem dL_law_1092 : decode cL_law 1092 = .ok (.aload_n 0, 1) := dz_e0 dz_42 hI_L_law (by decide +kernel)
theorem dL_law_1093 : decode cL_law 1093 = .ok (.iload 4, 2) := dz_e1 dz_21 hI_L_law (by decide +kernel)
theorem dL_law_1095 : decode cL_law 1095 = .ok (.iconst 1, 1) := dz_e0 dz_4 hI_L_law (by decide +kernel)
theorem dL_law_1096 : decode cL_law 1096 = .ok (.iadd, 1) := dz_e0 dz_96 hI_L_law (by decide +kernel)
theorem dL_law_1097 : decode cL_law 1097 = .ok (.iaload, 1) := dz_e0 dz_46 hI_L_law (by decide +kernel)
theorem dL_law_1098 : decode cL_law 1098 = .ok (.aload_n 0, 1) := dz_e0 dz_42 hI_L_law (by decide +kernel)
theorem dL_law_1099 : decode cL_law 1099 = .ok (.iload 4, 2) := dz_e1 dz_21 hI_L_law (by decide +kernel)
theorem dL_law_1101 : decode cL_law 1101 = .ok (.iconst 2, 1) := dz_e0 dz_5 hI_L_law (by decide +kernel)
theorem dL_law_1102 : decode cL_law 1102 = .ok (.iadd, 1) := dz_e0 dz_96 hI_L_law (by decide +kernel)
theorem dL_law_1103 : decode cL_law 1103 = .ok (.iaload, 1) := dz_e0 dz_46 hI_L_law (by decide +kernel)
theorem dL_law_1104 : decode cL_law 1104 = .ok (.aload_n 0, 1) := dz_e0 dz_42 hI_L_law (by decide +kernel)
theorem dL_law_1105 : decode cL_law 1105 = .ok (.iload 4, 2) := dz_e1 dz_21 hI_L_law (by decide +kernel)
theorem dL_law_1107 : decode cL_law 1107 = .ok (.iconst 3, 1) := dz_e0 dz_6 hI_L_law (by decide +kernel)
theorem dL_law_1108 : decode cL_law 1108 = .ok (.iadd, 1) := dz_e0 dz_96 hI_L_law (by decide +kernel)
theorem dL_law_1109 : decode cL_law 1109 = .ok (.iaload, 1) := dz_e0 dz_46 hI_L_law (by decide +kernel)
theorem dL_law_1110 : decode cL_law 1110 = .ok (.aload_n 0, 1) := dz_e0 dz_42 hI_L_law (by decide +kernel)
theorem dL_law_1111 : decode cL_law 1111 = .ok (.iload 4, 2) := dz_e1 dz_21 hI_L_law (by decide +kernel)
theorem dL_law_1113 : decode cL_law 1113 = .ok (.iconst 4, 1) := dz_e0 dz_7 hI_L_law (by decide +kernel)
theorem dL_law_1114 : decode cL_law 1114 = .ok (.iadd, 1) := dz_e0 dz_96 hI_L_law (by decide +kernel)
theorem dL_law_1115 : decode cL_law 1115 = .ok (.iaload, 1) := dz_e0 dz_46 hI_L_law (by decide +kernel)
theorem dL_law_1116 : decode cL_law 1116 = .ok (.invokevirtual 194, 3) := dz_e2 dz_182 hI_L_law (by decide +kernel)
theorem dL_law_1119 : decode cL_law 1119 = .ok (.istore 6, 2) := dz_e1 dz_54 hI_L_law (by decide +kernel)
theorem dL_law_1121 : decode cL_law 1121 = .ok (.aload_n 2, 1) := dz_e0 dz_44 hI_L_law (by decide +kernel)
theorem dL_law_1122 : decode cL_law 1122 = .ok (.invokevirtual 195, 3) := dz_e2 dz_182 hI_L_law (by decide +kernel)
theorem dL_law_1125 : decode cL_law 1125 = .ok (.iload 5, 2) := dz_e1 dz_21 hI_L_law (by decide +kernel)
theorem dL_law_1127 : decode cL_law 1127 = .ok (.if_icmp .eq 5, 3) := dz_f2 dz_159 hI_L_law (by decide +kernel)
theorem dL_law_1132 : decode cL_law 1132 = .ok (.iload 5, 2) := dz_e1 dz_21 hI_L_law (by decide +kernel)
theorem dL_law_1134 : decode cL_law 1134 = .ok (.ifCond .ne 16, 3) := dz_f2 dz_154 hI_L_law (by decide +kernel)
theorem dL_law_1137 : decode cL_law 1137 = .ok (.aload_n 3, 1) := dz_e0 dz_45 hI_L_law (by decide +kernel)
theorem dL_law_1138 : decode cL_law 1138 = .ok (.getfield 13, 3) := dz_e2 dz_180 hI_L_law (by decide +kernel)
theorem dL_law_1141 : decode cL_law 1141 = .ok (.iload 6, 2) := dz_e1 dz_21 hI_L_law (by decide +kernel)
theorem dL_law_1143 : decode cL_law 1143 = .ok (.i2l, 1) := dz_e0 dz_133 hI_L_law (by decide +kernel)
theorem dL_law_1144 : decode cL_law 1144 = .ok (.lcmp, 1) := dz_e0 dz_148 hI_L_law (by decide +kernel)
theorem dL_law_1145 : decode cL_law 1145 = .ok (.ifCond .eq 5, 3) := dz_f2 dz_153 hI_L_law (by decide +kernel)
theorem dL_law_1150 : decode cL_law 1150 = .ok (.goto 730, 3) := dz_f2 dz_167 hI_L_law (by decide +kernel)
set_option maxHeartbeats 4000000 in
set_option maxRecDepth 100000 in
theorem lc_15 : Lc 1060 := by
  intro κ p l e s m args below meth c A ret b L o i xs a a2 r2 r q q2 f f2 n v cells slots Q H locs ls hst hX hx9 hbl hbA hi hL hok hm hr hB hl hc hs kk
  have hx := hX.1.1
  have hb := hX.1.2.1
  refine lv_aload_n hx hb dL_law_1060 rfl (lv_at hl 1 rfl) ?_
  obtain ⟨z1, e1⟩ : ∃ z, xs (6 * i + 1) = z := ⟨_, rfl⟩
  refine lv_scr (k := 1) hX hB hx9 hbl hbA hi hL hl dL_law_1061 dL_law_1062 dL_law_1064 dL_law_1065 dL_law_1066 (by decide) (by decide) e1 ?_
  obtain ⟨z2, e2⟩ : ∃ z, xs (6 * i + 2) = z := ⟨_, rfl⟩
  refine lv_scr (k := 2) hX hB hx9 hbl hbA hi hL hl dL_law_1067 dL_law_1068 dL_law_1070 dL_law_1071 dL_law_1072 (by decide) (by decide) e2 ?_
  obtain ⟨z3, e3⟩ : ∃ z, xs (6 * i + 3) = z := ⟨_, rfl⟩
  refine lv_scr (k := 3) hX hB hx9 hbl hbA hi hL hl dL_law_1073 dL_law_1074 dL_law_1076 dL_law_1077 dL_law_1078 (by decide) (by decide) e3 ?_
  obtain ⟨z4, e4⟩ : ∃ z, xs (6 * i + 4) = z := ⟨_, rfl⟩
  refine lv_scr (k := 4) hX hB hx9 hbl hbA hi hL hl dL_law_1079 dL_law_1080 dL_law_1082 dL_law_1083 dL_law_1084 (by decide) (by decide) e4 ?_
  refine lv_aload_n hx hb dL_law_1085 rfl (lv_at hl 3 rfl) ?_
  replace hB := Lw_1 hB
  obtain ⟨Y, hY⟩ : ∃ Y, D_X5_solve r q f z1 z2 z3 z4 = Y := ⟨_, rfl⟩
  refine call_SW (n := 6) (As := [.ref (a 0), .int z1, .int z2, .int z3, .int z4, .ref o]) (rest := []) hX hB (CMW_frame (mw κ a2 r2 f2 q2 (tb a2) []) (w_solve κ l hst a r q f o n v z1 z2 z3 z4 hok Y hY)) yk_L_solve wm_3_178 wm_3_179 wm_1_0 wm_3_180 ⟨Nat.le_of_ble_eq_true rfl, Nat.le_of_ble_eq_true rfl⟩ ⟨by show _ ≤ 600128; omega, by show _ ≤ 7301098; omega⟩ rfl hl.1 rfl (Nat.le_of_ble_eq_true rfl) dL_law_1086 (fun o9 w' H locs hp hB => ?_)
  obtain ⟨_, ⟨x1, n1, v1, rfl, ho, hq, hW, rfl⟩, rfl⟩ := hp
  refine W.eq (g2 := F0 m 1089 ls [.int x1]) rfl ?_
  refine lv_istore (lv' := [(5, .int x1), (0, .ref b), (1, .ref (a 0)), (2, .ref (a2 0)), (3, .ref o), (4, .int (nI (6 * i)))]) hx hb dL_law_1089 hl (by decide) rfl (fun ls hl => ?_)
  have hl0 := hl
  replace hl : lv_has ls 7 (Lv b (a 0) (a2 0) o i) := lv_sub hl [1, 2, 3, 4, 5] rfl
  refine lv_aload_n hx hb dL_law_1091 rfl (lv_at hl 2 rfl) ?_
  refine lv_scr (k := 1) hX hB hx9 hbl hbA hi hL hl dL_law_1092 dL_law_1093 dL_law_1095 dL_law_1096 dL_law_1097 (by decide) (by decide) e1 ?_
  refine lv_scr (k := 2) hX hB hx9 hbl hbA hi hL hl dL_law_1098 dL_law_1099 dL_law_1101 dL_law_1102 dL_law_1103 (by decide) (by decide) e2 ?_
  refine lv_scr (k := 3) hX hB hx9 hbl hbA hi hL hl dL_law_1104 dL_law_1105 dL_law_1107 dL_law_1108 dL_law_1109 (by decide) (by decide) e3 ?_
  refine lv_scr (k := 4) hX hB hx9 hbl hbA hi hL hl dL_law_1110 dL_law_1111 dL_law_1113 dL_law_1114 dL_law_1115 (by decide) (by decide) e4 ?_
  replace hB := Lw_2 hB
  obtain ⟨Z, hZ⟩ : ∃ Z, D_X10_solve r2 f2 q2 z1 z2 z3 z4 = Z := ⟨_, rfl⟩
  refine call_V (n := 4) (k0 := 0) (As := [.int z1, .int z2, .int z3, .int z4]) (rest := []) hX hB (k_X10_solve κ l (cw κ a Y.2.2.1 Y.2.2.2.1 Y.2.2.2.2 ++ [Ot o n1 v1]) a2 r2 f2 q2 z1 z2 z3 z4 hm _ _ _ _ (hZ.trans (te4 Z))) ⟨rfl, yk_X10_solve⟩ wm_7_10 wm_7_11 wm_7_12 wm_1_6 wm_7_13 ⟨Nat.le_of_ble_eq_true rfl, Nat.le_of_ble_eq_true rfl⟩ ⟨by show _ ≤ 600128; omega, by show _ ≤ 7301098; omega⟩ mw0 rfl rfl rfl hl.1 rfl (Nat.le_of_ble_eq_true rfl) dL_law_1116 (fun o9 w' H locs hp hB => ?_)
  obtain ⟨a3, rfl, hf0, hf1, hf2, rfl⟩ := hp
  have hO : Ok Y Z := by rw [← hY, ← hZ]; exact solve_eq hr
  refine W.eq (g2 := F0 m 1119 ls [.int Z.1]) rfl ?_
  refine lv_istore (lv' := [(6, .int Z.1), (5, .int x1), (0, .ref b), (1, .ref (a 0)), (2, .ref (a2 0)), (3, .ref o), (4, .int (nI (6 * i)))]) hx hb dL_law_1119 hl0 (by decide) rfl (fun ls hl => ?_)
  have hl0 := hl
  replace hl : lv_has ls 7 (Lv b (a 0) (a2 0) o i) := lv_sub hl [2, 3, 4, 5, 6] rfl
  refine lv_aload_n hx hb dL_law_1121 rfl (lv_at hl 2 rfl) ?_
  refine W.eq (g2 := F0 m 1122 ls [.ref (a3 0)]) (by rw [hf0]) ?_
  refine call_V (n := 0) (k0 := 0) (As := []) (rest := []) hX hB (k_X10_thrown κ l (cw κ a Y.2.2.1 Y.2.2.2.1 Y.2.2.2.2 ++ [Ot o n1 v1]) a3 Z.2.1 Z.2.2.1 Z.2.2.2  hf1) ⟨rfl, yk_X10_thrown⟩ wm_5_178 wm_5_179 wm_5_180 wm_1_6 wm_5_181 ⟨Nat.le_of_ble_eq_true rfl, Nat.le_of_ble_eq_true rfl⟩ ⟨by show _ ≤ 600128; omega, by show _ ≤ 7301098; omega⟩ mw0 rfl rfl rfl hl.1 rfl (Nat.le_of_ble_eq_true rfl) dL_law_1122 (fun o9 w' H locs hp hB => ?_)
  obtain ⟨rfl, rfl⟩ := hp
  refine W.eq (g2 := F0 m 1125 ls [.int (Z.2.2.2 3)]) rfl ?_
  refine lv_iload hx hb dL_law_1125 (lv_at hl0 1 rfl) ?_
  have hA : An Y.1 Y.2.1 (Z.2.2.2 3) Z.1 := hO.2
  obtain ⟨hT1, hT2⟩ := Wc_an wc1 hW hA
  refine lv_icmp_eq (tgt := 1132) hx hb dL_law_1127 (by decide) (fun _ => ?_) (fun c1 => absurd hT1 c1)
  refine lv_iload hx hb dL_law_1132 (lv_at hl0 1 rfl) ?_
  refine lv_if_ne (tgt := 1150) hx hb dL_law_1134 (by decide) (fun c2 => ?_) (fun c2 => ?_)
  · skip
    refine lv_goto (tgt := 1880) hx hb dL_law_1150 (by decide) ?_
    replace hB := Lw_3 hB
    refine W.widen (k := cells + 100) (n := slots + 70000) (by omega) (by omega) ?_
    exact kk _ _ _ _ _ _ _ _ _ _ _ _ (ho hok) hf1 hO.1 hf0 hB hl
  · skip
    refine lv_aload_n hx hb dL_law_1137 rfl (lv_at hl 3 rfl) ?_
    replace hB := Lw_3 hB
    refine gfN (k0 := 36) hX hB cw_oL rfl in6 0 (by decide) wn_2_149 rfl rfl dL_law_1138 ?_
    refine lv_iload hx hb dL_law_1141 (lv_at hl0 0 rfl) ?_
    refine lv_i2l hx hb dL_law_1143 rfl ?_
    refine W.lcmp hx hb dL_law_1144 ?_
    refine lv_if_eq (tgt := 1150) hx hb dL_law_1145 (by decide) (fun _ => ?_) (fun c3 => absurd (by rw [hT2 c2]; exact lgE.mpr rfl) c3)
    refine lv_goto (tgt := 1880) hx hb dL_law_1150 (by decide) ?_
    refine W.widen (k := cells + 100) (n := slots + 70000) (by omega) (by omega) ?_
    exact kk _ _ _ _ _ _ _ _ _ _ _ _ (ho hok) hf1 hO.1 hf0 hB hl
theorem dL_law_1153 : decode cL_law 1153 = .ok (.aload_n 1, 1) := dz_e0 dz_43 hI_L_law (by decide +kernel)
theorem dL_law_1154 : decode cL_law 1154 = .ok (.aload_n 0, 1) := dz_e0 dz_42 hI_L_law (by decide +kernel)
theorem dL_law_1155 : decode cL_law 1155 = .ok (.iload 4, 2) := dz_e1 dz_21 hI_L_law (by decide +kernel)
theorem dL_law_1157 : decode cL_law 1157 = .ok (.iconst 1, 1) := dz_e0 dz_4 hI_L_law (by decide +kernel)
theorem dL_law_1158 : decode cL_law 1158 = .ok (.iadd, 1) := dz_e0 dz_96 hI_L_law (by decide +kernel)
theorem dL_law_1159 : decode cL_law 1159 = .ok (.iaload, 1) := dz_e0 dz_46 hI_L_law (by decide +kernel)
theorem dL_law_1160 : decode cL_law 1160 = .ok (.aload_n 0, 1) := dz_e0 dz_42 hI_L_law (by decide +kernel)
theorem dL_law_1161 : decode cL_law 1161 = .ok (.iload 4, 2) := dz_e1 dz_21 hI_L_law (by decide +kernel)
theorem dL_law_1163 : decode cL_law 1163 = .ok (.iconst 2, 1) := dz_e0 dz_5 hI_L_law (by decide +kernel)
theorem dL_law_1164 : decode cL_law 1164 = .ok (.iadd, 1) := dz_e0 dz_96 hI_L_law (by decide +kernel)
theorem dL_law_1165 : decode cL_law 1165 = .ok (.iaload, 1) := dz_e0 dz_46 hI_L_law (by decide +kernel)
theorem dL_law_1166 : decode cL_law 1166 = .ok (.ifCond .eq 7, 3) := dz_f2 dz_153 hI_L_law (by decide +kernel)
theorem dL_law_1169 : decode cL_law 1169 = .ok (.iconst 1, 1) := dz_e0 dz_4 hI_L_law (by decide +kernel)
theorem dL_law_1170 : decode cL_law 1170 = .ok (.goto 4, 3) := dz_f2 dz_167 hI_L_law (by decide +kernel)
theorem dL_law_1173 : decode cL_law 1173 = .ok (.iconst 0, 1) := dz_e0 dz_3 hI_L_law (by decide +kernel)
theorem dL_law_1174 : decode cL_law 1174 = .ok (.aload_n 3, 1) := dz_e0 dz_45 hI_L_law (by decide +kernel)
theorem dL_law_1175 : decode cL_law 1175 = .ok (.invokestatic 199, 3) := dz_e2 dz_184 hI_L_law (by decide +kernel)
theorem dL_law_1178 : decode cL_law 1178 = .ok (.istore 5, 2) := dz_e1 dz_54 hI_L_law (by decide +kernel)
theorem dL_law_1180 : decode cL_law 1180 = .ok (.aload_n 2, 1) := dz_e0 dz_44 hI_L_law (by decide +kernel)
theorem dL_law_1181 : decode cL_law 1181 = .ok (.aload_n 0, 1) := dz_e0 dz_42 hI_L_law (by decide +kernel)
theorem dL_law_1182 : decode cL_law 1182 = .ok (.iload 4, 2) := dz_e1 dz_21 hI_L_law (by decide +kernel)
theorem dL_law_1184 : decode cL_law 1184 = .ok (.iconst 1, 1) := dz_e0 dz_4 hI_L_law (by decide +kernel)
theorem dL_law_1185 : decode cL_law 1185 = .ok (.iadd, 1) := dz_e0 dz_96 hI_L_law (by decide +kernel)
theorem dL_law_1186 : decode cL_law 1186 = .ok (.iaload, 1) := dz_e0 dz_46 hI_L_law (by decide +kernel)
theorem dL_law_1187 : decode cL_law 1187 = .ok (.aload_n 0, 1) := dz_e0 dz_42 hI_L_law (by decide +kernel)
theorem dL_law_1188 : decode cL_law 1188 = .ok (.iload 4, 2) := dz_e1 dz_21 hI_L_law (by decide +kernel)
theorem dL_law_1190 : decode cL_law 1190 = .ok (.iconst 2, 1) := dz_e0 dz_5 hI_L_law (by decide +kernel)
theorem dL_law_1191 : decode cL_law 1191 = .ok (.iadd, 1) := dz_e0 dz_96 hI_L_law (by decide +kernel)
theorem dL_law_1192 : decode cL_law 1192 = .ok (.iaload, 1) := dz_e0 dz_46 hI_L_law (by decide +kernel)
theorem dL_law_1193 : decode cL_law 1193 = .ok (.ifCond .eq 7, 3) := dz_f2 dz_153 hI_L_law (by decide +kernel)
theorem dL_law_1196 : decode cL_law 1196 = .ok (.iconst 1, 1) := dz_e0 dz_4 hI_L_law (by decide +kernel)
theorem dL_law_1197 : decode cL_law 1197 = .ok (.goto 4, 3) := dz_f2 dz_167 hI_L_law (by decide +kernel)
theorem dL_law_1200 : decode cL_law 1200 = .ok (.iconst 0, 1) := dz_e0 dz_3 hI_L_law (by decide +kernel)
theorem dL_law_1201 : decode cL_law 1201 = .ok (.invokevirtual 201, 3) := dz_e2 dz_182 hI_L_law (by decide +kernel)
theorem dL_law_1204 : decode cL_law 1204 = .ok (.istore 6, 2) := dz_e1 dz_54 hI_L_law (by decide +kernel)
theorem dL_law_1206 : decode cL_law 1206 = .ok (.goto 674, 3) := dz_f2 dz_167 hI_L_law (by decide +kernel)
set_option maxHeartbeats 4000000 in
set_option maxRecDepth 100000 in
theorem lc_16 : Lc 1153 := by
  intro κ p l e s m args below meth c A ret b L o i xs a a2 r2 r q q2 f f2 n v cells slots Q H locs ls hst hX hx9 hbl hbA hi hL hok hm hr hB hl hc hs kk
  have hx := hX.1.1
  have hb := hX.1.2.1
  refine lv_aload_n hx hb dL_law_1153 rfl (lv_at hl 1 rfl) ?_
  obtain ⟨z1, e1⟩ : ∃ z, xs (6 * i + 1) = z := ⟨_, rfl⟩
  refine lv_scr (k := 1) hX hB hx9 hbl hbA hi hL hl dL_law_1154 dL_law_1155 dL_law_1157 dL_law_1158 dL_law_1159 (by decide) (by decide) e1 ?_
  obtain ⟨z2, e2⟩ : ∃ z, xs (6 * i + 2) = z := ⟨_, rfl⟩
  refine lv_scr (k := 2) hX hB hx9 hbl hbA hi hL hl dL_law_1160 dL_law_1161 dL_law_1163 dL_law_1164 dL_law_1165 (by decide) (by decide) e2 ?_
  obtain ⟨y2, dy2⟩ : ∃ z, bz z2 = z := ⟨_, rfl⟩
  refine lv_bool hX dL_law_1166 dL_law_1169 dL_law_1170 dL_law_1173 dy2 ?_
  refine lv_aload_n hx hb dL_law_1174 rfl (lv_at hl 3 rfl) ?_
  replace hB := Lw_1 hB
  obtain ⟨Y, hY⟩ : ∃ Y, D_X5_shape r q f z1 y2 = Y := ⟨_, rfl⟩
  refine call_SW (n := 4) (As := [.ref (a 0), .int z1, .int y2, .ref o]) (rest := []) hX hB (CMW_frame (mw κ a2 r2 f2 q2 (tb a2) []) (w_shape κ l hst a r q f o n v z1 y2 hok Y hY)) yk_L_shape wm_3_209 wm_3_210 wm_1_0 wm_3_211 ⟨Nat.le_of_ble_eq_true rfl, Nat.le_of_ble_eq_true rfl⟩ ⟨by show _ ≤ 600128; omega, by show _ ≤ 7301098; omega⟩ rfl hl.1 rfl (Nat.le_of_ble_eq_true rfl) dL_law_1175 (fun o9 w' H locs hp hB => ?_)
  obtain ⟨_, ⟨x1, n1, v1, rfl, ho, hq, hW, rfl⟩, rfl⟩ := hp
  refine W.eq (g2 := F0 m 1178 ls [.int x1]) rfl ?_
  refine lv_istore (lv' := [(5, .int x1), (0, .ref b), (1, .ref (a 0)), (2, .ref (a2 0)), (3, .ref o), (4, .int (nI (6 * i)))]) hx hb dL_law_1178 hl (by decide) rfl (fun ls hl => ?_)
  have hl0 := hl
  replace hl : lv_has ls 7 (Lv b (a 0) (a2 0) o i) := lv_sub hl [1, 2, 3, 4, 5] rfl
  refine lv_aload_n hx hb dL_law_1180 rfl (lv_at hl 2 rfl) ?_
  refine lv_scr (k := 1) hX hB hx9 hbl hbA hi hL hl dL_law_1181 dL_law_1182 dL_law_1184 dL_law_1185 dL_law_1186 (by decide) (by decide) e1 ?_
  refine lv_scr (k := 2) hX hB hx9 hbl hbA hi hL hl dL_law_1187 dL_law_1188 dL_law_1190 dL_law_1191 dL_law_1192 (by decide) (by decide) e2 ?_
  refine lv_bool hX dL_law_1193 dL_law_1196 dL_law_1197 dL_law_1200 dy2 ?_
  replace hB := Lw_2 hB
  obtain ⟨Z, hZ⟩ : ∃ Z, D_X10_shape r2 f2 q2 z1 y2 = Z := ⟨_, rfl⟩
  refine call_V (n := 2) (k0 := 0) (As := [.int z1, .int y2]) (rest := []) hX hB (k_X10_shape κ l (cw κ a Y.2.2.1 Y.2.2.2.1 Y.2.2.2.2 ++ [Ot o n1 v1]) a2 r2 f2 q2 z1 y2 hm _ _ (hZ.trans (te2 Z))) ⟨rfl, yk_X10_shape⟩ wm_7_22 wm_7_23 wm_7_24 wm_1_6 wm_7_25 ⟨Nat.le_of_ble_eq_true rfl, Nat.le_of_ble_eq_true rfl⟩ ⟨by show _ ≤ 600128; omega, by show _ ≤ 7301098; omega⟩ mw0 rfl rfl rfl hl.1 rfl (Nat.le_of_ble_eq_true rfl) dL_law_1201 (fun o9 w' H locs hp hB => ?_)
  obtain ⟨rfl, hfq, rfl⟩ := hp
  have hK : RA r2 f2 q2 Y := by rw [← hY]; exact kp_shape hr
  refine W.eq (g2 := F0 m 1204 ls [.int Z.1]) rfl ?_
  refine lv_istore (lv' := [(6, .int Z.1), (5, .int x1), (0, .ref b), (1, .ref (a 0)), (2, .ref (a2 0)), (3, .ref o), (4, .int (nI (6 * i)))]) hx hb dL_law_1204 hl0 (by decide) rfl (fun ls hl => ?_)
  have hl0 := hl
  replace hl : lv_has ls 7 (Lv b (a 0) (a2 0) o i) := lv_sub hl [2, 3, 4, 5, 6] rfl
  refine lv_goto (tgt := 1880) hx hb dL_law_1206 (by decide) ?_
  replace hB := Lw_3 hB
  refine W.widen (k := cells + 100) (n := slots + 70000) (by omega) (by omega) ?_
  exact kk _ _ _ _ _ _ _ _ _ _ _ _ (ho hok) hm (Rl_q hK hfq) rfl hB hl
theorem dL_law_1209 : decode cL_law 1209 = .ok (.aload_n 1, 1) := dz_e0 dz_43 hI_L_law (by decide +kernel)
theorem dL_law_1210 : decode cL_law 1210 = .ok (.aload_n 0, 1) := dz_e0 dz_42 hI_L_law (by decide +kernel)
theorem dL_law_1211 : decode cL_law 1211 = .ok (.iload 4, 2) := dz_e1 dz_21 hI_L_law (by decide +kernel)
theorem dL_law_1213 : decode cL_law 1213 = .ok (.iconst 1, 1) := dz_e0 dz_4 hI_L_law (by decide +kernel)
theorem dL_law_1214 : decode cL_law 1214 = .ok (.iadd, 1) := dz_e0 dz_96 hI_L_law (by decide +kernel)
theorem dL_law_1215 : decode cL_law 1215 = .ok (.iaload, 1) := dz_e0 dz_46 hI_L_law (by decide +kernel)
theorem dL_law_1216 : decode cL_law 1216 = .ok (.aload_n 0, 1) := dz_e0 dz_42 hI_L_law (by decide +kernel)
theorem dL_law_1217 : decode cL_law 1217 = .ok (.iload 4, 2) := dz_e1 dz_21 hI_L_law (by decide +kernel)
theorem dL_law_1219 : decode cL_law 1219 = .ok (.iconst 2, 1) := dz_e0 dz_5 hI_L_law (by decide +kernel)
theorem dL_law_1220 : decode cL_law 1220 = .ok (.iadd, 1) := dz_e0 dz_96 hI_L_law (by decide +kernel)
theorem dL_law_1221 : decode cL_law 1221 = .ok (.iaload, 1) := dz_e0 dz_46 hI_L_law (by decide +kernel)
theorem dL_law_1222 : decode cL_law 1222 = .ok (.aload_n 0, 1) := dz_e0 dz_42 hI_L_law (by decide +kernel)
theorem dL_law_1223 : decode cL_law 1223 = .ok (.iload 4, 2) := dz_e1 dz_21 hI_L_law (by decide +kernel)
theorem dL_law_1225 : decode cL_law 1225 = .ok (.iconst 3, 1) := dz_e0 dz_6 hI_L_law (by decide +kernel)
theorem dL_law_1226 : decode cL_law 1226 = .ok (.iadd, 1) := dz_e0 dz_96 hI_L_law (by decide +kernel)
theorem dL_law_1227 : decode cL_law 1227 = .ok (.iaload, 1) := dz_e0 dz_46 hI_L_law (by decide +kernel)
theorem dL_law_1228 : decode cL_law 1228 = .ok (.aload_n 3, 1) := dz_e0 dz_45 hI_L_law (by decide +kernel)
theorem dL_law_1229 : decode cL_law 1229 = .ok (.invokestatic 202, 3) := dz_e2 dz_184 hI_L_law (by decide +kernel)
theorem dL_law_1232 : decode cL_law 1232 = .ok (.istore 5, 2) := dz_e1 dz_54 hI_L_law (by decide +kernel)
theorem dL_law_1234 : decode cL_law 1234 = .ok (.aload_n 2, 1) := dz_e0 dz_44 hI_L_law (by decide +kernel)
theorem dL_law_1235 : decode cL_law 1235 = .ok (.aload_n 0, 1) := dz_e0 dz_42 hI_L_law (by decide +kernel)
theorem dL_law_1236 : decode cL_law 1236 = .ok (.iload 4, 2) := dz_e1 dz_21 hI_L_law (by decide +kernel)
theorem dL_law_1238 : decode cL_law 1238 = .ok (.iconst 1, 1) := dz_e0 dz_4 hI_L_law (by decide +kernel)
theorem dL_law_1239 : decode cL_law 1239 = .ok (.iadd, 1) := dz_e0 dz_96 hI_L_law (by decide +kernel)
theorem dL_law_1240 : decode cL_law 1240 = .ok (.iaload, 1) := dz_e0 dz_46 hI_L_law (by decide +kernel)
theorem dL_law_1241 : decode cL_law 1241 = .ok (.aload_n 0, 1) := dz_e0 dz_42 hI_L_law (by decide +kernel)
theorem dL_law_1242 : decode cL_law 1242 = .ok (.iload 4, 2) := dz_e1 dz_21 hI_L_law (by decide +kernel)
theorem dL_law_1244 : decode cL_law 1244 = .ok (.iconst 2, 1) := dz_e0 dz_5 hI_L_law (by decide +kernel)
theorem dL_law_1245 : decode cL_law 1245 = .ok (.iadd, 1) := dz_e0 dz_96 hI_L_law (by decide +kernel)
theorem dL_law_1246 : decode cL_law 1246 = .ok (.iaload, 1) := dz_e0 dz_46 hI_L_law (by decide +kernel)
theorem dL_law_1247 : decode cL_law 1247 = .ok (.aload_n 0, 1) := dz_e0 dz_42 hI_L_law (by decide +kernel)
theorem dL_law_1248 : decode cL_law 1248 = .ok (.iload 4, 2) := dz_e1 dz_21 hI_L_law (by decide +kernel)
theorem dL_law_1250 : decode cL_law 1250 = .ok (.iconst 3, 1) := dz_e0 dz_6 hI_L_law (by decide +kernel)
theorem dL_law_1251 : decode cL_law 1251 = .ok (.iadd, 1) := dz_e0 dz_96 hI_L_law (by decide +kernel)
theorem dL_law_1252 : decode cL_law 1252 = .ok (.iaload, 1) := dz_e0 dz_46 hI_L_law (by decide +kernel)
theorem dL_law_1253 : decode cL_law 1253 = .ok (.invokevirtual 204, 3) := dz_e2 dz_182 hI_L_law (by decide +kernel)
theorem dL_law_1256 : decode cL_law 1256 = .ok (.istore 6, 2) := dz_e1 dz_54 hI_L_law (by decide +kernel)
theorem dL_law_1258 : decode cL_law 1258 = .ok (.goto 622, 3) := dz_f2 dz_167 hI_L_law (by decide +kernel)
set_option maxHeartbeats 4000000 in
set_option maxRecDepth 100000 in
theorem lc_17 : Lc 1209 := by
  intro κ p l e s m args below meth c A ret b L o i xs a a2 r2 r q q2 f f2 n v cells slots Q H locs ls hst hX hx9 hbl hbA hi hL hok hm hr hB hl hc hs kk
  have hx := hX.1.1
  have hb := hX.1.2.1
  refine lv_aload_n hx hb dL_law_1209 rfl (lv_at hl 1 rfl) ?_
  obtain ⟨z1, e1⟩ : ∃ z, xs (6 * i + 1) = z := ⟨_, rfl⟩
  refine lv_scr (k := 1) hX hB hx9 hbl hbA hi hL hl dL_law_1210 dL_law_1211 dL_law_1213 dL_law_1214 dL_law_1215 (by decide) (by decide) e1 ?_
  obtain ⟨z2, e2⟩ : ∃ z, xs (6 * i + 2) = z := ⟨_, rfl⟩
  refine lv_scr (k := 2) hX hB hx9 hbl hbA hi hL hl dL_law_1216 dL_law_1217 dL_law_1219 dL_law_1220 dL_law_1221 (by decide) (by decide) e2 ?_
  obtain ⟨z3, e3⟩ : ∃ z, xs (6 * i + 3) = z := ⟨_, rfl⟩
  refine lv_scr (k := 3) hX hB hx9 hbl hbA hi hL hl dL_law_1222 dL_law_1223 dL_law_1225 dL_law_1226 dL_law_1227 (by decide) (by decide) e3 ?_
  refine lv_aload_n hx hb dL_law_1228 rfl (lv_at hl 3 rfl) ?_
  replace hB := Lw_1 hB
  obtain ⟨Y, hY⟩ : ∃ Y, D_X5_at r q f z1 z2 z3 = Y := ⟨_, rfl⟩
  refine call_SW (n := 5) (As := [.ref (a 0), .int z1, .int z2, .int z3, .ref o]) (rest := []) hX hB (CMW_frame (mw κ a2 r2 f2 q2 (tb a2) []) (w_at κ l hst a r q f o n v z1 z2 z3 hok Y hY)) yk_L_at wm_3_216 wm_3_217 wm_1_0 wm_3_218 ⟨Nat.le_of_ble_eq_true rfl, Nat.le_of_ble_eq_true rfl⟩ ⟨by show _ ≤ 600128; omega, by show _ ≤ 7301098; omega⟩ rfl hl.1 rfl (Nat.le_of_ble_eq_true rfl) dL_law_1229 (fun o9 w' H locs hp hB => ?_)
  obtain ⟨_, ⟨x1, n1, v1, rfl, ho, hq, hW, rfl⟩, rfl⟩ := hp
  refine W.eq (g2 := F0 m 1232 ls [.int x1]) rfl ?_
  refine lv_istore (lv' := [(5, .int x1), (0, .ref b), (1, .ref (a 0)), (2, .ref (a2 0)), (3, .ref o), (4, .int (nI (6 * i)))]) hx hb dL_law_1232 hl (by decide) rfl (fun ls hl => ?_)
  have hl0 := hl
  replace hl : lv_has ls 7 (Lv b (a 0) (a2 0) o i) := lv_sub hl [1, 2, 3, 4, 5] rfl
  refine lv_aload_n hx hb dL_law_1234 rfl (lv_at hl 2 rfl) ?_
  refine lv_scr (k := 1) hX hB hx9 hbl hbA hi hL hl dL_law_1235 dL_law_1236 dL_law_1238 dL_law_1239 dL_law_1240 (by decide) (by decide) e1 ?_
  refine lv_scr (k := 2) hX hB hx9 hbl hbA hi hL hl dL_law_1241 dL_law_1242 dL_law_1244 dL_law_1245 dL_law_1246 (by decide) (by decide) e2 ?_
  refine lv_scr (k := 3) hX hB hx9 hbl hbA hi hL hl dL_law_1247 dL_law_1248 dL_law_1250 dL_law_1251 dL_law_1252 (by decide) (by decide) e3 ?_
  replace hB := Lw_2 hB
  obtain ⟨Z, hZ⟩ : ∃ Z, D_X10_at r2 f2 q2 z1 z2 z3 = Z := ⟨_, rfl⟩
  refine call_V (n := 3) (k0 := 0) (As := [.int z1, .int z2, .int z3]) (rest := []) hX hB (k_X10_at κ l (cw κ a Y.2.2.1 Y.2.2.2.1 Y.2.2.2.2 ++ [Ot o n1 v1]) a2 r2 f2 q2 z1 z2 z3 hm _ _ (hZ.trans (te2 Z))) ⟨rfl, yk_X10_at⟩ wm_7_26 wm_7_27 wm_7_28 wm_1_6 wm_7_29 ⟨Nat.le_of_ble_eq_true rfl, Nat.le_of_ble_eq_true rfl⟩ ⟨by show _ ≤ 600128; omega, by show _ ≤ 7301098; omega⟩ mw0 rfl rfl rfl hl.1 rfl (Nat.le_of_ble_eq_true rfl) dL_law_1253 (fun o9 w' H locs hp hB => ?_)
  obtain ⟨rfl, hfq, rfl⟩ := hp
  have hK : RA r2 f2 q2 Y := by rw [← hY]; exact kp_at hr
  refine W.eq (g2 := F0 m 1256 ls [.int Z.1]) rfl ?_
  refine lv_istore (lv' := [(6, .int Z.1), (5, .int x1), (0, .ref b), (1, .ref (a 0)), (2, .ref (a2 0)), (3, .ref o), (4, .int (nI (6 * i)))]) hx hb dL_law_1256 hl0 (by decide) rfl (fun ls hl => ?_)
  have hl0 := hl
  replace hl : lv_has ls 7 (Lv b (a 0) (a2 0) o i) := lv_sub hl [2, 3, 4, 5, 6] rfl
  refine lv_goto (tgt := 1880) hx hb dL_law_1258 (by decide) ?_
  replace hB := Lw_3 hB
  refine W.widen (k := cells + 100) (n := slots + 70000) (by omega) (by omega) ?_
  exact kk _ _ _ _ _ _ _ _ _ _ _ _ (ho hok) hm (Rl_q hK hfq) rfl hB hl
end
section
-- 95.lcase3
theorem dL_law_1261 : decode cL_law 1261 = .ok (.aload_n 1, 1) := dz_e0 dz_43 hI_L_law (by decide +kernel)
theorem dL_law_1262 : decode cL_law 1262 = .ok (.aload_n 0, 1) := dz_e0 dz_42 hI_L_law (by decide +kernel)
theorem dL_law_1263 : decode cL_law 1263 = .ok (.iload 4, 2) := dz_e1 dz_21 hI_L_law (by decide +kernel)
theorem dL_law_1265 : decode cL_law 1265 = .ok (.iconst 1, 1) := dz_e0 dz_4 hI_L_law (by decide +kernel)
theorem dL_law_1266 : decode cL_law 1266 = .ok (.iadd, 1) := dz_e0 dz_96 hI_L_law (by decide +kernel)
theorem dL_law_1267 : decode cL_law 1267 = .ok (.iaload, 1) := dz_e0 dz_46 hI_L_law (by decide +kernel)
theorem dL_law_1268 : decode cL_law 1268 = .ok (.aload_n 3, 1) := dz_e0 dz_45 hI_L_law (by decide +kernel)
theorem dL_law_1269 : decode cL_law 1269 = .ok (.invokestatic 205, 3) := dz_e2 dz_184 hI_L_law (by decide +kernel)
theorem dL_law_1272 : decode cL_law 1272 = .ok (.istore 5, 2) := dz_e1 dz_54 hI_L_law (by decide +kernel)
theorem dL_law_1274 : decode cL_law 1274 = .ok (.aload_n 2, 1) := dz_e0 dz_44 hI_L_law (by decide +kernel)
theorem dL_law_1275 : decode cL_law 1275 = .ok (.aload_n 0, 1) := dz_e0 dz_42 hI_L_law (by decide +kernel)
theorem dL_law_1276 : decode cL_law 1276 = .ok (.iload 4, 2) := dz_e1 dz_21 hI_L_law (by decide +kernel)
theorem dL_law_1278 : decode cL_law 1278 = .ok (.iconst 1, 1) := dz_e0 dz_4 hI_L_law (by decide +kernel)
theorem dL_law_1279 : decode cL_law 1279 = .ok (.iadd, 1) := dz_e0 dz_96 hI_L_law (by decide +kernel)
theorem dL_law_1280 : decode cL_law 1280 = .ok (.iaload, 1) := dz_e0 dz_46 hI_L_law (by decide +kernel)
theorem dL_law_1281 : decode cL_law 1281 = .ok (.invokevirtual 207, 3) := dz_e2 dz_182 hI_L_law (by decide +kernel)
theorem dL_law_1284 : decode cL_law 1284 = .ok (.astore 6, 2) := dz_e1 dz_58 hI_L_law (by decide +kernel)
theorem dL_law_1286 : decode cL_law 1286 = .ok (.goto 594, 3) := dz_f2 dz_167 hI_L_law (by decide +kernel)
set_option maxHeartbeats 4000000 in
set_option maxRecDepth 100000 in
theorem lc_18 : Lc 1261 := by
  intro κ p l e s m args below meth c A ret b L o i xs a a2 r2 r q q2 f f2 n v cells slots Q H locs ls hst hX hx9 hbl hbA hi hL hok hm hr hB hl hc hs kk
  have hx := hX.1.1
  have hb := hX.1.2.1
  refine lv_aload_n hx hb dL_law_1261 rfl (lv_at hl 1 rfl) ?_
  obtain ⟨z1, e1⟩ : ∃ z, xs (6 * i + 1) = z := ⟨_, rfl⟩
  refine lv_scr (k := 1) hX hB hx9 hbl hbA hi hL hl dL_law_1262 dL_law_1263 dL_law_1265 dL_law_1266 dL_law_1267 (by decide) (by decide) e1 ?_
  refine lv_aload_n hx hb dL_law_1268 rfl (lv_at hl 3 rfl) ?_
  replace hB := Lw_1 hB
  refine call_SW (n := 3) (As := [.ref (a 0), .int z1, .ref o]) (rest := []) hX hB (CMW_frame (mw κ a2 r2 f2 q2 (tb a2) []) (w_text κ l hst a r q f o n v z1 hok)) yk_L_text wm_3_223 wm_3_224 wm_1_0 wm_3_225 ⟨Nat.le_of_ble_eq_true rfl, Nat.le_of_ble_eq_true rfl⟩ ⟨by show _ ≤ 600128; omega, by show _ ≤ 7301098; omega⟩ rfl hl.1 rfl (Nat.le_of_ble_eq_true rfl) dL_law_1269 (fun o9 w' H locs hp hB => ?_)
  obtain ⟨_, ⟨x1, r1, q1, f1, n1, v1, rfl, ho, hq, hk, rfl⟩, rfl⟩ := hp
  refine W.eq (g2 := F0 m 1272 ls [.int x1]) rfl ?_
  refine lv_istore (lv' := [(5, .int x1), (0, .ref b), (1, .ref (a 0)), (2, .ref (a2 0)), (3, .ref o), (4, .int (nI (6 * i)))]) hx hb dL_law_1272 hl (by decide) rfl (fun ls hl => ?_)
  have hl0 := hl
  replace hl : lv_has ls 7 (Lv b (a 0) (a2 0) o i) := lv_sub hl [1, 2, 3, 4, 5] rfl
  refine lv_aload_n hx hb dL_law_1274 rfl (lv_at hl 2 rfl) ?_
  refine lv_scr (k := 1) hX hB hx9 hbl hbA hi hL hl dL_law_1275 dL_law_1276 dL_law_1278 dL_law_1279 dL_law_1280 (by decide) (by decide) e1 ?_
  replace hB := Lw_2 hB
  refine call_V (n := 1) (k0 := 0) (As := [.int z1]) (rest := []) hX hB (k_X10_text κ l (cw κ a r1 q1 f1 ++ [Ot o n1 v1]) a2 r2 f2 q2 z1 hm) ⟨rfl, yk_X10_text⟩ wm_7_30 wm_7_31 wm_7_32 wm_1_6 wm_7_33 ⟨Nat.le_of_ble_eq_true rfl, Nat.le_of_ble_eq_true rfl⟩ ⟨by show _ ≤ 600128; omega, by show _ ≤ 7301098; omega⟩ mw0 rfl rfl rfl hl.1 rfl (Nat.le_of_ble_eq_true rfl) dL_law_1281 (fun o9 w' H locs hp hB => ?_)
  obtain ⟨x2, q3, rfl, hfq, rfl⟩ := hp
  refine W.eq (g2 := F0 m 1284 ls [.ref x2]) rfl ?_
  refine lv_astore (lv' := [(6, .ref x2), (5, .int x1), (0, .ref b), (1, .ref (a 0)), (2, .ref (a2 0)), (3, .ref o), (4, .int (nI (6 * i)))]) hx hb dL_law_1284 hl0 (by decide) rfl (fun ls hl => ?_)
  have hl0 := hl
  replace hl : lv_has ls 7 (Lv b (a 0) (a2 0) o i) := lv_sub hl [2, 3, 4, 5, 6] rfl
  refine lv_goto (tgt := 1880) hx hb dL_law_1286 (by decide) ?_
  replace hB := Lw_3 hB
  refine W.widen (k := cells + 100) (n := slots + 70000) (by omega) (by omega) ?_
  exact kk _ _ _ _ _ _ _ _ _ _ _ _ (ho hok) hm (Rl_q (hk _ _ _ hr) hfq) rfl hB hl
theorem dL_law_1289 : decode cL_law 1289 = .ok (.aload_n 1, 1) := dz_e0 dz_43 hI_L_law (by decide +kernel)
theorem dL_law_1290 : decode cL_law 1290 = .ok (.aload_n 0, 1) := dz_e0 dz_42 hI_L_law (by decide +kernel)
theorem dL_law_1291 : decode cL_law 1291 = .ok (.iload 4, 2) := dz_e1 dz_21 hI_L_law (by decide +kernel)
theorem dL_law_1293 : decode cL_law 1293 = .ok (.iconst 1, 1) := dz_e0 dz_4 hI_L_law (by decide +kernel)
theorem dL_law_1294 : decode cL_law 1294 = .ok (.iadd, 1) := dz_e0 dz_96 hI_L_law (by decide +kernel)
theorem dL_law_1295 : decode cL_law 1295 = .ok (.iaload, 1) := dz_e0 dz_46 hI_L_law (by decide +kernel)
theorem dL_law_1296 : decode cL_law 1296 = .ok (.aload_n 0, 1) := dz_e0 dz_42 hI_L_law (by decide +kernel)
theorem dL_law_1297 : decode cL_law 1297 = .ok (.iload 4, 2) := dz_e1 dz_21 hI_L_law (by decide +kernel)
theorem dL_law_1299 : decode cL_law 1299 = .ok (.iconst 2, 1) := dz_e0 dz_5 hI_L_law (by decide +kernel)
theorem dL_law_1300 : decode cL_law 1300 = .ok (.iadd, 1) := dz_e0 dz_96 hI_L_law (by decide +kernel)
theorem dL_law_1301 : decode cL_law 1301 = .ok (.iaload, 1) := dz_e0 dz_46 hI_L_law (by decide +kernel)
theorem dL_law_1302 : decode cL_law 1302 = .ok (.aload_n 3, 1) := dz_e0 dz_45 hI_L_law (by decide +kernel)
theorem dL_law_1303 : decode cL_law 1303 = .ok (.invokestatic 208, 3) := dz_e2 dz_184 hI_L_law (by decide +kernel)
theorem dL_law_1306 : decode cL_law 1306 = .ok (.istore 5, 2) := dz_e1 dz_54 hI_L_law (by decide +kernel)
theorem dL_law_1308 : decode cL_law 1308 = .ok (.aload_n 2, 1) := dz_e0 dz_44 hI_L_law (by decide +kernel)
theorem dL_law_1309 : decode cL_law 1309 = .ok (.aload_n 0, 1) := dz_e0 dz_42 hI_L_law (by decide +kernel)
theorem dL_law_1310 : decode cL_law 1310 = .ok (.iload 4, 2) := dz_e1 dz_21 hI_L_law (by decide +kernel)
theorem dL_law_1312 : decode cL_law 1312 = .ok (.iconst 1, 1) := dz_e0 dz_4 hI_L_law (by decide +kernel)
theorem dL_law_1313 : decode cL_law 1313 = .ok (.iadd, 1) := dz_e0 dz_96 hI_L_law (by decide +kernel)
theorem dL_law_1314 : decode cL_law 1314 = .ok (.iaload, 1) := dz_e0 dz_46 hI_L_law (by decide +kernel)
theorem dL_law_1315 : decode cL_law 1315 = .ok (.aload_n 0, 1) := dz_e0 dz_42 hI_L_law (by decide +kernel)
theorem dL_law_1316 : decode cL_law 1316 = .ok (.iload 4, 2) := dz_e1 dz_21 hI_L_law (by decide +kernel)
theorem dL_law_1318 : decode cL_law 1318 = .ok (.iconst 2, 1) := dz_e0 dz_5 hI_L_law (by decide +kernel)
theorem dL_law_1319 : decode cL_law 1319 = .ok (.iadd, 1) := dz_e0 dz_96 hI_L_law (by decide +kernel)
theorem dL_law_1320 : decode cL_law 1320 = .ok (.iaload, 1) := dz_e0 dz_46 hI_L_law (by decide +kernel)
theorem dL_law_1321 : decode cL_law 1321 = .ok (.invokevirtual 210, 3) := dz_e2 dz_182 hI_L_law (by decide +kernel)
theorem dL_law_1324 : decode cL_law 1324 = .ok (.istore 6, 2) := dz_e1 dz_54 hI_L_law (by decide +kernel)
theorem dL_law_1326 : decode cL_law 1326 = .ok (.goto 554, 3) := dz_f2 dz_167 hI_L_law (by decide +kernel)
set_option maxHeartbeats 4000000 in
set_option maxRecDepth 100000 in
theorem lc_19 : Lc 1289 := by
  intro κ p l e s m args below meth c A ret b L o i xs a a2 r2 r q q2 f f2 n v cells slots Q H locs ls hst hX hx9 hbl hbA hi hL hok hm hr hB hl hc hs kk
  have hx := hX.1.1
  have hb := hX.1.2.1
  refine lv_aload_n hx hb dL_law_1289 rfl (lv_at hl 1 rfl) ?_
  obtain ⟨z1, e1⟩ : ∃ z, xs (6 * i + 1) = z := ⟨_, rfl⟩
  refine lv_scr (k := 1) hX hB hx9 hbl hbA hi hL hl dL_law_1290 dL_law_1291 dL_law_1293 dL_law_1294 dL_law_1295 (by decide) (by decide) e1 ?_
  obtain ⟨z2, e2⟩ : ∃ z, xs (6 * i + 2) = z := ⟨_, rfl⟩
  refine lv_scr (k := 2) hX hB hx9 hbl hbA hi hL hl dL_law_1296 dL_law_1297 dL_law_1299 dL_law_1300 dL_law_1301 (by decide) (by decide) e2 ?_
  refine lv_aload_n hx hb dL_law_1302 rfl (lv_at hl 3 rfl) ?_
  replace hB := Lw_1 hB
  obtain ⟨Y, hY⟩ : ∃ Y, D_X5_isSame r q f z1 z2 = Y := ⟨_, rfl⟩
  refine call_SW (n := 4) (As := [.ref (a 0), .int z1, .int z2, .ref o]) (rest := []) hX hB (CMW_frame (mw κ a2 r2 f2 q2 (tb a2) []) (w_isSame κ l hst a r q f o n v z1 z2 hok Y hY)) yk_L_isSame wm_5_11 wm_5_12 wm_1_0 wm_5_13 ⟨Nat.le_of_ble_eq_true rfl, Nat.le_of_ble_eq_true rfl⟩ ⟨by show _ ≤ 600128; omega, by show _ ≤ 7301098; omega⟩ rfl hl.1 rfl (Nat.le_of_ble_eq_true rfl) dL_law_1303 (fun o9 w' H locs hp hB => ?_)
  obtain ⟨_, ⟨x1, n1, v1, rfl, ho, hq, hW, rfl⟩, rfl⟩ := hp
  refine W.eq (g2 := F0 m 1306 ls [.int x1]) rfl ?_
  refine lv_istore (lv' := [(5, .int x1), (0, .ref b), (1, .ref (a 0)), (2, .ref (a2 0)), (3, .ref o), (4, .int (nI (6 * i)))]) hx hb dL_law_1306 hl (by decide) rfl (fun ls hl => ?_)
  have hl0 := hl
  replace hl : lv_has ls 7 (Lv b (a 0) (a2 0) o i) := lv_sub hl [1, 2, 3, 4, 5] rfl
  refine lv_aload_n hx hb dL_law_1308 rfl (lv_at hl 2 rfl) ?_
  refine lv_scr (k := 1) hX hB hx9 hbl hbA hi hL hl dL_law_1309 dL_law_1310 dL_law_1312 dL_law_1313 dL_law_1314 (by decide) (by decide) e1 ?_
  refine lv_scr (k := 2) hX hB hx9 hbl hbA hi hL hl dL_law_1315 dL_law_1316 dL_law_1318 dL_law_1319 dL_law_1320 (by decide) (by decide) e2 ?_
  replace hB := Lw_2 hB
  obtain ⟨Z, hZ⟩ : ∃ Z, D_X10_isSame r2 f2 q2 z1 z2 = Z := ⟨_, rfl⟩
  refine call_V (n := 2) (k0 := 0) (As := [.int z1, .int z2]) (rest := []) hX hB (k_X10_isSame κ l (cw κ a Y.2.2.1 Y.2.2.2.1 Y.2.2.2.2 ++ [Ot o n1 v1]) a2 r2 f2 q2 z1 z2 hm _ _ (hZ.trans (te2 Z))) ⟨rfl, yk_X10_isSame⟩ wm_7_68 wm_7_69 wm_7_70 wm_1_6 wm_7_71 ⟨Nat.le_of_ble_eq_true rfl, Nat.le_of_ble_eq_true rfl⟩ ⟨by show _ ≤ 600128; omega, by show _ ≤ 7301098; omega⟩ mw0 rfl rfl rfl hl.1 rfl (Nat.le_of_ble_eq_true rfl) dL_law_1321 (fun o9 w' H locs hp hB => ?_)
  obtain ⟨rfl, hf0, hfq, rfl⟩ := hp
  have hK : RA r2 f2 q2 Y := by rw [← hY]; exact kp_isSame hr
  refine W.eq (g2 := F0 m 1324 ls [.int Z.1]) rfl ?_
  refine lv_istore (lv' := [(6, .int Z.1), (5, .int x1), (0, .ref b), (1, .ref (a 0)), (2, .ref (a2 0)), (3, .ref o), (4, .int (nI (6 * i)))]) hx hb dL_law_1324 hl0 (by decide) rfl (fun ls hl => ?_)
  have hl0 := hl
  replace hl : lv_has ls 7 (Lv b (a 0) (a2 0) o i) := lv_sub hl [2, 3, 4, 5, 6] rfl
  refine lv_goto (tgt := 1880) hx hb dL_law_1326 (by decide) ?_
  replace hB := Lw_3 hB
  refine W.widen (k := cells + 100) (n := slots + 70000) (by omega) (by omega) ?_
  exact kk _ _ _ _ _ _ _ _ _ _ _ _ (ho hok) hm (Rl_q hK hfq) rfl hB hl
theorem dL_law_1329 : decode cL_law 1329 = .ok (.aload_n 1, 1) := dz_e0 dz_43 hI_L_law (by decide +kernel)
theorem dL_law_1330 : decode cL_law 1330 = .ok (.aload_n 0, 1) := dz_e0 dz_42 hI_L_law (by decide +kernel)
theorem dL_law_1331 : decode cL_law 1331 = .ok (.iload 4, 2) := dz_e1 dz_21 hI_L_law (by decide +kernel)
theorem dL_law_1333 : decode cL_law 1333 = .ok (.iconst 1, 1) := dz_e0 dz_4 hI_L_law (by decide +kernel)
theorem dL_law_1334 : decode cL_law 1334 = .ok (.iadd, 1) := dz_e0 dz_96 hI_L_law (by decide +kernel)
theorem dL_law_1335 : decode cL_law 1335 = .ok (.iaload, 1) := dz_e0 dz_46 hI_L_law (by decide +kernel)
theorem dL_law_1336 : decode cL_law 1336 = .ok (.aload_n 0, 1) := dz_e0 dz_42 hI_L_law (by decide +kernel)
theorem dL_law_1337 : decode cL_law 1337 = .ok (.iload 4, 2) := dz_e1 dz_21 hI_L_law (by decide +kernel)
theorem dL_law_1339 : decode cL_law 1339 = .ok (.iconst 2, 1) := dz_e0 dz_5 hI_L_law (by decide +kernel)
theorem dL_law_1340 : decode cL_law 1340 = .ok (.iadd, 1) := dz_e0 dz_96 hI_L_law (by decide +kernel)
theorem dL_law_1341 : decode cL_law 1341 = .ok (.iaload, 1) := dz_e0 dz_46 hI_L_law (by decide +kernel)
theorem dL_law_1342 : decode cL_law 1342 = .ok (.aload_n 3, 1) := dz_e0 dz_45 hI_L_law (by decide +kernel)
theorem dL_law_1343 : decode cL_law 1343 = .ok (.invokestatic 211, 3) := dz_e2 dz_184 hI_L_law (by decide +kernel)
theorem dL_law_1346 : decode cL_law 1346 = .ok (.istore 5, 2) := dz_e1 dz_54 hI_L_law (by decide +kernel)
theorem dL_law_1348 : decode cL_law 1348 = .ok (.aload_n 2, 1) := dz_e0 dz_44 hI_L_law (by decide +kernel)
theorem dL_law_1349 : decode cL_law 1349 = .ok (.aload_n 0, 1) := dz_e0 dz_42 hI_L_law (by decide +kernel)
theorem dL_law_1350 : decode cL_law 1350 = .ok (.iload 4, 2) := dz_e1 dz_21 hI_L_law (by decide +kernel)
theorem dL_law_1352 : decode cL_law 1352 = .ok (.iconst 1, 1) := dz_e0 dz_4 hI_L_law (by decide +kernel)
theorem dL_law_1353 : decode cL_law 1353 = .ok (.iadd, 1) := dz_e0 dz_96 hI_L_law (by decide +kernel)
theorem dL_law_1354 : decode cL_law 1354 = .ok (.iaload, 1) := dz_e0 dz_46 hI_L_law (by decide +kernel)
theorem dL_law_1355 : decode cL_law 1355 = .ok (.aload_n 0, 1) := dz_e0 dz_42 hI_L_law (by decide +kernel)
theorem dL_law_1356 : decode cL_law 1356 = .ok (.iload 4, 2) := dz_e1 dz_21 hI_L_law (by decide +kernel)
theorem dL_law_1358 : decode cL_law 1358 = .ok (.iconst 2, 1) := dz_e0 dz_5 hI_L_law (by decide +kernel)
theorem dL_law_1359 : decode cL_law 1359 = .ok (.iadd, 1) := dz_e0 dz_96 hI_L_law (by decide +kernel)
theorem dL_law_1360 : decode cL_law 1360 = .ok (.iaload, 1) := dz_e0 dz_46 hI_L_law (by decide +kernel)
theorem dL_law_1361 : decode cL_law 1361 = .ok (.invokevirtual 213, 3) := dz_e2 dz_182 hI_L_law (by decide +kernel)
theorem dL_law_1364 : decode cL_law 1364 = .ok (.istore 6, 2) := dz_e1 dz_54 hI_L_law (by decide +kernel)
theorem dL_law_1366 : decode cL_law 1366 = .ok (.goto 514, 3) := dz_f2 dz_167 hI_L_law (by decide +kernel)
set_option maxHeartbeats 4000000 in
set_option maxRecDepth 100000 in
theorem lc_20 : Lc 1329 := by
  intro κ p l e s m args below meth c A ret b L o i xs a a2 r2 r q q2 f f2 n v cells slots Q H locs ls hst hX hx9 hbl hbA hi hL hok hm hr hB hl hc hs kk
  have hx := hX.1.1
  have hb := hX.1.2.1
  refine lv_aload_n hx hb dL_law_1329 rfl (lv_at hl 1 rfl) ?_
  obtain ⟨z1, e1⟩ : ∃ z, xs (6 * i + 1) = z := ⟨_, rfl⟩
  refine lv_scr (k := 1) hX hB hx9 hbl hbA hi hL hl dL_law_1330 dL_law_1331 dL_law_1333 dL_law_1334 dL_law_1335 (by decide) (by decide) e1 ?_
  obtain ⟨z2, e2⟩ : ∃ z, xs (6 * i + 2) = z := ⟨_, rfl⟩
  refine lv_scr (k := 2) hX hB hx9 hbl hbA hi hL hl dL_law_1336 dL_law_1337 dL_law_1339 dL_law_1340 dL_law_1341 (by decide) (by decide) e2 ?_
  refine lv_aload_n hx hb dL_law_1342 rfl (lv_at hl 3 rfl) ?_
  replace hB := Lw_1 hB
  obtain ⟨Y, hY⟩ : ∃ Y, D_X5_determinant r q f z1 z2 = Y := ⟨_, rfl⟩
  refine call_SW (n := 4) (As := [.ref (a 0), .int z1, .int z2, .ref o]) (rest := []) hX hB (CMW_frame (mw κ a2 r2 f2 q2 (tb a2) []) (w_determinant κ l hst a r q f o n v z1 z2 hok Y hY)) yk_L_determinant wm_5_18 wm_5_19 wm_1_0 wm_5_20 ⟨Nat.le_of_ble_eq_true rfl, Nat.le_of_ble_eq_true rfl⟩ ⟨by show _ ≤ 600128; omega, by show _ ≤ 7301098; omega⟩ rfl hl.1 rfl (Nat.le_of_ble_eq_true rfl) dL_law_1343 (fun o9 w' H locs hp hB => ?_)
  obtain ⟨_, ⟨x1, n1, v1, rfl, ho, hq, hW, rfl⟩, rfl⟩ := hp
  refine W.eq (g2 := F0 m 1346 ls [.int x1]) rfl ?_
  refine lv_istore (lv' := [(5, .int x1), (0, .ref b), (1, .ref (a 0)), (2, .ref (a2 0)), (3, .ref o), (4, .int (nI (6 * i)))]) hx hb dL_law_1346 hl (by decide) rfl (fun ls hl => ?_)
  have hl0 := hl
  replace hl : lv_has ls 7 (Lv b (a 0) (a2 0) o i) := lv_sub hl [1, 2, 3, 4, 5] rfl
  refine lv_aload_n hx hb dL_law_1348 rfl (lv_at hl 2 rfl) ?_
  refine lv_scr (k := 1) hX hB hx9 hbl hbA hi hL hl dL_law_1349 dL_law_1350 dL_law_1352 dL_law_1353 dL_law_1354 (by decide) (by decide) e1 ?_
  refine lv_scr (k := 2) hX hB hx9 hbl hbA hi hL hl dL_law_1355 dL_law_1356 dL_law_1358 dL_law_1359 dL_law_1360 (by decide) (by decide) e2 ?_
  replace hB := Lw_2 hB
  obtain ⟨Z, hZ⟩ : ∃ Z, D_X10_determinant r2 f2 q2 z1 z2 = Z := ⟨_, rfl⟩
  refine call_V (n := 2) (k0 := 0) (As := [.int z1, .int z2]) (rest := []) hX hB (k_X10_determinant κ l (cw κ a Y.2.2.1 Y.2.2.2.1 Y.2.2.2.2 ++ [Ot o n1 v1]) a2 r2 f2 q2 z1 z2 hm _ _ (hZ.trans (te2 Z))) ⟨rfl, yk_X10_determinant⟩ wm_7_72 wm_7_73 wm_7_74 wm_1_6 wm_7_75 ⟨Nat.le_of_ble_eq_true rfl, Nat.le_of_ble_eq_true rfl⟩ ⟨by show _ ≤ 600128; omega, by show _ ≤ 7301098; omega⟩ mw0 rfl rfl rfl hl.1 rfl (Nat.le_of_ble_eq_true rfl) dL_law_1361 (fun o9 w' H locs hp hB => ?_)
  obtain ⟨rfl, hfq, rfl⟩ := hp
  have hK : RA r2 f2 q2 Y := by rw [← hY]; exact kp_determinant hr
  refine W.eq (g2 := F0 m 1364 ls [.int Z.1]) rfl ?_
  refine lv_istore (lv' := [(6, .int Z.1), (5, .int x1), (0, .ref b), (1, .ref (a 0)), (2, .ref (a2 0)), (3, .ref o), (4, .int (nI (6 * i)))]) hx hb dL_law_1364 hl0 (by decide) rfl (fun ls hl => ?_)
  have hl0 := hl
  replace hl : lv_has ls 7 (Lv b (a 0) (a2 0) o i) := lv_sub hl [2, 3, 4, 5, 6] rfl
  refine lv_goto (tgt := 1880) hx hb dL_law_1366 (by decide) ?_
  replace hB := Lw_3 hB
  refine W.widen (k := cells + 100) (n := slots + 70000) (by omega) (by omega) ?_
  exact kk _ _ _ _ _ _ _ _ _ _ _ _ (ho hok) hm (Rl_q hK hfq) rfl hB hl
theorem dL_law_1369 : decode cL_law 1369 = .ok (.aload_n 1, 1) := dz_e0 dz_43 hI_L_law (by decide +kernel)
theorem dL_law_1370 : decode cL_law 1370 = .ok (.aload_n 0, 1) := dz_e0 dz_42 hI_L_law (by decide +kernel)
theorem dL_law_1371 : decode cL_law 1371 = .ok (.iload 4, 2) := dz_e1 dz_21 hI_L_law (by decide +kernel)
theorem dL_law_1373 : decode cL_law 1373 = .ok (.iconst 1, 1) := dz_e0 dz_4 hI_L_law (by decide +kernel)
theorem dL_law_1374 : decode cL_law 1374 = .ok (.iadd, 1) := dz_e0 dz_96 hI_L_law (by decide +kernel)
theorem dL_law_1375 : decode cL_law 1375 = .ok (.iaload, 1) := dz_e0 dz_46 hI_L_law (by decide +kernel)
theorem dL_law_1376 : decode cL_law 1376 = .ok (.aload_n 0, 1) := dz_e0 dz_42 hI_L_law (by decide +kernel)
theorem dL_law_1377 : decode cL_law 1377 = .ok (.iload 4, 2) := dz_e1 dz_21 hI_L_law (by decide +kernel)
theorem dL_law_1379 : decode cL_law 1379 = .ok (.iconst 2, 1) := dz_e0 dz_5 hI_L_law (by decide +kernel)
theorem dL_law_1380 : decode cL_law 1380 = .ok (.iadd, 1) := dz_e0 dz_96 hI_L_law (by decide +kernel)
theorem dL_law_1381 : decode cL_law 1381 = .ok (.iaload, 1) := dz_e0 dz_46 hI_L_law (by decide +kernel)
theorem dL_law_1382 : decode cL_law 1382 = .ok (.aload_n 0, 1) := dz_e0 dz_42 hI_L_law (by decide +kernel)
theorem dL_law_1383 : decode cL_law 1383 = .ok (.iload 4, 2) := dz_e1 dz_21 hI_L_law (by decide +kernel)
theorem dL_law_1385 : decode cL_law 1385 = .ok (.iconst 3, 1) := dz_e0 dz_6 hI_L_law (by decide +kernel)
theorem dL_law_1386 : decode cL_law 1386 = .ok (.iadd, 1) := dz_e0 dz_96 hI_L_law (by decide +kernel)
theorem dL_law_1387 : decode cL_law 1387 = .ok (.iaload, 1) := dz_e0 dz_46 hI_L_law (by decide +kernel)
theorem dL_law_1388 : decode cL_law 1388 = .ok (.aload_n 3, 1) := dz_e0 dz_45 hI_L_law (by decide +kernel)
theorem dL_law_1389 : decode cL_law 1389 = .ok (.invokestatic 214, 3) := dz_e2 dz_184 hI_L_law (by decide +kernel)
theorem dL_law_1392 : decode cL_law 1392 = .ok (.istore 5, 2) := dz_e1 dz_54 hI_L_law (by decide +kernel)
theorem dL_law_1394 : decode cL_law 1394 = .ok (.aload_n 2, 1) := dz_e0 dz_44 hI_L_law (by decide +kernel)
theorem dL_law_1395 : decode cL_law 1395 = .ok (.aload_n 0, 1) := dz_e0 dz_42 hI_L_law (by decide +kernel)
theorem dL_law_1396 : decode cL_law 1396 = .ok (.iload 4, 2) := dz_e1 dz_21 hI_L_law (by decide +kernel)
theorem dL_law_1398 : decode cL_law 1398 = .ok (.iconst 1, 1) := dz_e0 dz_4 hI_L_law (by decide +kernel)
theorem dL_law_1399 : decode cL_law 1399 = .ok (.iadd, 1) := dz_e0 dz_96 hI_L_law (by decide +kernel)
theorem dL_law_1400 : decode cL_law 1400 = .ok (.iaload, 1) := dz_e0 dz_46 hI_L_law (by decide +kernel)
theorem dL_law_1401 : decode cL_law 1401 = .ok (.aload_n 0, 1) := dz_e0 dz_42 hI_L_law (by decide +kernel)
theorem dL_law_1402 : decode cL_law 1402 = .ok (.iload 4, 2) := dz_e1 dz_21 hI_L_law (by decide +kernel)
theorem dL_law_1404 : decode cL_law 1404 = .ok (.iconst 2, 1) := dz_e0 dz_5 hI_L_law (by decide +kernel)
theorem dL_law_1405 : decode cL_law 1405 = .ok (.iadd, 1) := dz_e0 dz_96 hI_L_law (by decide +kernel)
theorem dL_law_1406 : decode cL_law 1406 = .ok (.iaload, 1) := dz_e0 dz_46 hI_L_law (by decide +kernel)
theorem dL_law_1407 : decode cL_law 1407 = .ok (.aload_n 0, 1) := dz_e0 dz_42 hI_L_law (by decide +kernel)
theorem dL_law_1408 : decode cL_law 1408 = .ok (.iload 4, 2) := dz_e1 dz_21 hI_L_law (by decide +kernel)
theorem dL_law_1410 : decode cL_law 1410 = .ok (.iconst 3, 1) := dz_e0 dz_6 hI_L_law (by decide +kernel)
theorem dL_law_1411 : decode cL_law 1411 = .ok (.iadd, 1) := dz_e0 dz_96 hI_L_law (by decide +kernel)
theorem dL_law_1412 : decode cL_law 1412 = .ok (.iaload, 1) := dz_e0 dz_46 hI_L_law (by decide +kernel)
theorem dL_law_1413 : decode cL_law 1413 = .ok (.invokevirtual 216, 3) := dz_e2 dz_182 hI_L_law (by decide +kernel)
theorem dL_law_1416 : decode cL_law 1416 = .ok (.istore 6, 2) := dz_e1 dz_54 hI_L_law (by decide +kernel)
theorem dL_law_1418 : decode cL_law 1418 = .ok (.goto 462, 3) := dz_f2 dz_167 hI_L_law (by decide +kernel)
set_option maxHeartbeats 4000000 in
set_option maxRecDepth 100000 in
theorem lc_21 : Lc 1369 := by
  intro κ p l e s m args below meth c A ret b L o i xs a a2 r2 r q q2 f f2 n v cells slots Q H locs ls hst hX hx9 hbl hbA hi hL hok hm hr hB hl hc hs kk
  have hx := hX.1.1
  have hb := hX.1.2.1
  refine lv_aload_n hx hb dL_law_1369 rfl (lv_at hl 1 rfl) ?_
  obtain ⟨z1, e1⟩ : ∃ z, xs (6 * i + 1) = z := ⟨_, rfl⟩
  refine lv_scr (k := 1) hX hB hx9 hbl hbA hi hL hl dL_law_1370 dL_law_1371 dL_law_1373 dL_law_1374 dL_law_1375 (by decide) (by decide) e1 ?_
  obtain ⟨z2, e2⟩ : ∃ z, xs (6 * i + 2) = z := ⟨_, rfl⟩
  refine lv_scr (k := 2) hX hB hx9 hbl hbA hi hL hl dL_law_1376 dL_law_1377 dL_law_1379 dL_law_1380 dL_law_1381 (by decide) (by decide) e2 ?_
  obtain ⟨z3, e3⟩ : ∃ z, xs (6 * i + 3) = z := ⟨_, rfl⟩
  refine lv_scr (k := 3) hX hB hx9 hbl hbA hi hL hl dL_law_1382 dL_law_1383 dL_law_1385 dL_law_1386 dL_law_1387 (by decide) (by decide) e3 ?_
  refine lv_aload_n hx hb dL_law_1388 rfl (lv_at hl 3 rfl) ?_
  replace hB := Lw_1 hB
  obtain ⟨Y, hY⟩ : ∃ Y, D_X5_minor r q f z1 z2 z3 = Y := ⟨_, rfl⟩
  refine call_SW (n := 5) (As := [.ref (a 0), .int z1, .int z2, .int z3, .ref o]) (rest := []) hX hB (CMW_frame (mw κ a2 r2 f2 q2 (tb a2) []) (w_minor κ l hst a r q f o n v z1 z2 z3 hok Y hY)) yk_L_minor wm_5_45 wm_5_46 wm_1_0 wm_5_47 ⟨Nat.le_of_ble_eq_true rfl, Nat.le_of_ble_eq_true rfl⟩ ⟨by show _ ≤ 600128; omega, by show _ ≤ 7301098; omega⟩ rfl hl.1 rfl (Nat.le_of_ble_eq_true rfl) dL_law_1389 (fun o9 w' H locs hp hB => ?_)
  obtain ⟨_, ⟨x1, n1, v1, rfl, ho, hq, hW, rfl⟩, rfl⟩ := hp
  refine W.eq (g2 := F0 m 1392 ls [.int x1]) rfl ?_
  refine lv_istore (lv' := [(5, .int x1), (0, .ref b), (1, .ref (a 0)), (2, .ref (a2 0)), (3, .ref o), (4, .int (nI (6 * i)))]) hx hb dL_law_1392 hl (by decide) rfl (fun ls hl => ?_)
  have hl0 := hl
  replace hl : lv_has ls 7 (Lv b (a 0) (a2 0) o i) := lv_sub hl [1, 2, 3, 4, 5] rfl
  refine lv_aload_n hx hb dL_law_1394 rfl (lv_at hl 2 rfl) ?_
  refine lv_scr (k := 1) hX hB hx9 hbl hbA hi hL hl dL_law_1395 dL_law_1396 dL_law_1398 dL_law_1399 dL_law_1400 (by decide) (by decide) e1 ?_
  refine lv_scr (k := 2) hX hB hx9 hbl hbA hi hL hl dL_law_1401 dL_law_1402 dL_law_1404 dL_law_1405 dL_law_1406 (by decide) (by decide) e2 ?_
  refine lv_scr (k := 3) hX hB hx9 hbl hbA hi hL hl dL_law_1407 dL_law_1408 dL_law_1410 dL_law_1411 dL_law_1412 (by decide) (by decide) e3 ?_
  replace hB := Lw_2 hB
  obtain ⟨Z, hZ⟩ : ∃ Z, D_X10_minor r2 f2 q2 z1 z2 z3 = Z := ⟨_, rfl⟩
  refine call_V (n := 3) (k0 := 0) (As := [.int z1, .int z2, .int z3]) (rest := []) hX hB (k_X10_minor κ l (cw κ a Y.2.2.1 Y.2.2.2.1 Y.2.2.2.2 ++ [Ot o n1 v1]) a2 r2 f2 q2 z1 z2 z3 hm _ _ (hZ.trans (te2 Z))) ⟨rfl, yk_X10_minor⟩ wm_7_92 wm_7_93 wm_7_94 wm_1_6 wm_7_95 ⟨Nat.le_of_ble_eq_true rfl, Nat.le_of_ble_eq_true rfl⟩ ⟨by show _ ≤ 600128; omega, by show _ ≤ 7301098; omega⟩ mw0 rfl rfl rfl hl.1 rfl (Nat.le_of_ble_eq_true rfl) dL_law_1413 (fun o9 w' H locs hp hB => ?_)
  obtain ⟨rfl, hfq, rfl⟩ := hp
  have hK : RA r2 f2 q2 Y := by rw [← hY]; exact kp_minor hr
  refine W.eq (g2 := F0 m 1416 ls [.int Z.1]) rfl ?_
  refine lv_istore (lv' := [(6, .int Z.1), (5, .int x1), (0, .ref b), (1, .ref (a 0)), (2, .ref (a2 0)), (3, .ref o), (4, .int (nI (6 * i)))]) hx hb dL_law_1416 hl0 (by decide) rfl (fun ls hl => ?_)
  have hl0 := hl
  replace hl : lv_has ls 7 (Lv b (a 0) (a2 0) o i) := lv_sub hl [2, 3, 4, 5, 6] rfl
  refine lv_goto (tgt := 1880) hx hb dL_law_1418 (by decide) ?_
  replace hB := Lw_3 hB
  refine W.widen (k := cells + 100) (n := slots + 70000) (by omega) (by omega) ?_
  exact kk _ _ _ _ _ _ _ _ _ _ _ _ (ho hok) hm (Rl_q hK hfq) rfl hB hl
theorem dL_law_1421 : decode cL_law 1421 = .ok (.aload_n 1, 1) := dz_e0 dz_43 hI_L_law (by decide +kernel)
theorem dL_law_1422 : decode cL_law 1422 = .ok (.aload_n 0, 1) := dz_e0 dz_42 hI_L_law (by decide +kernel)
theorem dL_law_1423 : decode cL_law 1423 = .ok (.iload 4, 2) := dz_e1 dz_21 hI_L_law (by decide +kernel)
theorem dL_law_1425 : decode cL_law 1425 = .ok (.iconst 1, 1) := dz_e0 dz_4 hI_L_law (by decide +kernel)
theorem dL_law_1426 : decode cL_law 1426 = .ok (.iadd, 1) := dz_e0 dz_96 hI_L_law (by decide +kernel)
theorem dL_law_1427 : decode cL_law 1427 = .ok (.iaload, 1) := dz_e0 dz_46 hI_L_law (by decide +kernel)
theorem dL_law_1428 : decode cL_law 1428 = .ok (.aload_n 0, 1) := dz_e0 dz_42 hI_L_law (by decide +kernel)
theorem dL_law_1429 : decode cL_law 1429 = .ok (.iload 4, 2) := dz_e1 dz_21 hI_L_law (by decide +kernel)
theorem dL_law_1431 : decode cL_law 1431 = .ok (.iconst 2, 1) := dz_e0 dz_5 hI_L_law (by decide +kernel)
theorem dL_law_1432 : decode cL_law 1432 = .ok (.iadd, 1) := dz_e0 dz_96 hI_L_law (by decide +kernel)
theorem dL_law_1433 : decode cL_law 1433 = .ok (.iaload, 1) := dz_e0 dz_46 hI_L_law (by decide +kernel)
theorem dL_law_1434 : decode cL_law 1434 = .ok (.aload_n 3, 1) := dz_e0 dz_45 hI_L_law (by decide +kernel)
theorem dL_law_1435 : decode cL_law 1435 = .ok (.invokestatic 217, 3) := dz_e2 dz_184 hI_L_law (by decide +kernel)
theorem dL_law_1438 : decode cL_law 1438 = .ok (.istore 5, 2) := dz_e1 dz_54 hI_L_law (by decide +kernel)
theorem dL_law_1440 : decode cL_law 1440 = .ok (.aload_n 2, 1) := dz_e0 dz_44 hI_L_law (by decide +kernel)
theorem dL_law_1441 : decode cL_law 1441 = .ok (.aload_n 0, 1) := dz_e0 dz_42 hI_L_law (by decide +kernel)
theorem dL_law_1442 : decode cL_law 1442 = .ok (.iload 4, 2) := dz_e1 dz_21 hI_L_law (by decide +kernel)
theorem dL_law_1444 : decode cL_law 1444 = .ok (.iconst 1, 1) := dz_e0 dz_4 hI_L_law (by decide +kernel)
theorem dL_law_1445 : decode cL_law 1445 = .ok (.iadd, 1) := dz_e0 dz_96 hI_L_law (by decide +kernel)
theorem dL_law_1446 : decode cL_law 1446 = .ok (.iaload, 1) := dz_e0 dz_46 hI_L_law (by decide +kernel)
theorem dL_law_1447 : decode cL_law 1447 = .ok (.aload_n 0, 1) := dz_e0 dz_42 hI_L_law (by decide +kernel)
theorem dL_law_1448 : decode cL_law 1448 = .ok (.iload 4, 2) := dz_e1 dz_21 hI_L_law (by decide +kernel)
theorem dL_law_1450 : decode cL_law 1450 = .ok (.iconst 2, 1) := dz_e0 dz_5 hI_L_law (by decide +kernel)
theorem dL_law_1451 : decode cL_law 1451 = .ok (.iadd, 1) := dz_e0 dz_96 hI_L_law (by decide +kernel)
theorem dL_law_1452 : decode cL_law 1452 = .ok (.iaload, 1) := dz_e0 dz_46 hI_L_law (by decide +kernel)
theorem dL_law_1453 : decode cL_law 1453 = .ok (.invokevirtual 219, 3) := dz_e2 dz_182 hI_L_law (by decide +kernel)
theorem dL_law_1456 : decode cL_law 1456 = .ok (.istore 6, 2) := dz_e1 dz_54 hI_L_law (by decide +kernel)
theorem dL_law_1458 : decode cL_law 1458 = .ok (.goto 422, 3) := dz_f2 dz_167 hI_L_law (by decide +kernel)
set_option maxHeartbeats 4000000 in
set_option maxRecDepth 100000 in
theorem lc_22 : Lc 1421 := by
  intro κ p l e s m args below meth c A ret b L o i xs a a2 r2 r q q2 f f2 n v cells slots Q H locs ls hst hX hx9 hbl hbA hi hL hok hm hr hB hl hc hs kk
  have hx := hX.1.1
  have hb := hX.1.2.1
  refine lv_aload_n hx hb dL_law_1421 rfl (lv_at hl 1 rfl) ?_
  obtain ⟨z1, e1⟩ : ∃ z, xs (6 * i + 1) = z := ⟨_, rfl⟩
  refine lv_scr (k := 1) hX hB hx9 hbl hbA hi hL hl dL_law_1422 dL_law_1423 dL_law_1425 dL_law_1426 dL_law_1427 (by decide) (by decide) e1 ?_
  obtain ⟨z2, e2⟩ : ∃ z, xs (6 * i + 2) = z := ⟨_, rfl⟩
  refine lv_scr (k := 2) hX hB hx9 hbl hbA hi hL hl dL_law_1428 dL_law_1429 dL_law_1431 dL_law_1432 dL_law_1433 (by decide) (by decide) e2 ?_
  refine lv_aload_n hx hb dL_law_1434 rfl (lv_at hl 3 rfl) ?_
  replace hB := Lw_1 hB
  obtain ⟨Y, hY⟩ : ∃ Y, D_X5_divisor r q f z1 z2 = Y := ⟨_, rfl⟩
  refine call_SW (n := 4) (As := [.ref (a 0), .int z1, .int z2, .ref o]) (rest := []) hX hB (CMW_frame (mw κ a2 r2 f2 q2 (tb a2) []) (w_divisor κ l hst a r q f o n v z1 z2 hok Y hY)) yk_L_divisor wm_5_54 wm_5_55 wm_1_0 wm_5_56 ⟨Nat.le_of_ble_eq_true rfl, Nat.le_of_ble_eq_true rfl⟩ ⟨by show _ ≤ 600128; omega, by show _ ≤ 7301098; omega⟩ rfl hl.1 rfl (Nat.le_of_ble_eq_true rfl) dL_law_1435 (fun o9 w' H locs hp hB => ?_)
  obtain ⟨_, ⟨x1, n1, v1, rfl, ho, hq, hW, rfl⟩, rfl⟩ := hp
  refine W.eq (g2 := F0 m 1438 ls [.int x1]) rfl ?_
  refine lv_istore (lv' := [(5, .int x1), (0, .ref b), (1, .ref (a 0)), (2, .ref (a2 0)), (3, .ref o), (4, .int (nI (6 * i)))]) hx hb dL_law_1438 hl (by decide) rfl (fun ls hl => ?_)
  have hl0 := hl
  replace hl : lv_has ls 7 (Lv b (a 0) (a2 0) o i) := lv_sub hl [1, 2, 3, 4, 5] rfl
  refine lv_aload_n hx hb dL_law_1440 rfl (lv_at hl 2 rfl) ?_
  refine lv_scr (k := 1) hX hB hx9 hbl hbA hi hL hl dL_law_1441 dL_law_1442 dL_law_1444 dL_law_1445 dL_law_1446 (by decide) (by decide) e1 ?_
  refine lv_scr (k := 2) hX hB hx9 hbl hbA hi hL hl dL_law_1447 dL_law_1448 dL_law_1450 dL_law_1451 dL_law_1452 (by decide) (by decide) e2 ?_
  replace hB := Lw_2 hB
  obtain ⟨Z, hZ⟩ : ∃ Z, D_X10_divisor r2 f2 q2 z1 z2 = Z := ⟨_, rfl⟩
  refine call_V (n := 2) (k0 := 0) (As := [.int z1, .int z2]) (rest := []) hX hB (k_X10_divisor κ l (cw κ a Y.2.2.1 Y.2.2.2.1 Y.2.2.2.2 ++ [Ot o n1 v1]) a2 r2 f2 q2 z1 z2 hm _ _ (hZ.trans (te2 Z))) ⟨rfl, yk_X10_divisor⟩ wm_7_96 wm_7_97 wm_7_98 wm_1_6 wm_7_99 ⟨Nat.le_of_ble_eq_true rfl, Nat.le_of_ble_eq_true rfl⟩ ⟨by show _ ≤ 600128; omega, by show _ ≤ 7301098; omega⟩ mw0 rfl rfl rfl hl.1 rfl (Nat.le_of_ble_eq_true rfl) dL_law_1453 (fun o9 w' H locs hp hB => ?_)
  obtain ⟨rfl, hfq, rfl⟩ := hp
  have hK : RA r2 f2 q2 Y := by rw [← hY]; exact kp_divisor hr
  refine W.eq (g2 := F0 m 1456 ls [.int Z.1]) rfl ?_
  refine lv_istore (lv' := [(6, .int Z.1), (5, .int x1), (0, .ref b), (1, .ref (a 0)), (2, .ref (a2 0)), (3, .ref o), (4, .int (nI (6 * i)))]) hx hb dL_law_1456 hl0 (by decide) rfl (fun ls hl => ?_)
  have hl0 := hl
  replace hl : lv_has ls 7 (Lv b (a 0) (a2 0) o i) := lv_sub hl [2, 3, 4, 5, 6] rfl
  refine lv_goto (tgt := 1880) hx hb dL_law_1458 (by decide) ?_
  replace hB := Lw_3 hB
  refine W.widen (k := cells + 100) (n := slots + 70000) (by omega) (by omega) ?_
  exact kk _ _ _ _ _ _ _ _ _ _ _ _ (ho hok) hm (Rl_q hK hfq) rfl hB hl
theorem dL_law_1461 : decode cL_law 1461 = .ok (.aload_n 1, 1) := dz_e0 dz_43 hI_L_law (by decide +kernel)
theorem dL_law_1462 : decode cL_law 1462 = .ok (.aload_n 0, 1) := dz_e0 dz_42 hI_L_law (by decide +kernel)
theorem dL_law_1463 : decode cL_law 1463 = .ok (.iload 4, 2) := dz_e1 dz_21 hI_L_law (by decide +kernel)
theorem dL_law_1465 : decode cL_law 1465 = .ok (.iconst 1, 1) := dz_e0 dz_4 hI_L_law (by decide +kernel)
theorem dL_law_1466 : decode cL_law 1466 = .ok (.iadd, 1) := dz_e0 dz_96 hI_L_law (by decide +kernel)
theorem dL_law_1467 : decode cL_law 1467 = .ok (.iaload, 1) := dz_e0 dz_46 hI_L_law (by decide +kernel)
theorem dL_law_1468 : decode cL_law 1468 = .ok (.aload_n 0, 1) := dz_e0 dz_42 hI_L_law (by decide +kernel)
theorem dL_law_1469 : decode cL_law 1469 = .ok (.iload 4, 2) := dz_e1 dz_21 hI_L_law (by decide +kernel)
theorem dL_law_1471 : decode cL_law 1471 = .ok (.iconst 2, 1) := dz_e0 dz_5 hI_L_law (by decide +kernel)
theorem dL_law_1472 : decode cL_law 1472 = .ok (.iadd, 1) := dz_e0 dz_96 hI_L_law (by decide +kernel)
theorem dL_law_1473 : decode cL_law 1473 = .ok (.iaload, 1) := dz_e0 dz_46 hI_L_law (by decide +kernel)
theorem dL_law_1474 : decode cL_law 1474 = .ok (.aload_n 3, 1) := dz_e0 dz_45 hI_L_law (by decide +kernel)
theorem dL_law_1475 : decode cL_law 1475 = .ok (.invokestatic 220, 3) := dz_e2 dz_184 hI_L_law (by decide +kernel)
theorem dL_law_1478 : decode cL_law 1478 = .ok (.istore 5, 2) := dz_e1 dz_54 hI_L_law (by decide +kernel)
theorem dL_law_1480 : decode cL_law 1480 = .ok (.aload_n 2, 1) := dz_e0 dz_44 hI_L_law (by decide +kernel)
theorem dL_law_1481 : decode cL_law 1481 = .ok (.aload_n 0, 1) := dz_e0 dz_42 hI_L_law (by decide +kernel)
theorem dL_law_1482 : decode cL_law 1482 = .ok (.iload 4, 2) := dz_e1 dz_21 hI_L_law (by decide +kernel)
theorem dL_law_1484 : decode cL_law 1484 = .ok (.iconst 1, 1) := dz_e0 dz_4 hI_L_law (by decide +kernel)
theorem dL_law_1485 : decode cL_law 1485 = .ok (.iadd, 1) := dz_e0 dz_96 hI_L_law (by decide +kernel)
theorem dL_law_1486 : decode cL_law 1486 = .ok (.iaload, 1) := dz_e0 dz_46 hI_L_law (by decide +kernel)
theorem dL_law_1487 : decode cL_law 1487 = .ok (.aload_n 0, 1) := dz_e0 dz_42 hI_L_law (by decide +kernel)
theorem dL_law_1488 : decode cL_law 1488 = .ok (.iload 4, 2) := dz_e1 dz_21 hI_L_law (by decide +kernel)
theorem dL_law_1490 : decode cL_law 1490 = .ok (.iconst 2, 1) := dz_e0 dz_5 hI_L_law (by decide +kernel)
theorem dL_law_1491 : decode cL_law 1491 = .ok (.iadd, 1) := dz_e0 dz_96 hI_L_law (by decide +kernel)
theorem dL_law_1492 : decode cL_law 1492 = .ok (.iaload, 1) := dz_e0 dz_46 hI_L_law (by decide +kernel)
theorem dL_law_1493 : decode cL_law 1493 = .ok (.invokevirtual 222, 3) := dz_e2 dz_182 hI_L_law (by decide +kernel)
theorem dL_law_1496 : decode cL_law 1496 = .ok (.istore 6, 2) := dz_e1 dz_54 hI_L_law (by decide +kernel)
theorem dL_law_1498 : decode cL_law 1498 = .ok (.goto 382, 3) := dz_f2 dz_167 hI_L_law (by decide +kernel)
set_option maxHeartbeats 4000000 in
set_option maxRecDepth 100000 in
theorem lc_23 : Lc 1461 := by
  intro κ p l e s m args below meth c A ret b L o i xs a a2 r2 r q q2 f f2 n v cells slots Q H locs ls hst hX hx9 hbl hbA hi hL hok hm hr hB hl hc hs kk
  have hx := hX.1.1
  have hb := hX.1.2.1
  refine lv_aload_n hx hb dL_law_1461 rfl (lv_at hl 1 rfl) ?_
  obtain ⟨z1, e1⟩ : ∃ z, xs (6 * i + 1) = z := ⟨_, rfl⟩
  refine lv_scr (k := 1) hX hB hx9 hbl hbA hi hL hl dL_law_1462 dL_law_1463 dL_law_1465 dL_law_1466 dL_law_1467 (by decide) (by decide) e1 ?_
  obtain ⟨z2, e2⟩ : ∃ z, xs (6 * i + 2) = z := ⟨_, rfl⟩
  refine lv_scr (k := 2) hX hB hx9 hbl hbA hi hL hl dL_law_1468 dL_law_1469 dL_law_1471 dL_law_1472 dL_law_1473 (by decide) (by decide) e2 ?_
  refine lv_aload_n hx hb dL_law_1474 rfl (lv_at hl 3 rfl) ?_
  replace hB := Lw_1 hB
  obtain ⟨Y, hY⟩ : ∃ Y, D_X5_rank r q f z1 z2 = Y := ⟨_, rfl⟩
  refine call_SW (n := 4) (As := [.ref (a 0), .int z1, .int z2, .ref o]) (rest := []) hX hB (CMW_frame (mw κ a2 r2 f2 q2 (tb a2) []) (w_rank κ l hst a r q f o n v z1 z2 hok Y hY)) yk_L_rank wm_5_61 wm_5_62 wm_1_0 wm_5_63 ⟨Nat.le_of_ble_eq_true rfl, Nat.le_of_ble_eq_true rfl⟩ ⟨by show _ ≤ 600128; omega, by show _ ≤ 7301098; omega⟩ rfl hl.1 rfl (Nat.le_of_ble_eq_true rfl) dL_law_1475 (fun o9 w' H locs hp hB => ?_)
  obtain ⟨_, ⟨x1, n1, v1, rfl, ho, hq, hW, rfl⟩, rfl⟩ := hp
  refine W.eq (g2 := F0 m 1478 ls [.int x1]) rfl ?_
  refine lv_istore (lv' := [(5, .int x1), (0, .ref b), (1, .ref (a 0)), (2, .ref (a2 0)), (3, .ref o), (4, .int (nI (6 * i)))]) hx hb dL_law_1478 hl (by decide) rfl (fun ls hl => ?_)
  have hl0 := hl
  replace hl : lv_has ls 7 (Lv b (a 0) (a2 0) o i) := lv_sub hl [1, 2, 3, 4, 5] rfl
  refine lv_aload_n hx hb dL_law_1480 rfl (lv_at hl 2 rfl) ?_
  refine lv_scr (k := 1) hX hB hx9 hbl hbA hi hL hl dL_law_1481 dL_law_1482 dL_law_1484 dL_law_1485 dL_law_1486 (by decide) (by decide) e1 ?_
  refine lv_scr (k := 2) hX hB hx9 hbl hbA hi hL hl dL_law_1487 dL_law_1488 dL_law_1490 dL_law_1491 dL_law_1492 (by decide) (by decide) e2 ?_
  replace hB := Lw_2 hB
  obtain ⟨Z, hZ⟩ : ∃ Z, D_X10_rank r2 f2 q2 z1 z2 = Z := ⟨_, rfl⟩
  refine call_V (n := 2) (k0 := 0) (As := [.int z1, .int z2]) (rest := []) hX hB (k_X10_rank κ l (cw κ a Y.2.2.1 Y.2.2.2.1 Y.2.2.2.2 ++ [Ot o n1 v1]) a2 r2 f2 q2 z1 z2 hm _ _ (hZ.trans (te2 Z))) ⟨rfl, yk_X10_rank⟩ wm_7_111 wm_7_112 wm_7_113 wm_1_6 wm_7_114 ⟨Nat.le_of_ble_eq_true rfl, Nat.le_of_ble_eq_true rfl⟩ ⟨by show _ ≤ 600128; omega, by show _ ≤ 7301098; omega⟩ mw0 rfl rfl rfl hl.1 rfl (Nat.le_of_ble_eq_true rfl) dL_law_1493 (fun o9 w' H locs hp hB => ?_)
  obtain ⟨rfl, hfq, rfl⟩ := hp
  have hK : RA r2 f2 q2 Y := by rw [← hY]; exact kp_rank hr
  refine W.eq (g2 := F0 m 1496 ls [.int Z.1]) rfl ?_
  refine lv_istore (lv' := [(6, .int Z.1), (5, .int x1), (0, .ref b), (1, .ref (a 0)), (2, .ref (a2 0)), (3, .ref o), (4, .int (nI (6 * i)))]) hx hb dL_law_1496 hl0 (by decide) rfl (fun ls hl => ?_)
  have hl0 := hl
  replace hl : lv_has ls 7 (Lv b (a 0) (a2 0) o i) := lv_sub hl [2, 3, 4, 5, 6] rfl
  refine lv_goto (tgt := 1880) hx hb dL_law_1498 (by decide) ?_
  replace hB := Lw_3 hB
  refine W.widen (k := cells + 100) (n := slots + 70000) (by omega) (by omega) ?_
  exact kk _ _ _ _ _ _ _ _ _ _ _ _ (ho hok) hm (Rl_q hK hfq) rfl hB hl
end
section
-- 96.lcase4
theorem dL_law_1501 : decode cL_law 1501 = .ok (.aload_n 1, 1) := dz_e0 dz_43 hI_L_law (by decide +kernel)
theorem dL_law_1502 : decode cL_law 1502 = .ok (.aload_n 0, 1) := dz_e0 dz_42 hI_L_law (by decide +kernel)
theorem dL_law_1503 : decode cL_law 1503 = .ok (.iload 4, 2) := dz_e1 dz_21 hI_L_law (by decide +kernel)
theorem dL_law_1505 : decode cL_law 1505 = .ok (.iconst 1, 1) := dz_e0 dz_4 hI_L_law (by decide +kernel)
theorem dL_law_1506 : decode cL_law 1506 = .ok (.iadd, 1) := dz_e0 dz_96 hI_L_law (by decide +kernel)
theorem dL_law_1507 : decode cL_law 1507 = .ok (.iaload, 1) := dz_e0 dz_46 hI_L_law (by decide +kernel)
theorem dL_law_1508 : decode cL_law 1508 = .ok (.aload_n 0, 1) := dz_e0 dz_42 hI_L_law (by decide +kernel)
theorem dL_law_1509 : decode cL_law 1509 = .ok (.iload 4, 2) := dz_e1 dz_21 hI_L_law (by decide +kernel)
theorem dL_law_1511 : decode cL_law 1511 = .ok (.iconst 2, 1) := dz_e0 dz_5 hI_L_law (by decide +kernel)
theorem dL_law_1512 : decode cL_law 1512 = .ok (.iadd, 1) := dz_e0 dz_96 hI_L_law (by decide +kernel)
theorem dL_law_1513 : decode cL_law 1513 = .ok (.iaload, 1) := dz_e0 dz_46 hI_L_law (by decide +kernel)
theorem dL_law_1514 : decode cL_law 1514 = .ok (.aload_n 0, 1) := dz_e0 dz_42 hI_L_law (by decide +kernel)
theorem dL_law_1515 : decode cL_law 1515 = .ok (.iload 4, 2) := dz_e1 dz_21 hI_L_law (by decide +kernel)
theorem dL_law_1517 : decode cL_law 1517 = .ok (.iconst 3, 1) := dz_e0 dz_6 hI_L_law (by decide +kernel)
theorem dL_law_1518 : decode cL_law 1518 = .ok (.iadd, 1) := dz_e0 dz_96 hI_L_law (by decide +kernel)
theorem dL_law_1519 : decode cL_law 1519 = .ok (.iaload, 1) := dz_e0 dz_46 hI_L_law (by decide +kernel)
theorem dL_law_1520 : decode cL_law 1520 = .ok (.aload_n 0, 1) := dz_e0 dz_42 hI_L_law (by decide +kernel)
theorem dL_law_1521 : decode cL_law 1521 = .ok (.iload 4, 2) := dz_e1 dz_21 hI_L_law (by decide +kernel)
theorem dL_law_1523 : decode cL_law 1523 = .ok (.iconst 4, 1) := dz_e0 dz_7 hI_L_law (by decide +kernel)
theorem dL_law_1524 : decode cL_law 1524 = .ok (.iadd, 1) := dz_e0 dz_96 hI_L_law (by decide +kernel)
theorem dL_law_1525 : decode cL_law 1525 = .ok (.iaload, 1) := dz_e0 dz_46 hI_L_law (by decide +kernel)
theorem dL_law_1526 : decode cL_law 1526 = .ok (.aload_n 3, 1) := dz_e0 dz_45 hI_L_law (by decide +kernel)
theorem dL_law_1527 : decode cL_law 1527 = .ok (.invokestatic 223, 3) := dz_e2 dz_184 hI_L_law (by decide +kernel)
theorem dL_law_1530 : decode cL_law 1530 = .ok (.istore 5, 2) := dz_e1 dz_54 hI_L_law (by decide +kernel)
theorem dL_law_1532 : decode cL_law 1532 = .ok (.aload_n 2, 1) := dz_e0 dz_44 hI_L_law (by decide +kernel)
theorem dL_law_1533 : decode cL_law 1533 = .ok (.aload_n 0, 1) := dz_e0 dz_42 hI_L_law (by decide +kernel)
theorem dL_law_1534 : decode cL_law 1534 = .ok (.iload 4, 2) := dz_e1 dz_21 hI_L_law (by decide +kernel)
theorem dL_law_1536 : decode cL_law 1536 = .ok (.iconst 1, 1) := dz_e0 dz_4 hI_L_law (by decide +kernel)
theorem dL_law_1537 : decode cL_law 1537 = .ok (.iadd, 1) := dz_e0 dz_96 hI_L_law (by decide +kernel)
theorem dL_law_1538 : decode cL_law 1538 = .ok (.iaload, 1) := dz_e0 dz_46 hI_L_law (by decide +kernel)
theorem dL_law_1539 : decode cL_law 1539 = .ok (.aload_n 0, 1) := dz_e0 dz_42 hI_L_law (by decide +kernel)
theorem dL_law_1540 : decode cL_law 1540 = .ok (.iload 4, 2) := dz_e1 dz_21 hI_L_law (by decide +kernel)
theorem dL_law_1542 : decode cL_law 1542 = .ok (.iconst 2, 1) := dz_e0 dz_5 hI_L_law (by decide +kernel)
theorem dL_law_1543 : decode cL_law 1543 = .ok (.iadd, 1) := dz_e0 dz_96 hI_L_law (by decide +kernel)
theorem dL_law_1544 : decode cL_law 1544 = .ok (.iaload, 1) := dz_e0 dz_46 hI_L_law (by decide +kernel)
theorem dL_law_1545 : decode cL_law 1545 = .ok (.aload_n 0, 1) := dz_e0 dz_42 hI_L_law (by decide +kernel)
theorem dL_law_1546 : decode cL_law 1546 = .ok (.iload 4, 2) := dz_e1 dz_21 hI_L_law (by decide +kernel)
theorem dL_law_1548 : decode cL_law 1548 = .ok (.iconst 3, 1) := dz_e0 dz_6 hI_L_law (by decide +kernel)
theorem dL_law_1549 : decode cL_law 1549 = .ok (.iadd, 1) := dz_e0 dz_96 hI_L_law (by decide +kernel)
theorem dL_law_1550 : decode cL_law 1550 = .ok (.iaload, 1) := dz_e0 dz_46 hI_L_law (by decide +kernel)
theorem dL_law_1551 : decode cL_law 1551 = .ok (.aload_n 0, 1) := dz_e0 dz_42 hI_L_law (by decide +kernel)
theorem dL_law_1552 : decode cL_law 1552 = .ok (.iload 4, 2) := dz_e1 dz_21 hI_L_law (by decide +kernel)
theorem dL_law_1554 : decode cL_law 1554 = .ok (.iconst 4, 1) := dz_e0 dz_7 hI_L_law (by decide +kernel)
theorem dL_law_1555 : decode cL_law 1555 = .ok (.iadd, 1) := dz_e0 dz_96 hI_L_law (by decide +kernel)
theorem dL_law_1556 : decode cL_law 1556 = .ok (.iaload, 1) := dz_e0 dz_46 hI_L_law (by decide +kernel)
theorem dL_law_1557 : decode cL_law 1557 = .ok (.invokevirtual 225, 3) := dz_e2 dz_182 hI_L_law (by decide +kernel)
theorem dL_law_1560 : decode cL_law 1560 = .ok (.istore 6, 2) := dz_e1 dz_54 hI_L_law (by decide +kernel)
theorem dL_law_1562 : decode cL_law 1562 = .ok (.goto 318, 3) := dz_f2 dz_167 hI_L_law (by decide +kernel)
set_option maxHeartbeats 4000000 in
set_option maxRecDepth 100000 in
theorem lc_24 : Lc 1501 := by
  intro κ p l e s m args below meth c A ret b L o i xs a a2 r2 r q q2 f f2 n v cells slots Q H locs ls hst hX hx9 hbl hbA hi hL hok hm hr hB hl hc hs kk
  have hx := hX.1.1
  have hb := hX.1.2.1
  refine lv_aload_n hx hb dL_law_1501 rfl (lv_at hl 1 rfl) ?_
  obtain ⟨z1, e1⟩ : ∃ z, xs (6 * i + 1) = z := ⟨_, rfl⟩
  refine lv_scr (k := 1) hX hB hx9 hbl hbA hi hL hl dL_law_1502 dL_law_1503 dL_law_1505 dL_law_1506 dL_law_1507 (by decide) (by decide) e1 ?_
  obtain ⟨z2, e2⟩ : ∃ z, xs (6 * i + 2) = z := ⟨_, rfl⟩
  refine lv_scr (k := 2) hX hB hx9 hbl hbA hi hL hl dL_law_1508 dL_law_1509 dL_law_1511 dL_law_1512 dL_law_1513 (by decide) (by decide) e2 ?_
  obtain ⟨z3, e3⟩ : ∃ z, xs (6 * i + 3) = z := ⟨_, rfl⟩
  refine lv_scr (k := 3) hX hB hx9 hbl hbA hi hL hl dL_law_1514 dL_law_1515 dL_law_1517 dL_law_1518 dL_law_1519 (by decide) (by decide) e3 ?_
  obtain ⟨z4, e4⟩ : ∃ z, xs (6 * i + 4) = z := ⟨_, rfl⟩
  refine lv_scr (k := 4) hX hB hx9 hbl hbA hi hL hl dL_law_1520 dL_law_1521 dL_law_1523 dL_law_1524 dL_law_1525 (by decide) (by decide) e4 ?_
  refine lv_aload_n hx hb dL_law_1526 rfl (lv_at hl 3 rfl) ?_
  replace hB := Lw_1 hB
  obtain ⟨Y, hY⟩ : ∃ Y, D_X5_told r q f z1 z2 z3 z4 = Y := ⟨_, rfl⟩
  refine call_SW (n := 6) (As := [.ref (a 0), .int z1, .int z2, .int z3, .int z4, .ref o]) (rest := []) hX hB (CMW_frame (mw κ a2 r2 f2 q2 (tb a2) []) (w_told κ l hst a r q f o n v z1 z2 z3 z4 hok Y hY)) yk_L_told wm_5_68 wm_5_69 wm_1_0 wm_5_70 ⟨Nat.le_of_ble_eq_true rfl, Nat.le_of_ble_eq_true rfl⟩ ⟨by show _ ≤ 600128; omega, by show _ ≤ 7301098; omega⟩ rfl hl.1 rfl (Nat.le_of_ble_eq_true rfl) dL_law_1527 (fun o9 w' H locs hp hB => ?_)
  obtain ⟨_, ⟨x1, n1, v1, rfl, ho, hq, hW, rfl⟩, rfl⟩ := hp
  refine W.eq (g2 := F0 m 1530 ls [.int x1]) rfl ?_
  refine lv_istore (lv' := [(5, .int x1), (0, .ref b), (1, .ref (a 0)), (2, .ref (a2 0)), (3, .ref o), (4, .int (nI (6 * i)))]) hx hb dL_law_1530 hl (by decide) rfl (fun ls hl => ?_)
  have hl0 := hl
  replace hl : lv_has ls 7 (Lv b (a 0) (a2 0) o i) := lv_sub hl [1, 2, 3, 4, 5] rfl
  refine lv_aload_n hx hb dL_law_1532 rfl (lv_at hl 2 rfl) ?_
  refine lv_scr (k := 1) hX hB hx9 hbl hbA hi hL hl dL_law_1533 dL_law_1534 dL_law_1536 dL_law_1537 dL_law_1538 (by decide) (by decide) e1 ?_
  refine lv_scr (k := 2) hX hB hx9 hbl hbA hi hL hl dL_law_1539 dL_law_1540 dL_law_1542 dL_law_1543 dL_law_1544 (by decide) (by decide) e2 ?_
  refine lv_scr (k := 3) hX hB hx9 hbl hbA hi hL hl dL_law_1545 dL_law_1546 dL_law_1548 dL_law_1549 dL_law_1550 (by decide) (by decide) e3 ?_
  refine lv_scr (k := 4) hX hB hx9 hbl hbA hi hL hl dL_law_1551 dL_law_1552 dL_law_1554 dL_law_1555 dL_law_1556 (by decide) (by decide) e4 ?_
  replace hB := Lw_2 hB
  obtain ⟨Z, hZ⟩ : ∃ Z, D_X10_told_ r2 f2 q2 z1 z2 z3 z4 = Z := ⟨_, rfl⟩
  refine call_V (n := 4) (k0 := 0) (As := [.int z1, .int z2, .int z3, .int z4]) (rest := []) hX hB (k_X10_told_ κ l (cw κ a Y.2.2.1 Y.2.2.2.1 Y.2.2.2.2 ++ [Ot o n1 v1]) a2 r2 f2 q2 z1 z2 z3 z4 hm _ _ (hZ.trans (te2 Z))) ⟨rfl, yk_X10_told_⟩ wm_7_125 wm_7_126 wm_7_127 wm_1_6 wm_7_128 ⟨Nat.le_of_ble_eq_true rfl, Nat.le_of_ble_eq_true rfl⟩ ⟨by show _ ≤ 600128; omega, by show _ ≤ 7301098; omega⟩ mw0 rfl rfl rfl hl.1 rfl (Nat.le_of_ble_eq_true rfl) dL_law_1557 (fun o9 w' H locs hp hB => ?_)
  obtain ⟨rfl, hfq, rfl⟩ := hp
  have hK : RA r2 f2 q2 Y := by rw [← hY]; exact kp_told hr
  refine W.eq (g2 := F0 m 1560 ls [.int Z.1]) rfl ?_
  refine lv_istore (lv' := [(6, .int Z.1), (5, .int x1), (0, .ref b), (1, .ref (a 0)), (2, .ref (a2 0)), (3, .ref o), (4, .int (nI (6 * i)))]) hx hb dL_law_1560 hl0 (by decide) rfl (fun ls hl => ?_)
  have hl0 := hl
  replace hl : lv_has ls 7 (Lv b (a 0) (a2 0) o i) := lv_sub hl [2, 3, 4, 5, 6] rfl
  refine lv_goto (tgt := 1880) hx hb dL_law_1562 (by decide) ?_
  replace hB := Lw_3 hB
  refine W.widen (k := cells + 100) (n := slots + 70000) (by omega) (by omega) ?_
  exact kk _ _ _ _ _ _ _ _ _ _ _ _ (ho hok) hm (Rl_q hK hfq) rfl hB hl
theorem dL_law_1565 : decode cL_law 1565 = .ok (.aload_n 1, 1) := dz_e0 dz_43 hI_L_law (by decide +kernel)
theorem dL_law_1566 : decode cL_law 1566 = .ok (.aload_n 0, 1) := dz_e0 dz_42 hI_L_law (by decide +kernel)
theorem dL_law_1567 : decode cL_law 1567 = .ok (.iload 4, 2) := dz_e1 dz_21 hI_L_law (by decide +kernel)
theorem dL_law_1569 : decode cL_law 1569 = .ok (.iconst 1, 1) := dz_e0 dz_4 hI_L_law (by decide +kernel)
theorem dL_law_1570 : decode cL_law 1570 = .ok (.iadd, 1) := dz_e0 dz_96 hI_L_law (by decide +kernel)
theorem dL_law_1571 : decode cL_law 1571 = .ok (.iaload, 1) := dz_e0 dz_46 hI_L_law (by decide +kernel)
theorem dL_law_1572 : decode cL_law 1572 = .ok (.aload_n 0, 1) := dz_e0 dz_42 hI_L_law (by decide +kernel)
theorem dL_law_1573 : decode cL_law 1573 = .ok (.iload 4, 2) := dz_e1 dz_21 hI_L_law (by decide +kernel)
theorem dL_law_1575 : decode cL_law 1575 = .ok (.iconst 2, 1) := dz_e0 dz_5 hI_L_law (by decide +kernel)
theorem dL_law_1576 : decode cL_law 1576 = .ok (.iadd, 1) := dz_e0 dz_96 hI_L_law (by decide +kernel)
theorem dL_law_1577 : decode cL_law 1577 = .ok (.iaload, 1) := dz_e0 dz_46 hI_L_law (by decide +kernel)
theorem dL_law_1578 : decode cL_law 1578 = .ok (.aload_n 3, 1) := dz_e0 dz_45 hI_L_law (by decide +kernel)
theorem dL_law_1579 : decode cL_law 1579 = .ok (.invokestatic 226, 3) := dz_e2 dz_184 hI_L_law (by decide +kernel)
theorem dL_law_1582 : decode cL_law 1582 = .ok (.istore 5, 2) := dz_e1 dz_54 hI_L_law (by decide +kernel)
theorem dL_law_1584 : decode cL_law 1584 = .ok (.aload_n 2, 1) := dz_e0 dz_44 hI_L_law (by decide +kernel)
theorem dL_law_1585 : decode cL_law 1585 = .ok (.aload_n 0, 1) := dz_e0 dz_42 hI_L_law (by decide +kernel)
theorem dL_law_1586 : decode cL_law 1586 = .ok (.iload 4, 2) := dz_e1 dz_21 hI_L_law (by decide +kernel)
theorem dL_law_1588 : decode cL_law 1588 = .ok (.iconst 1, 1) := dz_e0 dz_4 hI_L_law (by decide +kernel)
theorem dL_law_1589 : decode cL_law 1589 = .ok (.iadd, 1) := dz_e0 dz_96 hI_L_law (by decide +kernel)
theorem dL_law_1590 : decode cL_law 1590 = .ok (.iaload, 1) := dz_e0 dz_46 hI_L_law (by decide +kernel)
theorem dL_law_1591 : decode cL_law 1591 = .ok (.aload_n 0, 1) := dz_e0 dz_42 hI_L_law (by decide +kernel)
theorem dL_law_1592 : decode cL_law 1592 = .ok (.iload 4, 2) := dz_e1 dz_21 hI_L_law (by decide +kernel)
theorem dL_law_1594 : decode cL_law 1594 = .ok (.iconst 2, 1) := dz_e0 dz_5 hI_L_law (by decide +kernel)
theorem dL_law_1595 : decode cL_law 1595 = .ok (.iadd, 1) := dz_e0 dz_96 hI_L_law (by decide +kernel)
theorem dL_law_1596 : decode cL_law 1596 = .ok (.iaload, 1) := dz_e0 dz_46 hI_L_law (by decide +kernel)
theorem dL_law_1597 : decode cL_law 1597 = .ok (.invokevirtual 228, 3) := dz_e2 dz_182 hI_L_law (by decide +kernel)
theorem dL_law_1600 : decode cL_law 1600 = .ok (.istore 6, 2) := dz_e1 dz_54 hI_L_law (by decide +kernel)
theorem dL_law_1602 : decode cL_law 1602 = .ok (.goto 278, 3) := dz_f2 dz_167 hI_L_law (by decide +kernel)
set_option maxHeartbeats 4000000 in
set_option maxRecDepth 100000 in
theorem lc_25 : Lc 1565 := by
  intro κ p l e s m args below meth c A ret b L o i xs a a2 r2 r q q2 f f2 n v cells slots Q H locs ls hst hX hx9 hbl hbA hi hL hok hm hr hB hl hc hs kk
  have hx := hX.1.1
  have hb := hX.1.2.1
  refine lv_aload_n hx hb dL_law_1565 rfl (lv_at hl 1 rfl) ?_
  obtain ⟨z1, e1⟩ : ∃ z, xs (6 * i + 1) = z := ⟨_, rfl⟩
  refine lv_scr (k := 1) hX hB hx9 hbl hbA hi hL hl dL_law_1566 dL_law_1567 dL_law_1569 dL_law_1570 dL_law_1571 (by decide) (by decide) e1 ?_
  obtain ⟨z2, e2⟩ : ∃ z, xs (6 * i + 2) = z := ⟨_, rfl⟩
  refine lv_scr (k := 2) hX hB hx9 hbl hbA hi hL hl dL_law_1572 dL_law_1573 dL_law_1575 dL_law_1576 dL_law_1577 (by decide) (by decide) e2 ?_
  refine lv_aload_n hx hb dL_law_1578 rfl (lv_at hl 3 rfl) ?_
  replace hB := Lw_1 hB
  obtain ⟨Y, hY⟩ : ∃ Y, D_X5_change r q f z1 z2 = Y := ⟨_, rfl⟩
  refine call_SW (n := 4) (As := [.ref (a 0), .int z1, .int z2, .ref o]) (rest := []) hX hB (CMW_frame (mw κ a2 r2 f2 q2 (tb a2) []) (w_change κ l hst a r q f o n v z1 z2 hok Y hY)) yk_L_change wm_5_76 wm_5_77 wm_1_0 wm_5_78 ⟨Nat.le_of_ble_eq_true rfl, Nat.le_of_ble_eq_true rfl⟩ ⟨by show _ ≤ 600128; omega, by show _ ≤ 7301098; omega⟩ rfl hl.1 rfl (Nat.le_of_ble_eq_true rfl) dL_law_1579 (fun o9 w' H locs hp hB => ?_)
  obtain ⟨_, ⟨x1, n1, v1, rfl, ho, hq, hW, rfl⟩, rfl⟩ := hp
  refine W.eq (g2 := F0 m 1582 ls [.int x1]) rfl ?_
  refine lv_istore (lv' := [(5, .int x1), (0, .ref b), (1, .ref (a 0)), (2, .ref (a2 0)), (3, .ref o), (4, .int (nI (6 * i)))]) hx hb dL_law_1582 hl (by decide) rfl (fun ls hl => ?_)
  have hl0 := hl
  replace hl : lv_has ls 7 (Lv b (a 0) (a2 0) o i) := lv_sub hl [1, 2, 3, 4, 5] rfl
  refine lv_aload_n hx hb dL_law_1584 rfl (lv_at hl 2 rfl) ?_
  refine lv_scr (k := 1) hX hB hx9 hbl hbA hi hL hl dL_law_1585 dL_law_1586 dL_law_1588 dL_law_1589 dL_law_1590 (by decide) (by decide) e1 ?_
  refine lv_scr (k := 2) hX hB hx9 hbl hbA hi hL hl dL_law_1591 dL_law_1592 dL_law_1594 dL_law_1595 dL_law_1596 (by decide) (by decide) e2 ?_
  replace hB := Lw_2 hB
  obtain ⟨Z, hZ⟩ : ∃ Z, D_X10_change r2 f2 q2 z1 z2 = Z := ⟨_, rfl⟩
  refine call_V (n := 2) (k0 := 0) (As := [.int z1, .int z2]) (rest := []) hX hB (k_X10_change κ l (cw κ a Y.2.2.1 Y.2.2.2.1 Y.2.2.2.2 ++ [Ot o n1 v1]) a2 r2 f2 q2 z1 z2 hm _ _ (hZ.trans (te2 Z))) ⟨rfl, yk_X10_change⟩ wm_7_129 wm_7_130 wm_7_131 wm_1_6 wm_7_132 ⟨Nat.le_of_ble_eq_true rfl, Nat.le_of_ble_eq_true rfl⟩ ⟨by show _ ≤ 600128; omega, by show _ ≤ 7301098; omega⟩ mw0 rfl rfl rfl hl.1 rfl (Nat.le_of_ble_eq_true rfl) dL_law_1597 (fun o9 w' H locs hp hB => ?_)
  obtain ⟨rfl, hfq, rfl⟩ := hp
  have hK : RA r2 f2 q2 Y := by rw [← hY]; exact kp_change hr
  refine W.eq (g2 := F0 m 1600 ls [.int Z.1]) rfl ?_
  refine lv_istore (lv' := [(6, .int Z.1), (5, .int x1), (0, .ref b), (1, .ref (a 0)), (2, .ref (a2 0)), (3, .ref o), (4, .int (nI (6 * i)))]) hx hb dL_law_1600 hl0 (by decide) rfl (fun ls hl => ?_)
  have hl0 := hl
  replace hl : lv_has ls 7 (Lv b (a 0) (a2 0) o i) := lv_sub hl [2, 3, 4, 5, 6] rfl
  refine lv_goto (tgt := 1880) hx hb dL_law_1602 (by decide) ?_
  replace hB := Lw_3 hB
  refine W.widen (k := cells + 100) (n := slots + 70000) (by omega) (by omega) ?_
  exact kk _ _ _ _ _ _ _ _ _ _ _ _ (ho hok) hm (Rl_q hK hfq) rfl hB hl
theorem dL_law_1605 : decode cL_law 1605 = .ok (.aload_n 1, 1) := dz_e0 dz_43 hI_L_law (by decide +kernel)
theorem dL_law_1606 : decode cL_law 1606 = .ok (.aload_n 0, 1) := dz_e0 dz_42 hI_L_law (by decide +kernel)
theorem dL_law_1607 : decode cL_law 1607 = .ok (.iload 4, 2) := dz_e1 dz_21 hI_L_law (by decide +kernel)
theorem dL_law_1609 : decode cL_law 1609 = .ok (.iconst 1, 1) := dz_e0 dz_4 hI_L_law (by decide +kernel)
theorem dL_law_1610 : decode cL_law 1610 = .ok (.iadd, 1) := dz_e0 dz_96 hI_L_law (by decide +kernel)
theorem dL_law_1611 : decode cL_law 1611 = .ok (.iaload, 1) := dz_e0 dz_46 hI_L_law (by decide +kernel)
theorem dL_law_1612 : decode cL_law 1612 = .ok (.aload_n 0, 1) := dz_e0 dz_42 hI_L_law (by decide +kernel)
theorem dL_law_1613 : decode cL_law 1613 = .ok (.iload 4, 2) := dz_e1 dz_21 hI_L_law (by decide +kernel)
theorem dL_law_1615 : decode cL_law 1615 = .ok (.iconst 2, 1) := dz_e0 dz_5 hI_L_law (by decide +kernel)
theorem dL_law_1616 : decode cL_law 1616 = .ok (.iadd, 1) := dz_e0 dz_96 hI_L_law (by decide +kernel)
theorem dL_law_1617 : decode cL_law 1617 = .ok (.iaload, 1) := dz_e0 dz_46 hI_L_law (by decide +kernel)
theorem dL_law_1618 : decode cL_law 1618 = .ok (.aload_n 0, 1) := dz_e0 dz_42 hI_L_law (by decide +kernel)
theorem dL_law_1619 : decode cL_law 1619 = .ok (.iload 4, 2) := dz_e1 dz_21 hI_L_law (by decide +kernel)
theorem dL_law_1621 : decode cL_law 1621 = .ok (.iconst 3, 1) := dz_e0 dz_6 hI_L_law (by decide +kernel)
theorem dL_law_1622 : decode cL_law 1622 = .ok (.iadd, 1) := dz_e0 dz_96 hI_L_law (by decide +kernel)
theorem dL_law_1623 : decode cL_law 1623 = .ok (.iaload, 1) := dz_e0 dz_46 hI_L_law (by decide +kernel)
theorem dL_law_1624 : decode cL_law 1624 = .ok (.aload_n 0, 1) := dz_e0 dz_42 hI_L_law (by decide +kernel)
theorem dL_law_1625 : decode cL_law 1625 = .ok (.iload 4, 2) := dz_e1 dz_21 hI_L_law (by decide +kernel)
theorem dL_law_1627 : decode cL_law 1627 = .ok (.iconst 4, 1) := dz_e0 dz_7 hI_L_law (by decide +kernel)
theorem dL_law_1628 : decode cL_law 1628 = .ok (.iadd, 1) := dz_e0 dz_96 hI_L_law (by decide +kernel)
theorem dL_law_1629 : decode cL_law 1629 = .ok (.iaload, 1) := dz_e0 dz_46 hI_L_law (by decide +kernel)
theorem dL_law_1630 : decode cL_law 1630 = .ok (.aload_n 3, 1) := dz_e0 dz_45 hI_L_law (by decide +kernel)
theorem dL_law_1631 : decode cL_law 1631 = .ok (.invokestatic 229, 3) := dz_e2 dz_184 hI_L_law (by decide +kernel)
theorem dL_law_1634 : decode cL_law 1634 = .ok (.istore 5, 2) := dz_e1 dz_54 hI_L_law (by decide +kernel)
theorem dL_law_1636 : decode cL_law 1636 = .ok (.aload_n 2, 1) := dz_e0 dz_44 hI_L_law (by decide +kernel)
theorem dL_law_1637 : decode cL_law 1637 = .ok (.aload_n 0, 1) := dz_e0 dz_42 hI_L_law (by decide +kernel)
theorem dL_law_1638 : decode cL_law 1638 = .ok (.iload 4, 2) := dz_e1 dz_21 hI_L_law (by decide +kernel)
theorem dL_law_1640 : decode cL_law 1640 = .ok (.iconst 1, 1) := dz_e0 dz_4 hI_L_law (by decide +kernel)
theorem dL_law_1641 : decode cL_law 1641 = .ok (.iadd, 1) := dz_e0 dz_96 hI_L_law (by decide +kernel)
theorem dL_law_1642 : decode cL_law 1642 = .ok (.iaload, 1) := dz_e0 dz_46 hI_L_law (by decide +kernel)
theorem dL_law_1643 : decode cL_law 1643 = .ok (.aload_n 0, 1) := dz_e0 dz_42 hI_L_law (by decide +kernel)
theorem dL_law_1644 : decode cL_law 1644 = .ok (.iload 4, 2) := dz_e1 dz_21 hI_L_law (by decide +kernel)
theorem dL_law_1646 : decode cL_law 1646 = .ok (.iconst 2, 1) := dz_e0 dz_5 hI_L_law (by decide +kernel)
theorem dL_law_1647 : decode cL_law 1647 = .ok (.iadd, 1) := dz_e0 dz_96 hI_L_law (by decide +kernel)
theorem dL_law_1648 : decode cL_law 1648 = .ok (.iaload, 1) := dz_e0 dz_46 hI_L_law (by decide +kernel)
theorem dL_law_1649 : decode cL_law 1649 = .ok (.aload_n 0, 1) := dz_e0 dz_42 hI_L_law (by decide +kernel)
theorem dL_law_1650 : decode cL_law 1650 = .ok (.iload 4, 2) := dz_e1 dz_21 hI_L_law (by decide +kernel)
theorem dL_law_1652 : decode cL_law 1652 = .ok (.iconst 3, 1) := dz_e0 dz_6 hI_L_law (by decide +kernel)
theorem dL_law_1653 : decode cL_law 1653 = .ok (.iadd, 1) := dz_e0 dz_96 hI_L_law (by decide +kernel)
theorem dL_law_1654 : decode cL_law 1654 = .ok (.iaload, 1) := dz_e0 dz_46 hI_L_law (by decide +kernel)
theorem dL_law_1655 : decode cL_law 1655 = .ok (.aload_n 0, 1) := dz_e0 dz_42 hI_L_law (by decide +kernel)
theorem dL_law_1656 : decode cL_law 1656 = .ok (.iload 4, 2) := dz_e1 dz_21 hI_L_law (by decide +kernel)
theorem dL_law_1658 : decode cL_law 1658 = .ok (.iconst 4, 1) := dz_e0 dz_7 hI_L_law (by decide +kernel)
theorem dL_law_1659 : decode cL_law 1659 = .ok (.iadd, 1) := dz_e0 dz_96 hI_L_law (by decide +kernel)
theorem dL_law_1660 : decode cL_law 1660 = .ok (.iaload, 1) := dz_e0 dz_46 hI_L_law (by decide +kernel)
theorem dL_law_1661 : decode cL_law 1661 = .ok (.invokevirtual 231, 3) := dz_e2 dz_182 hI_L_law (by decide +kernel)
theorem dL_law_1664 : decode cL_law 1664 = .ok (.istore 6, 2) := dz_e1 dz_54 hI_L_law (by decide +kernel)
theorem dL_law_1666 : decode cL_law 1666 = .ok (.goto 214, 3) := dz_f2 dz_167 hI_L_law (by decide +kernel)
set_option maxHeartbeats 4000000 in
set_option maxRecDepth 100000 in
theorem lc_26 : Lc 1605 := by
  intro κ p l e s m args below meth c A ret b L o i xs a a2 r2 r q q2 f f2 n v cells slots Q H locs ls hst hX hx9 hbl hbA hi hL hok hm hr hB hl hc hs kk
  have hx := hX.1.1
  have hb := hX.1.2.1
  refine lv_aload_n hx hb dL_law_1605 rfl (lv_at hl 1 rfl) ?_
  obtain ⟨z1, e1⟩ : ∃ z, xs (6 * i + 1) = z := ⟨_, rfl⟩
  refine lv_scr (k := 1) hX hB hx9 hbl hbA hi hL hl dL_law_1606 dL_law_1607 dL_law_1609 dL_law_1610 dL_law_1611 (by decide) (by decide) e1 ?_
  obtain ⟨z2, e2⟩ : ∃ z, xs (6 * i + 2) = z := ⟨_, rfl⟩
  refine lv_scr (k := 2) hX hB hx9 hbl hbA hi hL hl dL_law_1612 dL_law_1613 dL_law_1615 dL_law_1616 dL_law_1617 (by decide) (by decide) e2 ?_
  obtain ⟨z3, e3⟩ : ∃ z, xs (6 * i + 3) = z := ⟨_, rfl⟩
  refine lv_scr (k := 3) hX hB hx9 hbl hbA hi hL hl dL_law_1618 dL_law_1619 dL_law_1621 dL_law_1622 dL_law_1623 (by decide) (by decide) e3 ?_
  obtain ⟨z4, e4⟩ : ∃ z, xs (6 * i + 4) = z := ⟨_, rfl⟩
  refine lv_scr (k := 4) hX hB hx9 hbl hbA hi hL hl dL_law_1624 dL_law_1625 dL_law_1627 dL_law_1628 dL_law_1629 (by decide) (by decide) e4 ?_
  refine lv_aload_n hx hb dL_law_1630 rfl (lv_at hl 3 rfl) ?_
  replace hB := Lw_1 hB
  obtain ⟨Y, hY⟩ : ∃ Y, D_X5_isSolvable r q f z1 z2 z3 z4 = Y := ⟨_, rfl⟩
  refine call_SW (n := 6) (As := [.ref (a 0), .int z1, .int z2, .int z3, .int z4, .ref o]) (rest := []) hX hB (CMW_frame (mw κ a2 r2 f2 q2 (tb a2) []) (w_isSolvable κ l hst a r q f o n v z1 z2 z3 z4 hok Y hY)) yk_L_isSolvable wm_5_83 wm_5_84 wm_1_0 wm_5_85 ⟨Nat.le_of_ble_eq_true rfl, Nat.le_of_ble_eq_true rfl⟩ ⟨by show _ ≤ 600128; omega, by show _ ≤ 7301098; omega⟩ rfl hl.1 rfl (Nat.le_of_ble_eq_true rfl) dL_law_1631 (fun o9 w' H locs hp hB => ?_)
  obtain ⟨_, ⟨x1, n1, v1, rfl, ho, hq, hW, rfl⟩, rfl⟩ := hp
  refine W.eq (g2 := F0 m 1634 ls [.int x1]) rfl ?_
  refine lv_istore (lv' := [(5, .int x1), (0, .ref b), (1, .ref (a 0)), (2, .ref (a2 0)), (3, .ref o), (4, .int (nI (6 * i)))]) hx hb dL_law_1634 hl (by decide) rfl (fun ls hl => ?_)
  have hl0 := hl
  replace hl : lv_has ls 7 (Lv b (a 0) (a2 0) o i) := lv_sub hl [1, 2, 3, 4, 5] rfl
  refine lv_aload_n hx hb dL_law_1636 rfl (lv_at hl 2 rfl) ?_
  refine lv_scr (k := 1) hX hB hx9 hbl hbA hi hL hl dL_law_1637 dL_law_1638 dL_law_1640 dL_law_1641 dL_law_1642 (by decide) (by decide) e1 ?_
  refine lv_scr (k := 2) hX hB hx9 hbl hbA hi hL hl dL_law_1643 dL_law_1644 dL_law_1646 dL_law_1647 dL_law_1648 (by decide) (by decide) e2 ?_
  refine lv_scr (k := 3) hX hB hx9 hbl hbA hi hL hl dL_law_1649 dL_law_1650 dL_law_1652 dL_law_1653 dL_law_1654 (by decide) (by decide) e3 ?_
  refine lv_scr (k := 4) hX hB hx9 hbl hbA hi hL hl dL_law_1655 dL_law_1656 dL_law_1658 dL_law_1659 dL_law_1660 (by decide) (by decide) e4 ?_
  replace hB := Lw_2 hB
  obtain ⟨Z, hZ⟩ : ∃ Z, D_X10_isSolvable r2 f2 q2 z1 z2 z3 z4 = Z := ⟨_, rfl⟩
  refine call_V (n := 4) (k0 := 0) (As := [.int z1, .int z2, .int z3, .int z4]) (rest := []) hX hB (k_X10_isSolvable κ l (cw κ a Y.2.2.1 Y.2.2.2.1 Y.2.2.2.2 ++ [Ot o n1 v1]) a2 r2 f2 q2 z1 z2 z3 z4 hm _ _ (hZ.trans (te2 Z))) ⟨rfl, yk_X10_isSolvable⟩ wm_7_133 wm_7_134 wm_7_135 wm_1_6 wm_7_136 ⟨Nat.le_of_ble_eq_true rfl, Nat.le_of_ble_eq_true rfl⟩ ⟨by show _ ≤ 600128; omega, by show _ ≤ 7301098; omega⟩ mw0 rfl rfl rfl hl.1 rfl (Nat.le_of_ble_eq_true rfl) dL_law_1661 (fun o9 w' H locs hp hB => ?_)
  obtain ⟨rfl, hf0, hfq, rfl⟩ := hp
  have hK : RA r2 f2 q2 Y := by rw [← hY]; exact kp_isSolvable hr
  refine W.eq (g2 := F0 m 1664 ls [.int Z.1]) rfl ?_
  refine lv_istore (lv' := [(6, .int Z.1), (5, .int x1), (0, .ref b), (1, .ref (a 0)), (2, .ref (a2 0)), (3, .ref o), (4, .int (nI (6 * i)))]) hx hb dL_law_1664 hl0 (by decide) rfl (fun ls hl => ?_)
  have hl0 := hl
  replace hl : lv_has ls 7 (Lv b (a 0) (a2 0) o i) := lv_sub hl [2, 3, 4, 5, 6] rfl
  refine lv_goto (tgt := 1880) hx hb dL_law_1666 (by decide) ?_
  replace hB := Lw_3 hB
  refine W.widen (k := cells + 100) (n := slots + 70000) (by omega) (by omega) ?_
  exact kk _ _ _ _ _ _ _ _ _ _ _ _ (ho hok) hm (Rl_q hK hfq) rfl hB hl
theorem dL_law_1669 : decode cL_law 1669 = .ok (.aload_n 1, 1) := dz_e0 dz_43 hI_L_law (by decide +kernel)
theorem dL_law_1670 : decode cL_law 1670 = .ok (.aload_n 0, 1) := dz_e0 dz_42 hI_L_law (by decide +kernel)
theorem dL_law_1671 : decode cL_law 1671 = .ok (.iload 4, 2) := dz_e1 dz_21 hI_L_law (by decide +kernel)
theorem dL_law_1673 : decode cL_law 1673 = .ok (.iconst 1, 1) := dz_e0 dz_4 hI_L_law (by decide +kernel)
theorem dL_law_1674 : decode cL_law 1674 = .ok (.iadd, 1) := dz_e0 dz_96 hI_L_law (by decide +kernel)
theorem dL_law_1675 : decode cL_law 1675 = .ok (.iaload, 1) := dz_e0 dz_46 hI_L_law (by decide +kernel)
theorem dL_law_1676 : decode cL_law 1676 = .ok (.aload_n 0, 1) := dz_e0 dz_42 hI_L_law (by decide +kernel)
theorem dL_law_1677 : decode cL_law 1677 = .ok (.iload 4, 2) := dz_e1 dz_21 hI_L_law (by decide +kernel)
theorem dL_law_1679 : decode cL_law 1679 = .ok (.iconst 2, 1) := dz_e0 dz_5 hI_L_law (by decide +kernel)
theorem dL_law_1680 : decode cL_law 1680 = .ok (.iadd, 1) := dz_e0 dz_96 hI_L_law (by decide +kernel)
theorem dL_law_1681 : decode cL_law 1681 = .ok (.iaload, 1) := dz_e0 dz_46 hI_L_law (by decide +kernel)
theorem dL_law_1682 : decode cL_law 1682 = .ok (.aload_n 0, 1) := dz_e0 dz_42 hI_L_law (by decide +kernel)
theorem dL_law_1683 : decode cL_law 1683 = .ok (.iload 4, 2) := dz_e1 dz_21 hI_L_law (by decide +kernel)
theorem dL_law_1685 : decode cL_law 1685 = .ok (.iconst 3, 1) := dz_e0 dz_6 hI_L_law (by decide +kernel)
theorem dL_law_1686 : decode cL_law 1686 = .ok (.iadd, 1) := dz_e0 dz_96 hI_L_law (by decide +kernel)
theorem dL_law_1687 : decode cL_law 1687 = .ok (.iaload, 1) := dz_e0 dz_46 hI_L_law (by decide +kernel)
theorem dL_law_1688 : decode cL_law 1688 = .ok (.aload_n 3, 1) := dz_e0 dz_45 hI_L_law (by decide +kernel)
theorem dL_law_1689 : decode cL_law 1689 = .ok (.invokestatic 232, 3) := dz_e2 dz_184 hI_L_law (by decide +kernel)
theorem dL_law_1692 : decode cL_law 1692 = .ok (.istore 5, 2) := dz_e1 dz_54 hI_L_law (by decide +kernel)
theorem dL_law_1694 : decode cL_law 1694 = .ok (.aload_n 2, 1) := dz_e0 dz_44 hI_L_law (by decide +kernel)
theorem dL_law_1695 : decode cL_law 1695 = .ok (.aload_n 0, 1) := dz_e0 dz_42 hI_L_law (by decide +kernel)
theorem dL_law_1696 : decode cL_law 1696 = .ok (.iload 4, 2) := dz_e1 dz_21 hI_L_law (by decide +kernel)
theorem dL_law_1698 : decode cL_law 1698 = .ok (.iconst 1, 1) := dz_e0 dz_4 hI_L_law (by decide +kernel)
theorem dL_law_1699 : decode cL_law 1699 = .ok (.iadd, 1) := dz_e0 dz_96 hI_L_law (by decide +kernel)
theorem dL_law_1700 : decode cL_law 1700 = .ok (.iaload, 1) := dz_e0 dz_46 hI_L_law (by decide +kernel)
theorem dL_law_1701 : decode cL_law 1701 = .ok (.aload_n 0, 1) := dz_e0 dz_42 hI_L_law (by decide +kernel)
theorem dL_law_1702 : decode cL_law 1702 = .ok (.iload 4, 2) := dz_e1 dz_21 hI_L_law (by decide +kernel)
theorem dL_law_1704 : decode cL_law 1704 = .ok (.iconst 2, 1) := dz_e0 dz_5 hI_L_law (by decide +kernel)
theorem dL_law_1705 : decode cL_law 1705 = .ok (.iadd, 1) := dz_e0 dz_96 hI_L_law (by decide +kernel)
theorem dL_law_1706 : decode cL_law 1706 = .ok (.iaload, 1) := dz_e0 dz_46 hI_L_law (by decide +kernel)
theorem dL_law_1707 : decode cL_law 1707 = .ok (.aload_n 0, 1) := dz_e0 dz_42 hI_L_law (by decide +kernel)
theorem dL_law_1708 : decode cL_law 1708 = .ok (.iload 4, 2) := dz_e1 dz_21 hI_L_law (by decide +kernel)
theorem dL_law_1710 : decode cL_law 1710 = .ok (.iconst 3, 1) := dz_e0 dz_6 hI_L_law (by decide +kernel)
theorem dL_law_1711 : decode cL_law 1711 = .ok (.iadd, 1) := dz_e0 dz_96 hI_L_law (by decide +kernel)
theorem dL_law_1712 : decode cL_law 1712 = .ok (.iaload, 1) := dz_e0 dz_46 hI_L_law (by decide +kernel)
theorem dL_law_1713 : decode cL_law 1713 = .ok (.invokevirtual 234, 3) := dz_e2 dz_182 hI_L_law (by decide +kernel)
theorem dL_law_1716 : decode cL_law 1716 = .ok (.istore 6, 2) := dz_e1 dz_54 hI_L_law (by decide +kernel)
theorem dL_law_1718 : decode cL_law 1718 = .ok (.goto 162, 3) := dz_f2 dz_167 hI_L_law (by decide +kernel)
set_option maxHeartbeats 4000000 in
set_option maxRecDepth 100000 in
theorem lc_27 : Lc 1669 := by
  intro κ p l e s m args below meth c A ret b L o i xs a a2 r2 r q q2 f f2 n v cells slots Q H locs ls hst hX hx9 hbl hbA hi hL hok hm hr hB hl hc hs kk
  have hx := hX.1.1
  have hb := hX.1.2.1
  refine lv_aload_n hx hb dL_law_1669 rfl (lv_at hl 1 rfl) ?_
  obtain ⟨z1, e1⟩ : ∃ z, xs (6 * i + 1) = z := ⟨_, rfl⟩
  refine lv_scr (k := 1) hX hB hx9 hbl hbA hi hL hl dL_law_1670 dL_law_1671 dL_law_1673 dL_law_1674 dL_law_1675 (by decide) (by decide) e1 ?_
  obtain ⟨z2, e2⟩ : ∃ z, xs (6 * i + 2) = z := ⟨_, rfl⟩
  refine lv_scr (k := 2) hX hB hx9 hbl hbA hi hL hl dL_law_1676 dL_law_1677 dL_law_1679 dL_law_1680 dL_law_1681 (by decide) (by decide) e2 ?_
  obtain ⟨z3, e3⟩ : ∃ z, xs (6 * i + 3) = z := ⟨_, rfl⟩
  refine lv_scr (k := 3) hX hB hx9 hbl hbA hi hL hl dL_law_1682 dL_law_1683 dL_law_1685 dL_law_1686 dL_law_1687 (by decide) (by decide) e3 ?_
  refine lv_aload_n hx hb dL_law_1688 rfl (lv_at hl 3 rfl) ?_
  replace hB := Lw_1 hB
  obtain ⟨Y, hY⟩ : ∃ Y, D_X5_restColumn r q f z1 z2 z3 = Y := ⟨_, rfl⟩
  refine call_SW (n := 5) (As := [.ref (a 0), .int z1, .int z2, .int z3, .ref o]) (rest := []) hX hB (CMW_frame (mw κ a2 r2 f2 q2 (tb a2) []) (w_restColumn κ l hst a r q f o n v z1 z2 z3 hok Y hY)) yk_L_restColumn wm_5_90 wm_5_91 wm_1_0 wm_5_92 ⟨Nat.le_of_ble_eq_true rfl, Nat.le_of_ble_eq_true rfl⟩ ⟨by show _ ≤ 600128; omega, by show _ ≤ 7301098; omega⟩ rfl hl.1 rfl (Nat.le_of_ble_eq_true rfl) dL_law_1689 (fun o9 w' H locs hp hB => ?_)
  obtain ⟨_, ⟨x1, n1, v1, rfl, ho, hq, hW, rfl⟩, rfl⟩ := hp
  refine W.eq (g2 := F0 m 1692 ls [.int x1]) rfl ?_
  refine lv_istore (lv' := [(5, .int x1), (0, .ref b), (1, .ref (a 0)), (2, .ref (a2 0)), (3, .ref o), (4, .int (nI (6 * i)))]) hx hb dL_law_1692 hl (by decide) rfl (fun ls hl => ?_)
  have hl0 := hl
  replace hl : lv_has ls 7 (Lv b (a 0) (a2 0) o i) := lv_sub hl [1, 2, 3, 4, 5] rfl
  refine lv_aload_n hx hb dL_law_1694 rfl (lv_at hl 2 rfl) ?_
  refine lv_scr (k := 1) hX hB hx9 hbl hbA hi hL hl dL_law_1695 dL_law_1696 dL_law_1698 dL_law_1699 dL_law_1700 (by decide) (by decide) e1 ?_
  refine lv_scr (k := 2) hX hB hx9 hbl hbA hi hL hl dL_law_1701 dL_law_1702 dL_law_1704 dL_law_1705 dL_law_1706 (by decide) (by decide) e2 ?_
  refine lv_scr (k := 3) hX hB hx9 hbl hbA hi hL hl dL_law_1707 dL_law_1708 dL_law_1710 dL_law_1711 dL_law_1712 (by decide) (by decide) e3 ?_
  replace hB := Lw_2 hB
  obtain ⟨Z, hZ⟩ : ∃ Z, D_X10_restColumn r2 f2 q2 z1 z2 z3 = Z := ⟨_, rfl⟩
  refine call_V (n := 3) (k0 := 0) (As := [.int z1, .int z2, .int z3]) (rest := []) hX hB (k_X10_restColumn κ l (cw κ a Y.2.2.1 Y.2.2.2.1 Y.2.2.2.2 ++ [Ot o n1 v1]) a2 r2 f2 q2 z1 z2 z3 hm _ _ (hZ.trans (te2 Z))) ⟨rfl, yk_X10_restColumn⟩ wm_7_140 wm_7_141 wm_7_142 wm_1_6 wm_7_143 ⟨Nat.le_of_ble_eq_true rfl, Nat.le_of_ble_eq_true rfl⟩ ⟨by show _ ≤ 600128; omega, by show _ ≤ 7301098; omega⟩ mw0 rfl rfl rfl hl.1 rfl (Nat.le_of_ble_eq_true rfl) dL_law_1713 (fun o9 w' H locs hp hB => ?_)
  obtain ⟨rfl, hfq, rfl⟩ := hp
  have hK : RA r2 f2 q2 Y := by rw [← hY]; exact kp_restColumn hr
  refine W.eq (g2 := F0 m 1716 ls [.int Z.1]) rfl ?_
  refine lv_istore (lv' := [(6, .int Z.1), (5, .int x1), (0, .ref b), (1, .ref (a 0)), (2, .ref (a2 0)), (3, .ref o), (4, .int (nI (6 * i)))]) hx hb dL_law_1716 hl0 (by decide) rfl (fun ls hl => ?_)
  have hl0 := hl
  replace hl : lv_has ls 7 (Lv b (a 0) (a2 0) o i) := lv_sub hl [2, 3, 4, 5, 6] rfl
  refine lv_goto (tgt := 1880) hx hb dL_law_1718 (by decide) ?_
  replace hB := Lw_3 hB
  refine W.widen (k := cells + 100) (n := slots + 70000) (by omega) (by omega) ?_
  exact kk _ _ _ _ _ _ _ _ _ _ _ _ (ho hok) hm (Rl_q hK hfq) rfl hB hl
theorem dL_law_1721 : decode cL_law 1721 = .ok (.aload_n 1, 1) := dz_e0 dz_43 hI_L_law (by decide +kernel)
theorem dL_law_1722 : decode cL_law 1722 = .ok (.aload_n 0, 1) := dz_e0 dz_42 hI_L_law (by decide +kernel)
theorem dL_law_1723 : decode cL_law 1723 = .ok (.iload 4, 2) := dz_e1 dz_21 hI_L_law (by decide +kernel)
theorem dL_law_1725 : decode cL_law 1725 = .ok (.iconst 1, 1) := dz_e0 dz_4 hI_L_law (by decide +kernel)
theorem dL_law_1726 : decode cL_law 1726 = .ok (.iadd, 1) := dz_e0 dz_96 hI_L_law (by decide +kernel)
theorem dL_law_1727 : decode cL_law 1727 = .ok (.iaload, 1) := dz_e0 dz_46 hI_L_law (by decide +kernel)
theorem dL_law_1728 : decode cL_law 1728 = .ok (.aload_n 0, 1) := dz_e0 dz_42 hI_L_law (by decide +kernel)
theorem dL_law_1729 : decode cL_law 1729 = .ok (.iload 4, 2) := dz_e1 dz_21 hI_L_law (by decide +kernel)
theorem dL_law_1731 : decode cL_law 1731 = .ok (.iconst 2, 1) := dz_e0 dz_5 hI_L_law (by decide +kernel)
theorem dL_law_1732 : decode cL_law 1732 = .ok (.iadd, 1) := dz_e0 dz_96 hI_L_law (by decide +kernel)
theorem dL_law_1733 : decode cL_law 1733 = .ok (.iaload, 1) := dz_e0 dz_46 hI_L_law (by decide +kernel)
theorem dL_law_1734 : decode cL_law 1734 = .ok (.aload_n 3, 1) := dz_e0 dz_45 hI_L_law (by decide +kernel)
theorem dL_law_1735 : decode cL_law 1735 = .ok (.invokestatic 235, 3) := dz_e2 dz_184 hI_L_law (by decide +kernel)
theorem dL_law_1738 : decode cL_law 1738 = .ok (.istore 5, 2) := dz_e1 dz_54 hI_L_law (by decide +kernel)
theorem dL_law_1740 : decode cL_law 1740 = .ok (.aload_n 2, 1) := dz_e0 dz_44 hI_L_law (by decide +kernel)
theorem dL_law_1741 : decode cL_law 1741 = .ok (.aload_n 0, 1) := dz_e0 dz_42 hI_L_law (by decide +kernel)
theorem dL_law_1742 : decode cL_law 1742 = .ok (.iload 4, 2) := dz_e1 dz_21 hI_L_law (by decide +kernel)
theorem dL_law_1744 : decode cL_law 1744 = .ok (.iconst 1, 1) := dz_e0 dz_4 hI_L_law (by decide +kernel)
theorem dL_law_1745 : decode cL_law 1745 = .ok (.iadd, 1) := dz_e0 dz_96 hI_L_law (by decide +kernel)
theorem dL_law_1746 : decode cL_law 1746 = .ok (.iaload, 1) := dz_e0 dz_46 hI_L_law (by decide +kernel)
theorem dL_law_1747 : decode cL_law 1747 = .ok (.aload_n 0, 1) := dz_e0 dz_42 hI_L_law (by decide +kernel)
theorem dL_law_1748 : decode cL_law 1748 = .ok (.iload 4, 2) := dz_e1 dz_21 hI_L_law (by decide +kernel)
theorem dL_law_1750 : decode cL_law 1750 = .ok (.iconst 2, 1) := dz_e0 dz_5 hI_L_law (by decide +kernel)
theorem dL_law_1751 : decode cL_law 1751 = .ok (.iadd, 1) := dz_e0 dz_96 hI_L_law (by decide +kernel)
theorem dL_law_1752 : decode cL_law 1752 = .ok (.iaload, 1) := dz_e0 dz_46 hI_L_law (by decide +kernel)
theorem dL_law_1753 : decode cL_law 1753 = .ok (.invokevirtual 237, 3) := dz_e2 dz_182 hI_L_law (by decide +kernel)
theorem dL_law_1756 : decode cL_law 1756 = .ok (.astore 6, 2) := dz_e1 dz_58 hI_L_law (by decide +kernel)
theorem dL_law_1758 : decode cL_law 1758 = .ok (.goto 122, 3) := dz_f2 dz_167 hI_L_law (by decide +kernel)
set_option maxHeartbeats 4000000 in
set_option maxRecDepth 100000 in
theorem lc_28 : Lc 1721 := by
  intro κ p l e s m args below meth c A ret b L o i xs a a2 r2 r q q2 f f2 n v cells slots Q H locs ls hst hX hx9 hbl hbA hi hL hok hm hr hB hl hc hs kk
  have hx := hX.1.1
  have hb := hX.1.2.1
  refine lv_aload_n hx hb dL_law_1721 rfl (lv_at hl 1 rfl) ?_
  obtain ⟨z1, e1⟩ : ∃ z, xs (6 * i + 1) = z := ⟨_, rfl⟩
  refine lv_scr (k := 1) hX hB hx9 hbl hbA hi hL hl dL_law_1722 dL_law_1723 dL_law_1725 dL_law_1726 dL_law_1727 (by decide) (by decide) e1 ?_
  obtain ⟨z2, e2⟩ : ∃ z, xs (6 * i + 2) = z := ⟨_, rfl⟩
  refine lv_scr (k := 2) hX hB hx9 hbl hbA hi hL hl dL_law_1728 dL_law_1729 dL_law_1731 dL_law_1732 dL_law_1733 (by decide) (by decide) e2 ?_
  refine lv_aload_n hx hb dL_law_1734 rfl (lv_at hl 3 rfl) ?_
  replace hB := Lw_1 hB
  refine call_SW (n := 4) (As := [.ref (a 0), .int z1, .int z2, .ref o]) (rest := []) hX hB (CMW_frame (mw κ a2 r2 f2 q2 (tb a2) []) (w_rest κ l hst a r q f o n v z1 z2 hok)) yk_L_rest wm_5_98 wm_5_99 wm_1_0 wm_5_100 ⟨Nat.le_of_ble_eq_true rfl, Nat.le_of_ble_eq_true rfl⟩ ⟨by show _ ≤ 600128; omega, by show _ ≤ 7301098; omega⟩ rfl hl.1 rfl (Nat.le_of_ble_eq_true rfl) dL_law_1735 (fun o9 w' H locs hp hB => ?_)
  obtain ⟨_, ⟨x1, r1, q1, f1, n1, v1, rfl, ho, hq, hk, rfl⟩, rfl⟩ := hp
  refine W.eq (g2 := F0 m 1738 ls [.int x1]) rfl ?_
  refine lv_istore (lv' := [(5, .int x1), (0, .ref b), (1, .ref (a 0)), (2, .ref (a2 0)), (3, .ref o), (4, .int (nI (6 * i)))]) hx hb dL_law_1738 hl (by decide) rfl (fun ls hl => ?_)
  have hl0 := hl
  replace hl : lv_has ls 7 (Lv b (a 0) (a2 0) o i) := lv_sub hl [1, 2, 3, 4, 5] rfl
  refine lv_aload_n hx hb dL_law_1740 rfl (lv_at hl 2 rfl) ?_
  refine lv_scr (k := 1) hX hB hx9 hbl hbA hi hL hl dL_law_1741 dL_law_1742 dL_law_1744 dL_law_1745 dL_law_1746 (by decide) (by decide) e1 ?_
  refine lv_scr (k := 2) hX hB hx9 hbl hbA hi hL hl dL_law_1747 dL_law_1748 dL_law_1750 dL_law_1751 dL_law_1752 (by decide) (by decide) e2 ?_
  replace hB := Lw_2 hB
  refine call_V (n := 2) (k0 := 0) (As := [.int z1, .int z2]) (rest := []) hX hB (k_X10_rest κ l (cw κ a r1 q1 f1 ++ [Ot o n1 v1]) a2 r2 f2 q2 z1 z2 hm) ⟨rfl, yk_X10_rest⟩ wm_7_144 wm_7_145 wm_7_146 wm_1_6 wm_7_147 ⟨Nat.le_of_ble_eq_true rfl, Nat.le_of_ble_eq_true rfl⟩ ⟨by show _ ≤ 600128; omega, by show _ ≤ 7301098; omega⟩ mw0 rfl rfl rfl hl.1 rfl (Nat.le_of_ble_eq_true rfl) dL_law_1753 (fun o9 w' H locs hp hB => ?_)
  obtain ⟨x2, q3, rfl, hfq, rfl⟩ := hp
  refine W.eq (g2 := F0 m 1756 ls [.ref x2]) rfl ?_
  refine lv_astore (lv' := [(6, .ref x2), (5, .int x1), (0, .ref b), (1, .ref (a 0)), (2, .ref (a2 0)), (3, .ref o), (4, .int (nI (6 * i)))]) hx hb dL_law_1756 hl0 (by decide) rfl (fun ls hl => ?_)
  have hl0 := hl
  replace hl : lv_has ls 7 (Lv b (a 0) (a2 0) o i) := lv_sub hl [2, 3, 4, 5, 6] rfl
  refine lv_goto (tgt := 1880) hx hb dL_law_1758 (by decide) ?_
  replace hB := Lw_3 hB
  refine W.widen (k := cells + 100) (n := slots + 70000) (by omega) (by omega) ?_
  exact kk _ _ _ _ _ _ _ _ _ _ _ _ (ho hok) hm (Rl_q (hk _ _ _ hr) hfq) rfl hB hl
theorem dL_law_1761 : decode cL_law 1761 = .ok (.aload_n 1, 1) := dz_e0 dz_43 hI_L_law (by decide +kernel)
theorem dL_law_1762 : decode cL_law 1762 = .ok (.aload_n 0, 1) := dz_e0 dz_42 hI_L_law (by decide +kernel)
theorem dL_law_1763 : decode cL_law 1763 = .ok (.iload 4, 2) := dz_e1 dz_21 hI_L_law (by decide +kernel)
theorem dL_law_1765 : decode cL_law 1765 = .ok (.iconst 1, 1) := dz_e0 dz_4 hI_L_law (by decide +kernel)
theorem dL_law_1766 : decode cL_law 1766 = .ok (.iadd, 1) := dz_e0 dz_96 hI_L_law (by decide +kernel)
theorem dL_law_1767 : decode cL_law 1767 = .ok (.iaload, 1) := dz_e0 dz_46 hI_L_law (by decide +kernel)
theorem dL_law_1768 : decode cL_law 1768 = .ok (.aload_n 0, 1) := dz_e0 dz_42 hI_L_law (by decide +kernel)
theorem dL_law_1769 : decode cL_law 1769 = .ok (.iload 4, 2) := dz_e1 dz_21 hI_L_law (by decide +kernel)
theorem dL_law_1771 : decode cL_law 1771 = .ok (.iconst 2, 1) := dz_e0 dz_5 hI_L_law (by decide +kernel)
theorem dL_law_1772 : decode cL_law 1772 = .ok (.iadd, 1) := dz_e0 dz_96 hI_L_law (by decide +kernel)
theorem dL_law_1773 : decode cL_law 1773 = .ok (.iaload, 1) := dz_e0 dz_46 hI_L_law (by decide +kernel)
theorem dL_law_1774 : decode cL_law 1774 = .ok (.aload_n 0, 1) := dz_e0 dz_42 hI_L_law (by decide +kernel)
theorem dL_law_1775 : decode cL_law 1775 = .ok (.iload 4, 2) := dz_e1 dz_21 hI_L_law (by decide +kernel)
theorem dL_law_1777 : decode cL_law 1777 = .ok (.iconst 3, 1) := dz_e0 dz_6 hI_L_law (by decide +kernel)
theorem dL_law_1778 : decode cL_law 1778 = .ok (.iadd, 1) := dz_e0 dz_96 hI_L_law (by decide +kernel)
theorem dL_law_1779 : decode cL_law 1779 = .ok (.iaload, 1) := dz_e0 dz_46 hI_L_law (by decide +kernel)
theorem dL_law_1780 : decode cL_law 1780 = .ok (.aload_n 3, 1) := dz_e0 dz_45 hI_L_law (by decide +kernel)
theorem dL_law_1781 : decode cL_law 1781 = .ok (.invokestatic 238, 3) := dz_e2 dz_184 hI_L_law (by decide +kernel)
theorem dL_law_1784 : decode cL_law 1784 = .ok (.istore 5, 2) := dz_e1 dz_54 hI_L_law (by decide +kernel)
theorem dL_law_1786 : decode cL_law 1786 = .ok (.aload_n 2, 1) := dz_e0 dz_44 hI_L_law (by decide +kernel)
theorem dL_law_1787 : decode cL_law 1787 = .ok (.aload_n 0, 1) := dz_e0 dz_42 hI_L_law (by decide +kernel)
theorem dL_law_1788 : decode cL_law 1788 = .ok (.iload 4, 2) := dz_e1 dz_21 hI_L_law (by decide +kernel)
theorem dL_law_1790 : decode cL_law 1790 = .ok (.iconst 1, 1) := dz_e0 dz_4 hI_L_law (by decide +kernel)
theorem dL_law_1791 : decode cL_law 1791 = .ok (.iadd, 1) := dz_e0 dz_96 hI_L_law (by decide +kernel)
theorem dL_law_1792 : decode cL_law 1792 = .ok (.iaload, 1) := dz_e0 dz_46 hI_L_law (by decide +kernel)
theorem dL_law_1793 : decode cL_law 1793 = .ok (.aload_n 0, 1) := dz_e0 dz_42 hI_L_law (by decide +kernel)
theorem dL_law_1794 : decode cL_law 1794 = .ok (.iload 4, 2) := dz_e1 dz_21 hI_L_law (by decide +kernel)
theorem dL_law_1796 : decode cL_law 1796 = .ok (.iconst 2, 1) := dz_e0 dz_5 hI_L_law (by decide +kernel)
theorem dL_law_1797 : decode cL_law 1797 = .ok (.iadd, 1) := dz_e0 dz_96 hI_L_law (by decide +kernel)
theorem dL_law_1798 : decode cL_law 1798 = .ok (.iaload, 1) := dz_e0 dz_46 hI_L_law (by decide +kernel)
theorem dL_law_1799 : decode cL_law 1799 = .ok (.aload_n 0, 1) := dz_e0 dz_42 hI_L_law (by decide +kernel)
theorem dL_law_1800 : decode cL_law 1800 = .ok (.iload 4, 2) := dz_e1 dz_21 hI_L_law (by decide +kernel)
theorem dL_law_1802 : decode cL_law 1802 = .ok (.iconst 3, 1) := dz_e0 dz_6 hI_L_law (by decide +kernel)
theorem dL_law_1803 : decode cL_law 1803 = .ok (.iadd, 1) := dz_e0 dz_96 hI_L_law (by decide +kernel)
theorem dL_law_1804 : decode cL_law 1804 = .ok (.iaload, 1) := dz_e0 dz_46 hI_L_law (by decide +kernel)
theorem dL_law_1805 : decode cL_law 1805 = .ok (.invokevirtual 240, 3) := dz_e2 dz_182 hI_L_law (by decide +kernel)
theorem dL_law_1808 : decode cL_law 1808 = .ok (.istore 6, 2) := dz_e1 dz_54 hI_L_law (by decide +kernel)
theorem dL_law_1810 : decode cL_law 1810 = .ok (.goto 70, 3) := dz_f2 dz_167 hI_L_law (by decide +kernel)
set_option maxHeartbeats 4000000 in
set_option maxRecDepth 100000 in
theorem lc_29 : Lc 1761 := by
  intro κ p l e s m args below meth c A ret b L o i xs a a2 r2 r q q2 f f2 n v cells slots Q H locs ls hst hX hx9 hbl hbA hi hL hok hm hr hB hl hc hs kk
  have hx := hX.1.1
  have hb := hX.1.2.1
  refine lv_aload_n hx hb dL_law_1761 rfl (lv_at hl 1 rfl) ?_
  obtain ⟨z1, e1⟩ : ∃ z, xs (6 * i + 1) = z := ⟨_, rfl⟩
  refine lv_scr (k := 1) hX hB hx9 hbl hbA hi hL hl dL_law_1762 dL_law_1763 dL_law_1765 dL_law_1766 dL_law_1767 (by decide) (by decide) e1 ?_
  obtain ⟨z2, e2⟩ : ∃ z, xs (6 * i + 2) = z := ⟨_, rfl⟩
  refine lv_scr (k := 2) hX hB hx9 hbl hbA hi hL hl dL_law_1768 dL_law_1769 dL_law_1771 dL_law_1772 dL_law_1773 (by decide) (by decide) e2 ?_
  obtain ⟨z3, e3⟩ : ∃ z, xs (6 * i + 3) = z := ⟨_, rfl⟩
  refine lv_scr (k := 3) hX hB hx9 hbl hbA hi hL hl dL_law_1774 dL_law_1775 dL_law_1777 dL_law_1778 dL_law_1779 (by decide) (by decide) e3 ?_
  refine lv_aload_n hx hb dL_law_1780 rfl (lv_at hl 3 rfl) ?_
  replace hB := Lw_1 hB
  obtain ⟨Y, hY⟩ : ∃ Y, D_X5_restOf r q f z1 z2 z3 = Y := ⟨_, rfl⟩
  refine call_SW (n := 5) (As := [.ref (a 0), .int z1, .int z2, .int z3, .ref o]) (rest := []) hX hB (CMW_frame (mw κ a2 r2 f2 q2 (tb a2) []) (w_restOf κ l hst a r q f o n v z1 z2 z3 hok Y hY)) yk_L_restOf wm_5_118 wm_5_119 wm_1_0 wm_5_120 ⟨Nat.le_of_ble_eq_true rfl, Nat.le_of_ble_eq_true rfl⟩ ⟨by show _ ≤ 600128; omega, by show _ ≤ 7301098; omega⟩ rfl hl.1 rfl (Nat.le_of_ble_eq_true rfl) dL_law_1781 (fun o9 w' H locs hp hB => ?_)
  obtain ⟨_, ⟨x1, n1, v1, rfl, ho, hq, hW, rfl⟩, rfl⟩ := hp
  refine W.eq (g2 := F0 m 1784 ls [.int x1]) rfl ?_
  refine lv_istore (lv' := [(5, .int x1), (0, .ref b), (1, .ref (a 0)), (2, .ref (a2 0)), (3, .ref o), (4, .int (nI (6 * i)))]) hx hb dL_law_1784 hl (by decide) rfl (fun ls hl => ?_)
  have hl0 := hl
  replace hl : lv_has ls 7 (Lv b (a 0) (a2 0) o i) := lv_sub hl [1, 2, 3, 4, 5] rfl
  refine lv_aload_n hx hb dL_law_1786 rfl (lv_at hl 2 rfl) ?_
  refine lv_scr (k := 1) hX hB hx9 hbl hbA hi hL hl dL_law_1787 dL_law_1788 dL_law_1790 dL_law_1791 dL_law_1792 (by decide) (by decide) e1 ?_
  refine lv_scr (k := 2) hX hB hx9 hbl hbA hi hL hl dL_law_1793 dL_law_1794 dL_law_1796 dL_law_1797 dL_law_1798 (by decide) (by decide) e2 ?_
  refine lv_scr (k := 3) hX hB hx9 hbl hbA hi hL hl dL_law_1799 dL_law_1800 dL_law_1802 dL_law_1803 dL_law_1804 (by decide) (by decide) e3 ?_
  replace hB := Lw_2 hB
  obtain ⟨Z, hZ⟩ : ∃ Z, D_X10_restOf r2 f2 q2 z1 z2 z3 = Z := ⟨_, rfl⟩
  refine call_V (n := 3) (k0 := 0) (As := [.int z1, .int z2, .int z3]) (rest := []) hX hB (k_X10_restOf κ l (cw κ a Y.2.2.1 Y.2.2.2.1 Y.2.2.2.2 ++ [Ot o n1 v1]) a2 r2 f2 q2 z1 z2 z3 hm _ _ (hZ.trans (te2 Z))) ⟨rfl, yk_X10_restOf⟩ wm_7_153 wm_7_154 wm_7_155 wm_1_6 wm_7_156 ⟨Nat.le_of_ble_eq_true rfl, Nat.le_of_ble_eq_true rfl⟩ ⟨by show _ ≤ 600128; omega, by show _ ≤ 7301098; omega⟩ mw0 rfl rfl rfl hl.1 rfl (Nat.le_of_ble_eq_true rfl) dL_law_1805 (fun o9 w' H locs hp hB => ?_)
  obtain ⟨rfl, hfq, rfl⟩ := hp
  have hK : RA r2 f2 q2 Y := by rw [← hY]; exact kp_restOf hr
  refine W.eq (g2 := F0 m 1808 ls [.int Z.1]) rfl ?_
  refine lv_istore (lv' := [(6, .int Z.1), (5, .int x1), (0, .ref b), (1, .ref (a 0)), (2, .ref (a2 0)), (3, .ref o), (4, .int (nI (6 * i)))]) hx hb dL_law_1808 hl0 (by decide) rfl (fun ls hl => ?_)
  have hl0 := hl
  replace hl : lv_has ls 7 (Lv b (a 0) (a2 0) o i) := lv_sub hl [2, 3, 4, 5, 6] rfl
  refine lv_goto (tgt := 1880) hx hb dL_law_1810 (by decide) ?_
  replace hB := Lw_3 hB
  refine W.widen (k := cells + 100) (n := slots + 70000) (by omega) (by omega) ?_
  exact kk _ _ _ _ _ _ _ _ _ _ _ _ (ho hok) hm (Rl_q hK hfq) rfl hB hl
end
section
-- 97.lcase5
theorem dL_law_1813 : decode cL_law 1813 = .ok (.aload_n 1, 1) := dz_e0 dz_43 hI_L_law (by decide +kernel)
theorem dL_law_1814 : decode cL_law 1814 = .ok (.aload_n 0, 1) := dz_e0 dz_42 hI_L_law (by decide +kernel)
theorem dL_law_1815 : decode cL_law 1815 = .ok (.iload 4, 2) := dz_e1 dz_21 hI_L_law (by decide +kernel)
theorem dL_law_1817 : decode cL_law 1817 = .ok (.iconst 1, 1) := dz_e0 dz_4 hI_L_law (by decide +kernel)
theorem dL_law_1818 : decode cL_law 1818 = .ok (.iadd, 1) := dz_e0 dz_96 hI_L_law (by decide +kernel)
theorem dL_law_1819 : decode cL_law 1819 = .ok (.iaload, 1) := dz_e0 dz_46 hI_L_law (by decide +kernel)
theorem dL_law_1820 : decode cL_law 1820 = .ok (.aload_n 3, 1) := dz_e0 dz_45 hI_L_law (by decide +kernel)
theorem dL_law_1821 : decode cL_law 1821 = .ok (.invokestatic 241, 3) := dz_e2 dz_184 hI_L_law (by decide +kernel)
theorem dL_law_1824 : decode cL_law 1824 = .ok (.istore 5, 2) := dz_e1 dz_54 hI_L_law (by decide +kernel)
theorem dL_law_1826 : decode cL_law 1826 = .ok (.aload_n 2, 1) := dz_e0 dz_44 hI_L_law (by decide +kernel)
theorem dL_law_1827 : decode cL_law 1827 = .ok (.aload_n 0, 1) := dz_e0 dz_42 hI_L_law (by decide +kernel)
theorem dL_law_1828 : decode cL_law 1828 = .ok (.iload 4, 2) := dz_e1 dz_21 hI_L_law (by decide +kernel)
theorem dL_law_1830 : decode cL_law 1830 = .ok (.iconst 1, 1) := dz_e0 dz_4 hI_L_law (by decide +kernel)
theorem dL_law_1831 : decode cL_law 1831 = .ok (.iadd, 1) := dz_e0 dz_96 hI_L_law (by decide +kernel)
theorem dL_law_1832 : decode cL_law 1832 = .ok (.iaload, 1) := dz_e0 dz_46 hI_L_law (by decide +kernel)
theorem dL_law_1833 : decode cL_law 1833 = .ok (.invokevirtual 243, 3) := dz_e2 dz_182 hI_L_law (by decide +kernel)
theorem dL_law_1836 : decode cL_law 1836 = .ok (.istore 6, 2) := dz_e1 dz_54 hI_L_law (by decide +kernel)
theorem dL_law_1838 : decode cL_law 1838 = .ok (.goto 42, 3) := dz_f2 dz_167 hI_L_law (by decide +kernel)
set_option maxHeartbeats 4000000 in
set_option maxRecDepth 100000 in
theorem lc_30 : Lc 1813 := by
  intro κ p l e s m args below meth c A ret b L o i xs a a2 r2 r q q2 f f2 n v cells slots Q H locs ls hst hX hx9 hbl hbA hi hL hok hm hr hB hl hc hs kk
  have hx := hX.1.1
  have hb := hX.1.2.1
  refine lv_aload_n hx hb dL_law_1813 rfl (lv_at hl 1 rfl) ?_
  obtain ⟨z1, e1⟩ : ∃ z, xs (6 * i + 1) = z := ⟨_, rfl⟩
  refine lv_scr (k := 1) hX hB hx9 hbl hbA hi hL hl dL_law_1814 dL_law_1815 dL_law_1817 dL_law_1818 dL_law_1819 (by decide) (by decide) e1 ?_
  refine lv_aload_n hx hb dL_law_1820 rfl (lv_at hl 3 rfl) ?_
  replace hB := Lw_1 hB
  obtain ⟨Y, hY⟩ : ∃ Y, D_X5_house r q f z1 = Y := ⟨_, rfl⟩
  refine call_SW (n := 3) (As := [.ref (a 0), .int z1, .ref o]) (rest := []) hX hB (CMW_frame (mw κ a2 r2 f2 q2 (tb a2) []) (w_house κ l hst a r q f o n v z1 hok Y hY)) yk_L_house wm_5_125 wm_5_126 wm_1_0 wm_5_127 ⟨Nat.le_of_ble_eq_true rfl, Nat.le_of_ble_eq_true rfl⟩ ⟨by show _ ≤ 600128; omega, by show _ ≤ 7301098; omega⟩ rfl hl.1 rfl (Nat.le_of_ble_eq_true rfl) dL_law_1821 (fun o9 w' H locs hp hB => ?_)
  obtain ⟨_, ⟨x1, n1, v1, rfl, ho, hq, hW, rfl⟩, rfl⟩ := hp
  refine W.eq (g2 := F0 m 1824 ls [.int x1]) rfl ?_
  refine lv_istore (lv' := [(5, .int x1), (0, .ref b), (1, .ref (a 0)), (2, .ref (a2 0)), (3, .ref o), (4, .int (nI (6 * i)))]) hx hb dL_law_1824 hl (by decide) rfl (fun ls hl => ?_)
  have hl0 := hl
  replace hl : lv_has ls 7 (Lv b (a 0) (a2 0) o i) := lv_sub hl [1, 2, 3, 4, 5] rfl
  refine lv_aload_n hx hb dL_law_1826 rfl (lv_at hl 2 rfl) ?_
  refine lv_scr (k := 1) hX hB hx9 hbl hbA hi hL hl dL_law_1827 dL_law_1828 dL_law_1830 dL_law_1831 dL_law_1832 (by decide) (by decide) e1 ?_
  replace hB := Lw_2 hB
  obtain ⟨Z, hZ⟩ : ∃ Z, D_X10_house r2 f2 q2 z1 = Z := ⟨_, rfl⟩
  refine call_V (n := 1) (k0 := 0) (As := [.int z1]) (rest := []) hX hB (k_X10_house κ l (cw κ a Y.2.2.1 Y.2.2.2.1 Y.2.2.2.2 ++ [Ot o n1 v1]) a2 r2 f2 q2 z1 hm _ _ (hZ.trans (te2 Z))) ⟨rfl, yk_X10_house⟩ wm_7_158 wm_7_159 wm_7_160 wm_1_6 wm_7_161 ⟨Nat.le_of_ble_eq_true rfl, Nat.le_of_ble_eq_true rfl⟩ ⟨by show _ ≤ 600128; omega, by show _ ≤ 7301098; omega⟩ mw0 rfl rfl rfl hl.1 rfl (Nat.le_of_ble_eq_true rfl) dL_law_1833 (fun o9 w' H locs hp hB => ?_)
  obtain ⟨rfl, hfq, rfl⟩ := hp
  have hK : RA r2 f2 q2 Y := by rw [← hY]; exact kp_house hr
  refine W.eq (g2 := F0 m 1836 ls [.int Z.1]) rfl ?_
  refine lv_istore (lv' := [(6, .int Z.1), (5, .int x1), (0, .ref b), (1, .ref (a 0)), (2, .ref (a2 0)), (3, .ref o), (4, .int (nI (6 * i)))]) hx hb dL_law_1836 hl0 (by decide) rfl (fun ls hl => ?_)
  have hl0 := hl
  replace hl : lv_has ls 7 (Lv b (a 0) (a2 0) o i) := lv_sub hl [2, 3, 4, 5, 6] rfl
  refine lv_goto (tgt := 1880) hx hb dL_law_1838 (by decide) ?_
  replace hB := Lw_3 hB
  refine W.widen (k := cells + 100) (n := slots + 70000) (by omega) (by omega) ?_
  exact kk _ _ _ _ _ _ _ _ _ _ _ _ (ho hok) hm (Rl_q hK hfq) rfl hB hl
theorem dL_law_1841 : decode cL_law 1841 = .ok (.aload_n 1, 1) := dz_e0 dz_43 hI_L_law (by decide +kernel)
theorem dL_law_1842 : decode cL_law 1842 = .ok (.invokevirtual 244, 3) := dz_e2 dz_182 hI_L_law (by decide +kernel)
theorem dL_law_1845 : decode cL_law 1845 = .ok (.pop, 1) := dz_e0 dz_87 hI_L_law (by decide +kernel)
theorem dL_law_1846 : decode cL_law 1846 = .ok (.aload_n 2, 1) := dz_e0 dz_44 hI_L_law (by decide +kernel)
theorem dL_law_1847 : decode cL_law 1847 = .ok (.invokevirtual 247, 3) := dz_e2 dz_182 hI_L_law (by decide +kernel)
theorem dL_law_1850 : decode cL_law 1850 = .ok (.pop, 1) := dz_e0 dz_87 hI_L_law (by decide +kernel)
theorem dL_law_1851 : decode cL_law 1851 = .ok (.goto 29, 3) := dz_f2 dz_167 hI_L_law (by decide +kernel)
set_option maxHeartbeats 4000000 in
set_option maxRecDepth 100000 in
theorem lc_31 : Lc 1841 := by
  intro κ p l e s m args below meth c A ret b L o i xs a a2 r2 r q q2 f f2 n v cells slots Q H locs ls hst hX hx9 hbl hbA hi hL hok hm hr hB hl hc hs kk
  have hx := hX.1.1
  have hb := hX.1.2.1
  refine lv_aload_n hx hb dL_law_1841 rfl (lv_at hl 1 rfl) ?_
  refine call_V (n := 0) (k0 := 0) (As := []) (rest := []) hX hB (CM_frame ([Ot o n v] ++ mw κ a2 r2 f2 q2 (tb a2) []) (k_X5_knock κ l a r q f _ rfl)) ⟨rfl, yk_X5_knock⟩ wm_1_168 wm_1_169 wm_1_170 wm_1_1 wm_1_171 ⟨Nat.le_of_ble_eq_true rfl, Nat.le_of_ble_eq_true rfl⟩ ⟨by show _ ≤ 600128; omega, by show _ ≤ 7301098; omega⟩ (app_at cw0) rfl rfl rfl hl.1 rfl (Nat.le_of_ble_eq_true rfl) dL_law_1842 (fun o9 w' H locs hp hB => ?_)
  obtain ⟨_, ⟨rfl, rfl⟩, rfl⟩ := hp
  refine W.eq (g2 := F0 m 1845 ls [.int (q 4 + 1)]) rfl ?_
  refine lv_pop hx hb dL_law_1845 rfl ?_
  refine lv_aload_n hx hb dL_law_1846 rfl (lv_at hl 2 rfl) ?_
  replace hB := Lw_2 (Lw_1 hB)
  refine call_V (n := 0) (k0 := 0) (As := []) (rest := []) hX hB (k_X10_knock κ l (cw κ a r (va_up q 4 (q 4 + 1)) f ++ [Ot o n v]) a2 r2 f2 q2  hm) ⟨rfl, yk_X10_knock⟩ wm_7_166 wm_7_167 wm_7_168 wm_1_6 wm_7_169 ⟨Nat.le_of_ble_eq_true rfl, Nat.le_of_ble_eq_true rfl⟩ ⟨by show _ ≤ 600128; omega, by show _ ≤ 7301098; omega⟩ mw0 rfl rfl rfl hl.1 rfl (Nat.le_of_ble_eq_true rfl) dL_law_1847 (fun o9 w' H locs hp hB => ?_)
  obtain ⟨rfl, rfl⟩ := hp
  refine W.eq (g2 := F0 m 1850 ls [.int (q2 2 + 1)]) rfl ?_
  refine lv_pop hx hb dL_law_1850 rfl ?_
  refine lv_goto (tgt := 1880) hx hb dL_law_1851 (by decide) ?_
  replace hB := Lw_3 hB
  refine W.widen (k := cells + 100) (n := slots + 70000) (by omega) (by omega) ?_
  exact kk _ _ _ _ _ _ _ _ _ _ _ _ hok hm (Rl_knock hr) rfl hB hl
theorem dL_law_1854 : decode cL_law 1854 = .ok (.aload_n 1, 1) := dz_e0 dz_43 hI_L_law (by decide +kernel)
theorem dL_law_1855 : decode cL_law 1855 = .ok (.invokevirtual 248, 3) := dz_e2 dz_182 hI_L_law (by decide +kernel)
theorem dL_law_1858 : decode cL_law 1858 = .ok (.pop, 1) := dz_e0 dz_87 hI_L_law (by decide +kernel)
theorem dL_law_1859 : decode cL_law 1859 = .ok (.aload_n 2, 1) := dz_e0 dz_44 hI_L_law (by decide +kernel)
theorem dL_law_1860 : decode cL_law 1860 = .ok (.invokevirtual 252, 3) := dz_e2 dz_182 hI_L_law (by decide +kernel)
theorem dL_law_1863 : decode cL_law 1863 = .ok (.pop, 1) := dz_e0 dz_87 hI_L_law (by decide +kernel)
theorem dL_law_1864 : decode cL_law 1864 = .ok (.goto 16, 3) := dz_f2 dz_167 hI_L_law (by decide +kernel)
set_option maxHeartbeats 4000000 in
set_option maxRecDepth 100000 in
theorem lc_32 : Lc 1854 := by
  intro κ p l e s m args below meth c A ret b L o i xs a a2 r2 r q q2 f f2 n v cells slots Q H locs ls hst hX hx9 hbl hbA hi hL hok hm hr hB hl hc hs kk
  have hx := hX.1.1
  have hb := hX.1.2.1
  refine lv_aload_n hx hb dL_law_1854 rfl (lv_at hl 1 rfl) ?_
  obtain ⟨Y, hY⟩ : ∃ Y, D_X5_isSound r q f = Y := ⟨_, rfl⟩
  refine call_V (n := 0) (k0 := 0) (As := []) (rest := []) hX hB (CM_frame ([Ot o n v] ++ mw κ a2 r2 f2 q2 (tb a2) []) (k_X5_isSound κ l a r q f hok _ _ _ _ (hY.trans (te4 Y)))) ⟨rfl, yk_X5_isSound⟩ wm_1_172 wm_1_173 wm_1_174 wm_1_1 wm_1_175 ⟨Nat.le_of_ble_eq_true rfl, Nat.le_of_ble_eq_true rfl⟩ ⟨by show _ ≤ 600128; omega, by show _ ≤ 7301098; omega⟩ (app_at cw0) rfl rfl rfl hl.1 rfl (Nat.le_of_ble_eq_true rfl) dL_law_1855 (fun o9 w' H locs hp hB => ?_)
  obtain ⟨_, ⟨rfl, bx, ho, hq, rfl⟩, rfl⟩ := hp
  refine W.eq (g2 := F0 m 1858 ls [.int Y.1]) rfl ?_
  refine lv_pop hx hb dL_law_1858 rfl ?_
  refine lv_aload_n hx hb dL_law_1859 rfl (lv_at hl 2 rfl) ?_
  replace hB := Lw_2 (Lw_1 hB)
  obtain ⟨Z, hZ⟩ : ∃ Z, D_X10_isSound r2 f2 q2 = Z := ⟨_, rfl⟩
  refine call_V (n := 0) (k0 := 0) (As := []) (rest := []) hX hB (k_X10_isSound κ l (cw κ a Y.2.1 Y.2.2.1 Y.2.2.2 ++ [Ot o n v]) a2 r2 f2 q2  hm _ _ (hZ.trans (te2 Z))) ⟨rfl, yk_X10_isSound⟩ wm_7_170 wm_7_171 wm_7_172 wm_1_6 wm_7_173 ⟨Nat.le_of_ble_eq_true rfl, Nat.le_of_ble_eq_true rfl⟩ ⟨by show _ ≤ 600128; omega, by show _ ≤ 7301098; omega⟩ mw0 rfl rfl rfl hl.1 rfl (Nat.le_of_ble_eq_true rfl) dL_law_1860 (fun o9 w' H locs hp hB => ?_)
  obtain ⟨rfl, hf0, hfq, rfl⟩ := hp
  have hK : RB r2 f2 q2 Y := by rw [← hY]; exact kp_isSound hr
  refine W.eq (g2 := F0 m 1863 ls [.int Z.1]) rfl ?_
  refine lv_pop hx hb dL_law_1863 rfl ?_
  refine lv_goto (tgt := 1880) hx hb dL_law_1864 (by decide) ?_
  replace hB := Lw_3 hB
  refine W.widen (k := cells + 100) (n := slots + 70000) (by omega) (by omega) ?_
  exact kk _ _ _ _ _ _ _ _ _ _ _ _ (ho hok) hm (Rl_q hK hfq) rfl hB hl
theorem dL_law_1867 : decode cL_law 1867 = .ok (.aload_n 1, 1) := dz_e0 dz_43 hI_L_law (by decide +kernel)
theorem dL_law_1868 : decode cL_law 1868 = .ok (.invokevirtual 253, 3) := dz_e2 dz_182 hI_L_law (by decide +kernel)
theorem dL_law_1871 : decode cL_law 1871 = .ok (.pop2, 1) := dz_e0 dz_88 hI_L_law (by decide +kernel)
theorem dL_law_1872 : decode cL_law 1872 = .ok (.aload_n 2, 1) := dz_e0 dz_44 hI_L_law (by decide +kernel)
theorem dL_law_1873 : decode cL_law 1873 = .ok (.invokevirtual 257, 3) := dz_e2 dz_182 hI_L_law (by decide +kernel)
theorem dL_law_1876 : decode cL_law 1876 = .ok (.pop2, 1) := dz_e0 dz_88 hI_L_law (by decide +kernel)
theorem dL_law_1877 : decode cL_law 1877 = .ok (.goto 3, 3) := dz_f2 dz_167 hI_L_law (by decide +kernel)
set_option maxHeartbeats 4000000 in
set_option maxRecDepth 100000 in
theorem lc_33 : Lc 1867 := by
  intro κ p l e s m args below meth c A ret b L o i xs a a2 r2 r q q2 f f2 n v cells slots Q H locs ls hst hX hx9 hbl hbA hi hL hok hm hr hB hl hc hs kk
  have hx := hX.1.1
  have hb := hX.1.2.1
  refine lv_aload_n hx hb dL_law_1867 rfl (lv_at hl 1 rfl) ?_
  obtain ⟨Y, hY⟩ : ∃ Y, D_X5_digest r q f = Y := ⟨_, rfl⟩
  refine call_V (n := 0) (k0 := 0) (As := []) (rest := []) hX hB (CM_frame ([Ot o n v] ++ mw κ a2 r2 f2 q2 (tb a2) []) (k_X5_digest κ l a r q f hok _ _ _ _ (hY.trans (te4 Y)))) ⟨rfl, yk_X5_digest⟩ wm_2_124 wm_2_125 wm_2_126 wm_1_1 wm_2_127 ⟨Nat.le_of_ble_eq_true rfl, Nat.le_of_ble_eq_true rfl⟩ ⟨by show _ ≤ 600128; omega, by show _ ≤ 7301098; omega⟩ (app_at cw0) rfl rfl rfl hl.1 rfl (Nat.le_of_ble_eq_true rfl) dL_law_1868 (fun o9 w' H locs hp hB => ?_)
  obtain ⟨_, ⟨rfl, ho, hq, rfl⟩, rfl⟩ := hp
  refine W.eq (g2 := F0 m 1871 ls [.long Y.1]) rfl ?_
  refine lv_pop2_2 hx hb dL_law_1871 rfl ?_
  refine lv_aload_n hx hb dL_law_1872 rfl (lv_at hl 2 rfl) ?_
  replace hB := Lw_2 (Lw_1 hB)
  obtain ⟨Z, hZ⟩ : ∃ Z, D_X10_digest r2 f2 q2 = Z := ⟨_, rfl⟩
  refine call_V (n := 0) (k0 := 0) (As := []) (rest := []) hX hB (k_X10_digest κ l (cw κ a Y.2.1 Y.2.2.1 Y.2.2.2 ++ [Ot o n v]) a2 r2 f2 q2  hm _ _ (hZ.trans (te2 Z))) ⟨rfl, yk_X10_digest⟩ wm_7_178 wm_7_179 wm_7_180 wm_1_6 wm_7_181 ⟨Nat.le_of_ble_eq_true rfl, Nat.le_of_ble_eq_true rfl⟩ ⟨by show _ ≤ 600128; omega, by show _ ≤ 7301098; omega⟩ mw0 rfl rfl rfl hl.1 rfl (Nat.le_of_ble_eq_true rfl) dL_law_1873 (fun o9 w' H locs hp hB => ?_)
  obtain ⟨rfl, hfq, rfl⟩ := hp
  have hK : RC r2 f2 q2 Y := by rw [← hY]; exact kp_digest hr
  refine W.eq (g2 := F0 m 1876 ls [.long Z.1]) rfl ?_
  refine lv_pop2_2 hx hb dL_law_1876 rfl ?_
  refine lv_goto (tgt := 1880) hx hb dL_law_1877 (by decide) ?_
  replace hB := Lw_3 hB
  refine W.widen (k := cells + 100) (n := slots + 70000) (by omega) (by omega) ?_
  exact kk _ _ _ _ _ _ _ _ _ _ _ _ (ho hok) hm (Rl_q hK hfq) rfl hB hl
end
