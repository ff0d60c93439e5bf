/-! ===== a contract over more cells than it asks ===== -/
theorem frame_pre {κ : Kt} {av : List Value} {w Wr : va_W} {sz : Nat} {a : Array Value} {s : State} (h : Pm κ av (w ++ Wr) sz a s) : Pm κ av w sz a s := by
  obtain ⟨h1, h2, h3, h4, h5⟩ := h
  have e : ∀ (k : Nat) (q : Nat × va_E), w[k]? = some q → (w ++ Wr)[k]? = some q := fun k q hk => by
    rw [List.getElem?_append_left (List.getElem?_eq_some_iff.mp hk).1]; exact hk
  exact ⟨h1, h2, h3, fun k q hk => h4 k q (e k q hk), fun i j p q hi hj => h5.1 i j p q (e i p hi) (e j q hj), fun k q hk => h5.2 k q (e k q hk)⟩
theorem frame_Ac {w Wr : va_W} {sz q : Nat} (h : Ac w sz q) : Ac (w ++ Wr) sz q := h.elim (fun ⟨e, he⟩ => Or.inl ⟨e, List.mem_append_left _ he⟩) Or.inr
/-- what the rest is, stays -/
theorem frame_rest {κ : Kt} {av : List Value} {w Wr : va_W} {sz : Nat} {a : Array Value} {s : State} (h : Pm κ av (w ++ Wr) sz a s) {k : Nat} {q : Nat × va_E} (hk : Wr[k]? = some q) : q.1 < s.heap.size ∧ ¬ Ac w sz q.1 := by
  obtain ⟨h1, h2, h3, h4, h5⟩ := h
  have ek : (w ++ Wr)[w.length + k]? = some q := by
    rw [List.getElem?_append_right (Nat.le_add_right _ _), Nat.add_sub_cancel_left]; exact hk
  have hl := (h4 _ q ek).lt
  refine ⟨hl, fun z => z.elim (fun hf => ?_) (fun hs => ?_)⟩
  · obtain ⟨i, e, hi⟩ := Fw_at hf
    have hil := (List.getElem?_eq_some_iff.mp hi).1
    have := h5.1 i (w.length + k) (q.1, e) q (by rw [List.getElem?_append_left hil]; exact hi) ek rfl
    omega
  · omega
theorem frame_out {κ : Kt} {av : List Value} {w Wr w1 : va_W} {sz : Nat} {a : Array Value} {s t : State} (h : Pm κ av (w ++ Wr) sz a s) (hF : va_F (Ac w sz) s t) (hP : va_P κ.1 vwCl w1 t.heap) (hD : va_D (Ac w sz) w1) : va_P κ.1 vwCl (w1 ++ Wr) t.heap ∧ va_D (Ac (w ++ Wr) sz) (w1 ++ Wr) := by
  have hr : ∀ (k : Nat) (q : Nat × va_E), Wr[k]? = some q → q.1 < s.heap.size ∧ ¬ Ac w sz q.1 := fun k q hk => frame_rest h hk
  refine ⟨hP.app fun k q hk => ?_, va_D.app (hD.weaken fun k q _ z => frame_Ac z) ⟨fun i j p q hi hj e => ?_, fun k q hk => Or.inl ⟨q.2, List.mem_append_right _ (List.mem_of_getElem? hk)⟩⟩ fun i j p q hi hj e => ?_⟩
  · have ek : (w ++ Wr)[w.length + k]? = some q := by
      rw [List.getElem?_append_right (Nat.le_add_right _ _), Nat.add_sub_cancel_left]; exact hk
    exact (h.2.2.2.1 _ q ek).kept (hF.2 q.1 (hr k q hk).1 (hr k q hk).2)
  · have f : ∀ (k : Nat) (q : Nat × va_E), Wr[k]? = some q → (w ++ Wr)[w.length + k]? = some q := fun k q hk => by
      rw [List.getElem?_append_right (Nat.le_add_right _ _), Nat.add_sub_cancel_left]; exact hk
    have := h.2.2.2.2.1 _ _ p q (f i p hi) (f j q hj) e
    omega
  · have h1 := hD.2 i p hi
    rw [e] at h1
    exact (hr j q hj).2 h1
theorem CM_frame {κ : Kt} {l : Launch} {y : MethodName} {cc : ByteArray} {n : Nat} {ret : Option FieldType} {fr lo mc ms : Nat} {av : List Value} {w : va_W} {post : Option Value → va_W → Prop} (Wr : va_W) (h : CM κ l y cc n ret fr lo mc ms av w post) : CM κ l y cc n ret fr lo mc ms av (w ++ Wr) (fun o w' => ∃ w1, post o w1 ∧ w' = w1 ++ Wr) := by
  intro sz
  refine MetFree.mono (h sz) (fun a s hp => frame_pre hp) (fun _ _ _ _ _ _ => trivial) (fun a st oc t hp hq => ?_)
  obtain ⟨⟨⟨r, w', ho, hpo, hP, hD⟩, hF⟩, L, hE, hL⟩ := hq
  obtain ⟨hP2, hD2⟩ := frame_out hp hF hP hD
  exact ⟨⟨⟨r, w' ++ Wr, ho, ⟨w', hpo, rfl⟩, hP2, hD2⟩, hF.1, fun q h1 h2 => hF.2 q h1 (fun z => h2 (frame_Ac z))⟩, L, hE, fun q hq => frame_Ac (hL q hq)⟩
theorem CX_frame {κ : Kt} {l : Launch} {y : MethodName} {cc : ByteArray} {n : Nat} {ret : Option FieldType} {fr lo mc ms : Nat} {av : List Value} {w : va_W} {post : Option Value → va_W → Prop} {postX : String → va_W → Prop} (Wr : va_W) (h : CX κ l y cc n ret fr lo mc ms av w post postX) : CX κ l y cc n ret fr lo mc ms av (w ++ Wr) (fun o w' => ∃ w1, post o w1 ∧ w' = w1 ++ Wr) (fun E w' => ∃ w1, postX E w1 ∧ w' = w1 ++ Wr) := by
  intro sz
  refine MetFree.mono (h sz) (fun a s hp => frame_pre hp) (fun _ _ _ _ _ _ => trivial) (fun a st oc t hp hq => ?_)
  rcases hq with ⟨⟨⟨r, w', ho, hpo, hP, hD⟩, hF⟩, L, hE, hL⟩ | ⟨q, ho, hT⟩
  · obtain ⟨hP2, hD2⟩ := frame_out hp hF hP hD
    exact Or.inl ⟨⟨⟨r, w' ++ Wr, ho, ⟨w', hpo, rfl⟩, hP2, hD2⟩, hF.1, fun q h1 h2 => hF.2 q h1 (fun z => h2 (frame_Ac z))⟩, L, hE, fun q hq => frame_Ac (hL q hq)⟩
  · refine Or.inr ⟨q, ho, ?_⟩
    obtain ⟨E, ce, L, ⟨⟨w', hpo, hP, hD⟩, hF⟩, t1, t2, t3, t4, t5, tL⟩ := hT
    obtain ⟨hP2, hD2⟩ := frame_out hp hF hP hD
    exact ⟨E, ce, L, ⟨⟨w' ++ Wr, ⟨w', hpo, rfl⟩, hP2, hD2⟩, hF.1, fun q h1 h2 => hF.2 q h1 (fun z => h2 (frame_Ac z))⟩, t1, t2, t3, t4, t5, fun z hz => frame_Ac (tL z hz)⟩
