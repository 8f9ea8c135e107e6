/-! moving what is known of the exceptions -/
theorem th_dc_moved {s U : State} (hvm : s.vm.Alike U.vm) (h : ∀ w ∈ th_dc, va_Nw w s) : ∀ w ∈ th_dc, va_Nw w U := by
  have hd : ∀ x, va_Nw (.declares x) s → va_Nw (.declares x) U := fun x hx => va_tabs rfl (rfl : (s.setVm U.vm).vm = U.vm) ((Cond.declares_setVm (args := #[]) hvm x).trans hx)
  have hc : ∀ a b, va_Nw (.castable a b) s → va_Nw (.castable a b) U := fun a b hx => va_tabs (A := #[]) rfl (rfl : (s.setVm U.vm).vm = U.vm) (by
    have hh : (Jvm.Cond.castable a b).before #[] s = true := hx
    simp only [Cond.before, Cond.holds, Cond.value] at hh ⊢
    have e1 : (s.setVm U.vm).vm.findClass a = s.vm.findClass a := hvm.findClass ..
    have e2 : (s.setVm U.vm).vm.findClass b = s.vm.findClass b := hvm.findClass ..
    rw [e1, e2]
    cases ha : s.vm.findClass a with
    | none => simp [ha] at hh
    | some x =>
      cases hb : s.vm.findClass b with
      | none => simp [ha, hb] at hh
      | some y =>
        have e3 : U.vm.assignable x y = s.vm.assignable x y := hvm.assignable ..
        simpa [ha, hb, e3] using hh)
  intro w hw
  have hs := h w hw
  unfold th_dc at hw
  simp only [List.mem_cons, List.not_mem_nil, or_false] at hw
  rcases hw with rfl | rfl | rfl | rfl | rfl
  · exact hd _ hs
  · exact hd _ hs
  · exact hd _ hs
  · exact hc _ _ hs
  · exact hc _ _ hs
/-- a static of Throwable's that holds a reference or null -/
def th_Z (n d : String) (A : Nat → Prop) (U : State) (H : Heap) : Prop := ∃ (c : ClassId) (k : Class) (i : Nat) (f : Field) (a : Nat) (cell : Cell) (v : Value), U.vm.findClass th_T = some c ∧ U.fieldFound? th_T n d = some (c, k, i, f) ∧ f.isStatic = true ∧ k.statics = some a ∧ H[a]? = some cell ∧ cell.vm.isStatics = true ∧ cell.cls = c ∧ f.slot < cell.slots.size ∧ k.staticTypes[f.slot]? = some f.type ∧ cell.slots[f.slot]? = some v ∧ v.isRef = true ∧ ¬ A a
theorem th_Z.moved {n d : String} {A : Nat → Prop} {u U : State} {H : Heap} (hvm : u.vm.Alike U.vm) (h : th_Z n d A u H) : th_Z n d A U H := by
  obtain ⟨c, k, i, f, a, cell, v, h0, h1, h2, h3, h4, h5, h6, h7, h8, h9⟩ := h
  obtain ⟨k', hi', he⟩ := State.fieldFound?_setVm hvm h1
  exact ⟨c, k', i, f, a, cell, v, by rw [hvm.findClass]; exact h0, hi', h2, by rw [he]; exact h3, h4, h5, h6, h7, by rw [he]; exact h8, h9⟩
theorem th_Z.kept {n d : String} {A : Nat → Prop} {U : State} {H H1 : Heap} (h : th_Z n d A U H) (hq : ∀ a : Nat, a < H.size → ¬ A a → H1[a]? = H[a]?) : th_Z n d A U H1 := by
  obtain ⟨c, k, i, f, a, cell, v, h0, h1, h2, h3, h4, h5, h6, h7, h8, h9, h10, h11⟩ := h
  exact ⟨c, k, i, f, a, cell, v, h0, h1, h2, h3, by rw [hq a (Array.getElem?_eq_some_iff.mp h4).1 h11]; exact h4, h5, h6, h7, h8, h9, h10, h11⟩
theorem th_Z.narrow {n d : String} {A B : Nat → Prop} {U : State} {H : Heap} (h : th_Z n d A U H) (hAB : ∀ q, B q → A q) : th_Z n d B U H := by
  obtain ⟨c, k, i, f, a, cell, v, h0, h1, h2, h3, h4, h5, h6, h7, h8, h9, h10, h11⟩ := h
  exact ⟨c, k, i, f, a, cell, v, h0, h1, h2, h3, h4, h5, h6, h7, h8, h9, h10, fun z => h11 (hAB a z)⟩
theorem th_Z.of {args : Array Value} {s : State} {n d : String} {A : Nat → Prop} (hl : (Jvm.Cond.laysStatic th_T n d).before args s = true) (hr : (Jvm.Cond.isRef (.static th_T n d)).before args s = true) (hA : ∀ a : Nat, a < s.heap.size → ¬ A a) : th_Z n d A s s.heap := by
  obtain ⟨c, k, i, f, a, cell, hc, hi, hst, ha, hcell, hs, hcls, hlt, hty⟩ := Cond.laysStatic_spec hl
  have hv : cell.slots[f.slot]? = some cell.slots[f.slot] := Array.getElem?_eq_getElem hlt
  have he : (Term.static th_T n d).eval args s none [] s = some cell.slots[f.slot] := by
    simp [Term.eval, State.fieldNamed?, hi, hst, ha, hcell, hs, hv]
  refine ⟨c, k, i, f, a, cell, _, hc, hi, hst, ha, hcell, hs, hcls, hlt, hty, hv, ?_, hA a (Array.getElem?_eq_some_iff.mp hcell).1⟩
  simp only [Cond.before, Cond.holds, Cond.value, he] at hr
  revert hr
  cases cell.slots[f.slot] <;> simp [Value.isRef]
theorem th_Z.lays {n d : String} {A : Nat → Prop} {s : State} (h : th_Z n d A s s.heap) (args : Array Value) : (Jvm.Cond.laysStatic th_T n d).before args s = true := by
  obtain ⟨c, k, i, f, a, cell, v, h0, h1, h2, h3, h4, h5, h6, h7, h8, h9, h10, h11⟩ := h
  simp [Cond.before, Cond.holds, Cond.value, h0, h1, h2, h3, h4, h5, h6, h7, h8]
theorem th_Z.ref {n d : String} {A : Nat → Prop} {s : State} (h : th_Z n d A s s.heap) (args : Array Value) : (Jvm.Cond.isRef (.static th_T n d)).before args s = true := by
  obtain ⟨c, k, i, f, a, cell, v, h0, h1, h2, h3, h4, h5, h6, h7, h8, h9, h10, h11⟩ := h
  have he : (Term.static th_T n d).eval args s none [] s = some v := by
    simp [Term.eval, State.fieldNamed?, h1, h2, h3, h4, h5, h9]
  simp only [Cond.before, Cond.holds, Cond.value, he]
  revert h10
  cases v <;> simp [Value.isRef]
/-- all of it: for a state, outside of A -/
def th_P (A : Nat → Prop) (U : State) (H : Heap) : Prop := (∀ w ∈ th_dc, va_Nw w U) ∧ th_Z "UNASSIGNED_STACK" th_d1 A U H ∧ th_Z "SUPPRESSED_SENTINEL" th_d2 A U H
theorem th_P.moved {A : Nat → Prop} {u U : State} {H : Heap} (hvm : u.vm.Alike U.vm) (h : th_P A u H) : th_P A U H := ⟨th_dc_moved hvm h.1, h.2.1.moved hvm, h.2.2.moved hvm⟩
theorem th_P.kept {A : Nat → Prop} {U : State} {H H1 : Heap} (h : th_P A U H) (hq : ∀ a : Nat, a < H.size → ¬ A a → H1[a]? = H[a]?) : th_P A U H1 := ⟨h.1, h.2.1.kept hq, h.2.2.kept hq⟩
theorem th_P.narrow {A B : Nat → Prop} {U : State} {H : Heap} (h : th_P A U H) (hAB : ∀ q, B q → A q) : th_P B U H := ⟨h.1, h.2.1.narrow hAB, h.2.2.narrow hAB⟩
theorem th_atoms {L : List Jvm.Cond} (hL : L.all (fun w => decide (w ∈ mj_WS) || (decide (w ∈ th_dc) || (decide (w ∈ [th_l1, th_l2, th_r1, th_r2])))) = true) {args : Array Value} {s : State} (hts : ∀ w ∈ mj_WS, w.before args s = true) {A : Nat → Prop} (h : th_P A s s.heap) : ∀ a ∈ L, a.before args s = true := by
  intro w hw
  have h1 := List.all_eq_true.mp hL w hw
  simp only [Bool.or_eq_true, decide_eq_true_eq] at h1
  rcases h1 with h1 | h1 | h1
  · exact hts w h1
  · have h2 := h.1 w h1
    refine va_Nw.use ?_ h2
    unfold th_dc at h1
    simp only [List.mem_cons, List.not_mem_nil, or_false] at h1
    rcases h1 with rfl | rfl | rfl | rfl | rfl <;> rfl
  · simp only [List.mem_cons, List.not_mem_nil, or_false] at h1
    rcases h1 with rfl | rfl | rfl | rfl
    · exact h.2.1.lays args
    · exact h.2.2.lays args
    · exact h.2.1.ref args
    · exact h.2.2.ref args
