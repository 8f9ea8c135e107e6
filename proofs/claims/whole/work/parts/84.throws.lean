/-! run and output where they throw -/
set_option maxRecDepth 20000 in
theorem tw_cl1 : (Jvm.Cond.classLink "ListSpeaker" (92 : Nat) "java/lang/IllegalArgumentException") ∈ mj_WS := mj_mem 417 (by decide +kernel) (by decide)
set_option maxRecDepth 20000 in
theorem tw_cl2 : (Jvm.Cond.classLink "ListSpeaker" (118 : Nat) "java/lang/IndexOutOfBoundsException") ∈ mj_WS := mj_mem 945 (by decide +kernel) (by decide)
set_option maxRecDepth 20000 in
theorem tw_in1 : (Jvm.Cond.instantiable "java/lang/IllegalArgumentException" (6 : Nat)) ∈ mj_WS := mj_mem 418 (by decide +kernel) (by decide)
set_option maxRecDepth 20000 in
theorem tw_in2 : (Jvm.Cond.instantiable "java/lang/IndexOutOfBoundsException" (6 : Nat)) ∈ mj_WS := mj_mem 946 (by decide +kernel) (by decide)
set_option maxRecDepth 20000 in
theorem tw_it1 : (Jvm.Cond.initialized "java/lang/IllegalArgumentException") ∈ mj_WS := mj_mem 20 (by decide +kernel) (by decide)
set_option maxRecDepth 20000 in
theorem tw_it2 : (Jvm.Cond.initialized "java/lang/IndexOutOfBoundsException") ∈ mj_WS := mj_mem 21 (by decide +kernel) (by decide)
theorem th_old {s s' : State} {k n : Nat} (h : s.sameButNew s' [] k n) : ∀ q, q < s.heap.size → s'.heap[q]? = s.heap[q]? := by
  intro q hq
  have h1 : s.heap[q]? = some s.heap[q] := Array.getElem?_eq_getElem hq
  obtain ⟨c', h2, h3, h4, h5⟩ := h.2.2.2.2.2 q _ h1
  have e : c'.slots = (s.heap[q]).slots := by
    apply Array.ext_getElem?
    intro i
    exact h5 i (by simp)
  rw [h1, h2, h3, e]
def th_MQ (below : List Frame) (Qt : Array Value → State → Addr → State → Prop) (args : Array Value) (s : State) (mc ms : Nat) : State → Prop := fun t => ∃ x, t.status = .running ∧ Ended t below (.threw x) ∧ Qt args s x t ∧ s.WarmedH t.vm ∧ s.sameButNew ({ t with vm := s.vm } : State) [] mc ms
def th_Q (Qt : Array Value → State → Addr → State → Prop) (mc ms : Nat) : Array Value → State → Outcome → State → Prop := fun a st oc t => ∃ x, oc = .threw x ∧ Qt a st x t ∧ st.WarmedH t.vm ∧ st.sameButNew ({ t with vm := st.vm } : State) [] mc ms
def th_Met (l : Launch) (y : MethodName) (ws : List Jvm.Cond) (rm : Room) (Pc : Array Value → State → Prop) (Qt : Array Value → State → Addr → State → Prop) (mc ms : Nat) : Prop := MetFree l y (headSpec ws rm) Pc (fun _ _ _ _ _ => True) (th_Q Qt mc ms)
theorem th_ofW {l : Launch} {y : MethodName} {ws ws' : List Jvm.Cond} {rm : Room} {Pc : Array Value → State → Prop} {Qt : Array Value → State → Addr → State → Prop} {mc ms : Nat} {cc : ByteArray} {maxL : Nat} {ret : Option FieldType}
    (hy : plainName y.cls = true) (hw : ws = Jvm.Cond.code y cc maxL ret :: ws')
    (body : ∀ p e s m args below meth c s₁, BodyLoose p l y (headSpec ws rm) cc maxL ret e s m args below meth c s₁ → c.maxLocals = maxL → Pc args s →
      W p l e (headSpec ws rm).room s m args below meth c s.heap [] 0 0 (th_MQ below Qt args s mc ms) (entryFrame m args maxL)) : th_Met l y ws rm Pc Qt mc ms := by
  refine MetFree.of_bodyS (code := cc) (maxLocals := maxL) (ret := ret) hy ?_ ?_
  · intro args s m h hn
    obtain ⟨meth, c, h1, h2, h3, h4, h5, h6, -, -⟩ := Cond.code_spec hn (atoms_spec (ws := ws) h _ (by rw [hw]; exact List.mem_cons_self))
    exact ⟨meth, c, h1, h2, h3, h4, h5, h6⟩
  · intro p e s m args below meth c s₁ B hml hP _
    have hh0 : s₁.heap = s.heap := by rw [B.state]; rfl
    obtain ⟨t, a1, x, b1, b2, b3, b4, b5⟩ := body p e s m args below meth c s₁ B hml hP s₁ hh0 (Stand.of_body B)
    exact ⟨t, .threw x, a1, b1, b2, x, rfl, b3, b4, b5⟩
/-- what a throwing method leaves: a new object of the class C, all else as it was -/
def th_Qt (C : String) : Array Value → State → Addr → State → Prop := fun _ st x t => st.heap.size ≤ x ∧ (∀ q, q < st.heap.size → t.heap[q]? = st.heap[q]?) ∧ st.heap.size ≤ t.heap.size ∧ ∃ ce, t.heap[x]? = some ce ∧ ce.vm = .none ∧ st.vm.findClass C = some ce.cls
theorem th_go {p : Program} {l : Launch} {e : Env} {R : Room} {s : State} {m : MethodId} {args : Array Value} {below : List Frame} {meth : Method} {c : Code} {cc : ByteArray} {C : String} {i1 i2 i3 : Nat} {tx : String} {a1 pc nL : Nat} {ls : Array Slot} {A : Nat → Prop}
    (hfl : l.flags = flags0) (hx : p.tables.exec = Jvm.exec) (hb : c.code = cc) (hml : c.maxLocals = nL) (hls : ls.size = nL) (hown : s.vm.findClass "ListSpeaker" = some m.cls) (hts : ∀ w ∈ mj_WS, w.before args s = true) (hth : th_P A s s.heap) (hVR : vk_R "ListSpeaker" i2 tx a1 s) (hlk : meth.locks = false) (hout : c.exceptionTable = #[])
    (hw : (Bundle.ownAtoms "ListSpeaker" i3 C th_ns).all (fun w => decide (w ∈ mj_WS) || (decide (w ∈ th_dc) || (decide (w ∈ [th_l1, th_l2, th_r1, th_r2])))) = true) (hfit : Bundle.fit C = true)
    (w1 : Jvm.Cond.classLink "ListSpeaker" i1 C ∈ mj_WS) (w2 : Jvm.Cond.instantiable C 6 ∈ mj_WS) (w3 : Jvm.Cond.initialized C ∈ mj_WS)
    (hc : 1 ≤ R.cells) (hs : 6 ≤ R.slots) (hf : 6 ≤ R.frames) (hlo : 100 ≤ R.locals)
    (d1 : decode cc pc = .ok (.new i1, 3)) (d2 : decode cc (pc + 3) = .ok (.dup, 1)) (d3 : decode cc (pc + 4) = .ok (.ldc i2, 2)) (d4 : decode cc (pc + 6) = .ok (.invokespecial i3, 3)) (d5 : decode cc (pc + 9) = .ok (.athrow, 1)) : W p l e R s m args below meth c s.heap [] 0 0 (th_MQ below (th_Qt C) args s 1 6) (F0 m pc ls []) := by
  refine W.newc hx hb hown (hts _ w1) (hts _ w2) (hts _ w3) (g := F0 m pc ls []) rfl d1 hc hs (fun cC kC h1 h2 h3 h4 => ?_)
  refine W.eq (g2 := F0 m (pc + 3) ls [.ref s.heap.size]) rfl ?_
  refine lv_dup hx hb d2 rfl ?_
  refine va_ldcS hx hb hown hVR d3 ?_
  intro T hT X
  have htr : e.platform.stackTraces = false := by
    rw [X.admits.platform]
    show l.stackTraces = false
    unfold Launch.stackTraces
    rw [hfl]
    decide +kernel
  have hcell : T.heap[s.heap.size]? = some (freshCell cC kC) := by
    rw [hT, Array.getElem?_push_size]
    rfl
  obtain ⟨U, q1, q2, q3, q4, q5, ce, q6, q7⟩ := X.ctorThrowS hx htr hown hfit (by decide) (th_atoms hw hts hth) (fun x hx9 => by cases hx9) h1 h2 hcell (Nat.le_refl _) (msg := .ref a1) rfl (g := F0 m (pc + 6) ls [.ref a1, .ref s.heap.size, .ref s.heap.size]) rfl (by rw [hml]; exact hls) rfl rfl rfl (by rw [hb]; exact d4) (by rw [hb]; exact d5) (fun x hx9 => by rw [hout] at hx9; cases hx9) (by show 2 + 3 < R.frames; omega) (by show 2 * 0 + (1 + 0) + (13 * 3 + 42) ≤ R.locals; omega) hlk
  have h9 := th_old q5
  exact ⟨U, q1, s.heap.size, q2, q3, ⟨Nat.le_refl _, h9, q5.2.1, ce, q6, q7.vm, q7.cls⟩, q4, q5⟩
abbrev y_lrun : MethodName := ({ cls := "ListSpeaker", name := "run", desc := "(I)I" } : Jvm.MethodName)
set_option maxHeartbeats 4000000 in
set_option maxRecDepth 100000 in
theorem th_run {l : Launch} (hfl : l.flags = flags0) (h0 a1 : Nat) (x : Int) (hxr : mj_r x) (hx0 : x < 0 ∨ 20000 < x) (A : Nat → Prop) : th_Met l mjcM2.1 (Jvm.Cond.code mjcM2.1 mjcM2.2.1 mjcM2.2.2.1 mjcM2.2.2.2.1 :: mj_WS) ({ frames := 8, cells := 1, slots := 6, locals := 600 }) (va_Pc [.ref h0, .int (Int32.ofInt x)] (fun U => th_P A U U.heap ∧ vk_R "ListSpeaker" 94 "fuel is not 0 .. 20000" a1 U)) (th_Qt th_A) 1 6 := by
  refine th_ofW (cc := prog_1_method_4_code) (maxL := 3) (ret := (Option.some Jvm.ClassFile.FieldType.int)) (by decide) rfl ?_
  intro p e s m args below meth c s₁ B hml hv
  obtain ⟨rfl, hth, hVR⟩ := hv
  have hx := B.exec
  have hb := B.bytes
  have hts0 := atoms_spec (ws := Jvm.Cond.code mjcM2.1 mjcM2.2.1 mjcM2.2.2.1 mjcM2.2.2.2.1 :: mj_WS) B.pre
  have hts : ∀ w ∈ mj_WS, w.before _ s = true := fun w hw => hts0 w (List.mem_cons_of_mem _ hw)
  have hown : s.vm.findClass "ListSpeaker" = some m.cls := findClass_of_methodNamed B.named
  have hout : c.exceptionTable = #[] := B.noHandlers (hts0 _ List.mem_cons_self)
  have hl := lv_entry ([.ref h0, .int (Int32.ofInt x)]) (n := 3) (Nat.le_of_ble_eq_true rfl)
  rw [lg_entry_eq]
  generalize (lg_sl ([.ref h0, .int (Int32.ofInt x)]) ++ List.replicate (3 - (lg_sl ([.ref h0, .int (Int32.ofInt x)])).length) Slot.unset).toArray = ls at hl ⊢
  have hl : lv_has ls 3 [(0, .ref h0), (1, .int (Int32.ofInt x))] := hl
  have thr : W p l e _ s m _ below meth c s.heap [] 0 0 (th_MQ below (th_Qt th_A) _ s 1 6) (F0 m 11 ls []) := th_go hfl hx hb hml hl.1 hown hts hth hVR B.notSynchronized hout th_w1 (by decide) tw_cl1 tw_in1 tw_it1 (Nat.le_of_ble_eq_true rfl) (Nat.le_of_ble_eq_true rfl) (Nat.le_of_ble_eq_true rfl) (Nat.le_of_ble_eq_true rfl) (show decode prog_1_method_4_code 11 = .ok (.new 92, 3) from by decide +kernel) (show decode prog_1_method_4_code 14 = .ok (.dup, 1) from by decide +kernel) (show decode prog_1_method_4_code 15 = .ok (.ldc 94, 2) from by decide +kernel) (show decode prog_1_method_4_code 17 = .ok (.invokespecial 96, 3) from by decide +kernel) (show decode prog_1_method_4_code 20 = .ok (.athrow, 1) from by decide +kernel)
  refine lv_iload_n hx hb (show decode prog_1_method_4_code 0 = .ok (.iload_n 1, 1) from by decide +kernel) rfl (lv_at hl 1 rfl) ?_
  refine lv_if_lt (tgt := 11) hx hb (show decode prog_1_method_4_code 1 = .ok (.ifCond .lt 10, 3) from by decide +kernel) (by decide) (fun _ => thr) (fun h1 => ?_)
  refine lv_iload_n hx hb (show decode prog_1_method_4_code 4 = .ok (.iload_n 1, 1) from by decide +kernel) rfl (lv_at hl 1 rfl) ?_
  refine lv_sipush (v := 20000) hx hb (show decode prog_1_method_4_code 5 = .ok (.sipush 20000, 3) from by decide +kernel) (by decide) ?_
  refine lv_icmp_le (tgt := 21) hx hb (show decode prog_1_method_4_code 8 = .ok (.if_icmp .le 13, 3) from by decide +kernel) (by decide) (fun h2 => ?_) (fun _ => thr)
  exfalso
  have g1 : ¬ x < 0 := fun z => h1 ((mj_lt hxr mj_0).mpr z)
  have g2 : x ≤ 20000 := (mj_le hxr (mj_rN (by decide) (by decide))).mp h2
  omega
abbrev y_loutput : MethodName := ({ cls := "ListSpeaker", name := "output", desc := "(I)C" } : Jvm.MethodName)
