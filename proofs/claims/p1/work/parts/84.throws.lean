/-! run and output where they throw -/
set_option maxRecDepth 20000 in
theorem tw_cl1 : (Jvm.Cond.classLink "ListSpeaker" (92 : Nat) "java/lang/IllegalArgumentException") ∈ mj_WS := mj_mem 417 (by decide +kernel) (by decide)
set_option maxRecDepth 20000 in
theorem tw_cl2 : (Jvm.Cond.classLink "ListSpeaker" (118 : Nat) "java/lang/IndexOutOfBoundsException") ∈ mj_WS := mj_mem 945 (by decide +kernel) (by decide)
set_option maxRecDepth 20000 in
theorem tw_in1 : (Jvm.Cond.instantiable "java/lang/IllegalArgumentException" (6 : Nat)) ∈ mj_WS := mj_mem 418 (by decide +kernel) (by decide)
set_option maxRecDepth 20000 in
theorem tw_in2 : (Jvm.Cond.instantiable "java/lang/IndexOutOfBoundsException" (6 : Nat)) ∈ mj_WS := mj_mem 946 (by decide +kernel) (by decide)
set_option maxRecDepth 20000 in
theorem tw_it1 : (Jvm.Cond.initialized "java/lang/IllegalArgumentException") ∈ mj_WS := mj_mem 20 (by decide +kernel) (by decide)
set_option maxRecDepth 20000 in
theorem tw_it2 : (Jvm.Cond.initialized "java/lang/IndexOutOfBoundsException") ∈ mj_WS := mj_mem 21 (by decide +kernel) (by decide)
theorem th_old {s s' : State} {k n : Nat} (h : s.sameButNew s' [] k n) : ∀ q, q < s.heap.size → s'.heap[q]? = s.heap[q]? := by
  intro q hq
  have h1 : s.heap[q]? = some s.heap[q] := Array.getElem?_eq_getElem hq
  obtain ⟨c', h2, h3, h4, h5⟩ := h.2.2.2.2.2 q _ h1
  have e : c'.slots = (s.heap[q]).slots := by
    apply Array.ext_getElem?
    intro i
    exact h5 i (by simp)
  rw [h1, h2, h3, e]
def th_MQ (below : List Frame) (Qt : Array Value → State → Addr → State → Prop) (args : Array Value) (s : State) (mc ms : Nat) : State → Prop := fun t => ∃ x, t.status = .running ∧ Ended t below (.threw x) ∧ Qt args s x t ∧ s.WarmedH t.vm ∧ s.sameButNew ({ t with vm := s.vm } : State) [] mc ms
def th_Q (Qt : Array Value → State → Addr → State → Prop) (mc ms : Nat) : Array Value → State → Outcome → State → Prop := fun a st oc t => ∃ x, oc = .threw x ∧ Qt a st x t ∧ st.WarmedH t.vm ∧ st.sameButNew ({ t with vm := st.vm } : State) [] mc ms
def th_Met (l : Launch) (y : MethodName) (ws : List Jvm.Cond) (rm : Room) (Pc : Array Value → State → Prop) (Qt : Array Value → State → Addr → State → Prop) (mc ms : Nat) : Prop := MetFree l y (headSpec ws rm) Pc (fun _ _ _ _ _ => True) (th_Q Qt mc ms)
theorem th_ofW {l : Launch} {y : MethodName} {ws ws' : List Jvm.Cond} {rm : Room} {Pc : Array Value → State → Prop} {Qt : Array Value → State → Addr → State → Prop} {mc ms : Nat} {cc : ByteArray} {maxL : Nat} {ret : Option FieldType}
    (hy : plainName y.cls = true) (hw : ws = Jvm.Cond.code y cc maxL ret :: ws')
    (body : ∀ p e s m args below meth c s₁, BodyLoose p l y (headSpec ws rm) cc maxL ret e s m args below meth c s₁ → c.maxLocals = maxL → Pc args s →
      W p l e (headSpec ws rm).room s m args below meth c s.heap [] 0 0 (th_MQ below Qt args s mc ms) (entryFrame m args maxL)) : th_Met l y ws rm Pc Qt mc ms := by
  refine MetFree.of_bodyS (code := cc) (maxLocals := maxL) (ret := ret) hy ?_ ?_
  · intro args s m h hn
    obtain ⟨meth, c, h1, h2, h3, h4, h5, h6, -, -⟩ := Cond.code_spec hn (atoms_spec (ws := ws) h _ (by rw [hw]; exact List.mem_cons_self))
    exact ⟨meth, c, h1, h2, h3, h4, h5, h6⟩
  · intro p e s m args below meth c s₁ B hml hP _
    have hh0 : s₁.heap = s.heap := by rw [B.state]; rfl
    obtain ⟨t, a1, x, b1, b2, b3, b4, b5⟩ := body p e s m args below meth c s₁ B hml hP s₁ hh0 (Stand.of_body B)
    exact ⟨t, .threw x, a1, b1, b2, x, rfl, b3, b4, b5⟩
/-- what a throwing method leaves: a new object of the class C, all else as it was -/
def th_Qt (C : String) : Array Value → State → Addr → State → Prop := fun _ st x t => st.heap.size ≤ x ∧ (∀ q, q < st.heap.size → t.heap[q]? = st.heap[q]?) ∧ st.heap.size ≤ t.heap.size ∧ ∃ ce, t.heap[x]? = some ce ∧ ce.vm = .none ∧ st.vm.findClass C = some ce.cls
theorem th_go {p : Program} {l : Launch} {e : Env} {R : Room} {s : State} {m : MethodId} {args : Array Value} {below : List Frame} {meth : Method} {c : Code} {cc : ByteArray} {C : String} {i1 i2 i3 : Nat} {tx : String} {a1 pc nL : Nat} {ls : Array Slot} {A : Nat → Prop}
    (hfl : l.flags = flags0) (hx : p.tables.exec = Jvm.exec) (hb : c.code = cc) (hml : c.maxLocals = nL) (hls : ls.size = nL) (hown : s.vm.findClass "ListSpeaker" = some m.cls) (hts : ∀ w ∈ mj_WS, w.before args s = true) (hth : th_P A s s.heap) (hVR : vk_R "ListSpeaker" i2 tx a1 s) (hlk : meth.locks = false) (hout : c.exceptionTable = #[])
    (hw : (Bundle.ownAtoms "ListSpeaker" i3 C th_ns).all (fun w => decide (w ∈ mj_WS) || (decide (w ∈ th_dc) || (decide (w ∈ [th_l1, th_l2, th_r1, th_r2])))) = true) (hfit : Bundle.fit C = true)
    (w1 : Jvm.Cond.classLink "ListSpeaker" i1 C ∈ mj_WS) (w2 : Jvm.Cond.instantiable C 6 ∈ mj_WS) (w3 : Jvm.Cond.initialized C ∈ mj_WS)
    (hc : 1 ≤ R.cells) (hs : 6 ≤ R.slots) (hf : 6 ≤ R.frames) (hlo : 100 ≤ R.locals)
    (d1 : decode cc pc = .ok (.new i1, 3)) (d2 : decode cc (pc + 3) = .ok (.dup, 1)) (d3 : decode cc (pc + 4) = .ok (.ldc i2, 2)) (d4 : decode cc (pc + 6) = .ok (.invokespecial i3, 3)) (d5 : decode cc (pc + 9) = .ok (.athrow, 1)) : W p l e R s m args below meth c s.heap [] 0 0 (th_MQ below (th_Qt C) args s 1 6) (F0 m pc ls []) := by
  refine W.newc hx hb hown (hts _ w1) (hts _ w2) (hts _ w3) (g := F0 m pc ls []) rfl d1 hc hs (fun cC kC h1 h2 h3 h4 => ?_)
  refine W.eq (g2 := F0 m (pc + 3) ls [.ref s.heap.size]) rfl ?_
  refine lv_dup hx hb d2 rfl ?_
  refine va_ldcS hx hb hown hVR d3 ?_
  intro T hT X
  have htr : e.platform.stackTraces = false := by
    rw [X.admits.platform]
    show l.stackTraces = false
    unfold Launch.stackTraces
    rw [hfl]
    decide +kernel
  have hcell : T.heap[s.heap.size]? = some (freshCell cC kC) := by
    rw [hT, Array.getElem?_push_size]
  obtain ⟨U, q1, q2, q3, q4, q5, ce, q6, q7⟩ := X.ctorThrowS hx htr hown hfit (by decide) (th_atoms hw hts hth) (fun x hx9 => by cases hx9) h1 h2 hcell (Nat.le_refl _) (msg := .ref a1) rfl (g := F0 m (pc + 6) ls [.ref a1, .ref s.heap.size, .ref s.heap.size]) rfl (by rw [hml]; exact hls) rfl rfl rfl (by rw [hb]; exact d4) (by rw [hb]; exact d5) (fun x hx9 => by rw [hout] at hx9; cases hx9) (by show 2 + 3 < R.frames; omega) (by show 2 * 0 + (1 + 0) + (13 * 3 + 42) ≤ R.locals; omega) hlk
  have h9 := th_old q5
  exact ⟨U, q1, s.heap.size, q2, q3, ⟨Nat.le_refl _, h9, q5.2.1, ce, q6, q7.vm, q7.cls⟩, q4, q5⟩
abbrev y_lrun : MethodName := ({ cls := "ListSpeaker", name := "run", desc := "(I)I" } : Jvm.MethodName)
set_option maxHeartbeats 4000000 in
set_option maxRecDepth 100000 in
theorem th_run {l : Launch} (hfl : l.flags = flags0) (h0 a1 : Nat) (x : Int) (hxr : mj_r x) (hx0 : x < 0 ∨ 20000 < x) (A : Nat → Prop) : th_Met l mjcM2.1 (Jvm.Cond.code mjcM2.1 mjcM2.2.1 mjcM2.2.2.1 mjcM2.2.2.2.1 :: mj_WS) ({ frames := 8, cells := 1, slots := 6, locals := 600 }) (va_Pc [.ref h0, .int (Int32.ofInt x)] (fun U => th_P A U U.heap ∧ vk_R "ListSpeaker" 94 "fuel is not 0 .. 20000" a1 U)) (th_Qt th_A) 1 6 := by
  refine th_ofW (cc := prog_1_method_4_code) (maxL := 3) (ret := (Option.some Jvm.ClassFile.FieldType.int)) (by decide) rfl ?_
  intro p e s m args below meth c s₁ B hml hv
  obtain ⟨rfl, hth, hVR⟩ := hv
  have hx := B.exec
  have hb := B.bytes
  have hts0 := atoms_spec (ws := Jvm.Cond.code mjcM2.1 mjcM2.2.1 mjcM2.2.2.1 mjcM2.2.2.2.1 :: mj_WS) B.pre
  have hts : ∀ w ∈ mj_WS, w.before _ s = true := fun w hw => hts0 w (List.mem_cons_of_mem _ hw)
  have hown : s.vm.findClass "ListSpeaker" = some m.cls := findClass_of_methodNamed B.named
  have hout : c.exceptionTable = #[] := Array.isEmpty_iff.mp (B.noHandlers (hts0 _ List.mem_cons_self))
  have hl := lv_entry ([.ref h0, .int (Int32.ofInt x)]) (n := 3) (Nat.le_of_ble_eq_true rfl)
  rw [lg_entry_eq]
  generalize (lg_sl ([.ref h0, .int (Int32.ofInt x)]) ++ List.replicate (3 - (lg_sl ([.ref h0, .int (Int32.ofInt x)])).length) Slot.unset).toArray = ls at hl ⊢
  have hl : lv_has ls 3 [(0, .ref h0), (1, .int (Int32.ofInt x))] := hl
  have thr : W p l e ({ frames := 8, cells := 1, slots := 6, locals := 600 }) s m _ below meth c s.heap [] 0 0 (th_MQ below (th_Qt th_A) _ s 1 6) (F0 m 11 ls []) := th_go hfl hx hb hml hl.1 hown hts hth hVR B.notSynchronized hout th_w1 (by decide) tw_cl1 tw_in1 tw_it1 (Nat.le_of_ble_eq_true rfl) (Nat.le_of_ble_eq_true rfl) (Nat.le_of_ble_eq_true rfl) (Nat.le_of_ble_eq_true rfl) (show decode prog_1_method_4_code 11 = .ok (.new 92, 3) from by decide +kernel) (show decode prog_1_method_4_code 14 = .ok (.dup, 1) from by decide +kernel) (show decode prog_1_method_4_code 15 = .ok (.ldc 94, 2) from by decide +kernel) (show decode prog_1_method_4_code 17 = .ok (.invokespecial 96, 3) from by decide +kernel) (show decode prog_1_method_4_code 20 = .ok (.athrow, 1) from by decide +kernel)
  refine lv_iload_n hx hb (show decode prog_1_method_4_code 0 = .ok (.iload_n 1, 1) from by decide +kernel) rfl (lv_at hl 1 rfl) ?_
  refine lv_if_lt (tgt := 11) hx hb (show decode prog_1_method_4_code 1 = .ok (.ifCond .lt 10, 3) from by decide +kernel) (by decide) (fun _ => thr) (fun h1 => ?_)
  refine lv_iload_n hx hb (show decode prog_1_method_4_code 4 = .ok (.iload_n 1, 1) from by decide +kernel) rfl (lv_at hl 1 rfl) ?_
  refine lv_sipush (v := 20000) hx hb (show decode prog_1_method_4_code 5 = .ok (.sipush 20000, 3) from by decide +kernel) (by decide) ?_
  refine lv_icmp_le (tgt := 21) hx hb (show decode prog_1_method_4_code 8 = .ok (.if_icmp .le 13, 3) from by decide +kernel) (by decide) (fun h2 => ?_) (fun _ => thr)
  exfalso
  have g1 : ¬ x < 0 := fun z => h1 ((mj_lt hxr mj_0).mpr z)
  have g2 : x ≤ 20000 := (mj_le hxr (mj_rN (by decide) (by decide))).mp h2
  omega
abbrev y_loutput : MethodName := ({ cls := "ListSpeaker", name := "output", desc := "(I)C" } : Jvm.MethodName)
theorem th_csi {p : Program} {l : Launch} {e : Env} {R : Room} {s : State} {m : MethodId} {args : Array Value} {below : List Frame} {meth : Method} {c : Code} {H : Heap} {locs : List Loc} {cells slots : Nat} {Q : State → Prop} {pc : Nat} {ls : Array Slot} {rest st0 : List Value} {a : Array Value} {post : Int32 → Prop} (hr : va_Run p l e R s m args below meth c H locs cells slots 0 0 (F0 m pc ls st0) rest (vp_Si post a) (fun _ => False))
    (kk : ∀ r : Int32, post r → W p l e R s m args below meth c H locs cells slots Q (F0 m (pc + 3) ls (.int r :: rest))) : W p l e R s m args below meth c H locs cells slots Q (F0 m pc ls st0) := by
  intro T hT X
  obtain ⟨v, st₀, t, T', L, h0, X', hL, e1, -, ⟨r, hv, hp, hh⟩, st⟩ := hr T hT X
  cases hv
  obtain ⟨t2, a1, b1⟩ := kk r hp T' (by rw [e1, hh, h0]) (Stand.forget X' (fun q h => (hL q h).elim))
  exact ⟨t2, st t2 a1, b1⟩
theorem c_length {l : Launch} {D : va_G} {cA : FieldType → ClassId} {ad : Nat → Nat} {σ : mj_S} (hσ : mj_okS σ) : Met l mjcM111.1 (Jvm.Cond.code mjcM111.1 mjcM111.2.1 mjcM111.2.2.1 mjcM111.2.2.2.1 :: mj_WS) (mj_rm 0) (mj_Pc D mj_kl cA ad mjc_L mj_NWs [.inr (.inl 8)] σ) (vp_Si (fun r => r = Int32.ofInt (σ 8 4))) 0 0 (fun _ => False) := by
  refine Met.ofW (cc := mjcM111.2.1) (maxL := 1) (ret := (Option.some Jvm.ClassFile.FieldType.int)) (by decide) rfl ?_
  intro p e s m args below meth c s₁ B hml hv
  obtain ⟨rfl, hP, hKK, hNs⟩ := hv
  have hx := B.exec
  have hb := B.bytes
  have hts0 := atoms_spec (ws := Jvm.Cond.code mjcM111.1 mjcM111.2.1 mjcM111.2.2.1 mjcM111.2.2.2.1 :: mj_WS) B.pre
  have hts : ∀ w ∈ mj_WS, w.before _ s = true := fun w hw => hts0 w (List.mem_cons_of_mem _ hw)
  have hown := findClass_of_methodNamed B.named
  have hl := lv_entry ([.ref (ad 8)]) (n := 1) (Nat.le_of_ble_eq_true rfl)
  show W p l e _ s m _ below meth c s.heap [] 0 0 _ (entryFrame m ([.ref (ad 8)] : List Value).toArray 1)
  rw [lg_entry_eq]
  generalize (lg_sl ([.ref (ad 8)]) ++ List.replicate (1 - (lg_sl ([.ref (ad 8)])).length) Slot.unset).toArray = ls at hl ⊢
  have hl : lv_has ls 1 [(0, .ref (ad 8))] := hl
  refine lv_aload_n hx hb (show decode mjcM111.2.1 0 = .ok (.aload_n 0, 1) from by decide +kernel) rfl (lv_at hl 0 rfl) ?_
  obtain ⟨i, C1, T, N, hd, hcl, hkN, hlink, hin⟩ := mjci111 1 _ rfl
  refine va_get (D := D) (ci := 8) (v := .int (Int32.ofInt (σ 8 4))) (C := C1) (T := T) (N := N) hx hb hts hin hown hKK hP 8 (mj_w_some (show mjc_L[8]? = some _ from rfl)) hcl 4 hkN (hts _ hlink) (fun _ h => h) rfl hd ?_
  exact W.iret hx hb B.returns (fun t1 ht1 hW => ⟨_, rfl, rfl, ht1⟩) (fun _ h => by cases h) (show decode mjcM111.2.1 4 = .ok (.ireturn, 1) from by decide +kernel) B.notSynchronized
set_option maxHeartbeats 4000000 in
set_option maxRecDepth 100000 in
theorem th_output {l : Launch} (hfl : l.flags = flags0) (h0 a1 : Nat) (x : Int) (hxr : mj_r x) (A : Nat → Prop) {D : va_G} {cA : FieldType → ClassId} {ad : Nat → Nat} (hDD : mj_D ad mjc_L) {σ : mj_S} (hσ : mj_okS σ) (hx0 : x < 0 ∨ σ 8 4 ≤ x) (had : ad 0 = h0) : th_Met l mjcM3.1 (Jvm.Cond.code mjcM3.1 mjcM3.2.1 mjcM3.2.2.1 mjcM3.2.2.2.1 :: mj_WS) ({ frames := 8, cells := 1, slots := 6, locals := 600 }) (va_Pc [.ref h0, .int (Int32.ofInt x)] (fun U => (th_P A U U.heap ∧ vk_R "ListSpeaker" 120 "no such character of output" a1 U) ∧ va_P D mj_kl (mj_w cA ad mjc_L σ) U.heap ∧ va_K D mj_kl (mj_tys cA) U ∧ ∀ w ∈ mj_NWs, va_Nw w U)) (th_Qt th_B) 1 6 := by
  refine th_ofW (cc := prog_1_method_5_code) (maxL := 2) (ret := (Option.some Jvm.ClassFile.FieldType.char)) (by decide) rfl ?_
  intro p e s m args below meth c s₁ B hml hv
  obtain ⟨rfl, ⟨hth, hVR⟩, hP, hKK, hNs⟩ := hv
  have hx := B.exec
  have hb := B.bytes
  have hts0 := atoms_spec (ws := Jvm.Cond.code mjcM3.1 mjcM3.2.1 mjcM3.2.2.1 mjcM3.2.2.2.1 :: mj_WS) B.pre
  have hts : ∀ w ∈ mj_WS, w.before _ s = true := fun w hw => hts0 w (List.mem_cons_of_mem _ hw)
  have hown : s.vm.findClass "ListSpeaker" = some m.cls := findClass_of_methodNamed B.named
  have hout : c.exceptionTable = #[] := Array.isEmpty_iff.mp (B.noHandlers (hts0 _ List.mem_cons_self))
  have hl := lv_entry ([.ref h0, .int (Int32.ofInt x)]) (n := 2) (Nat.le_of_ble_eq_true rfl)
  rw [lg_entry_eq]
  generalize (lg_sl ([.ref h0, .int (Int32.ofInt x)]) ++ List.replicate (2 - (lg_sl ([.ref h0, .int (Int32.ofInt x)])).length) Slot.unset).toArray = ls at hl ⊢
  have hl : lv_has ls 2 [(0, .ref h0), (1, .int (Int32.ofInt x))] := hl
  have thr : W p l e ({ frames := 8, cells := 1, slots := 6, locals := 600 }) s m _ below meth c s.heap [] 0 0 (th_MQ below (th_Qt th_B) _ s 1 6) (F0 m 15 ls []) := th_go hfl hx hb hml hl.1 hown hts hth hVR B.notSynchronized hout th_w2 (by decide) tw_cl2 tw_in2 tw_it2 (Nat.le_of_ble_eq_true rfl) (Nat.le_of_ble_eq_true rfl) (Nat.le_of_ble_eq_true rfl) (Nat.le_of_ble_eq_true rfl) (show decode prog_1_method_5_code 15 = .ok (.new 118, 3) from by decide +kernel) (show decode prog_1_method_5_code 18 = .ok (.dup, 1) from by decide +kernel) (show decode prog_1_method_5_code 19 = .ok (.ldc 120, 2) from by decide +kernel) (show decode prog_1_method_5_code 21 = .ok (.invokespecial 122, 3) from by decide +kernel) (show decode prog_1_method_5_code 24 = .ok (.athrow, 1) from by decide +kernel)
  refine lv_iload_n hx hb (show decode prog_1_method_5_code 0 = .ok (.iload_n 1, 1) from by decide +kernel) rfl (lv_at hl 1 rfl) ?_
  refine lv_if_lt (tgt := 15) hx hb (show decode prog_1_method_5_code 1 = .ok (.ifCond .lt 14, 3) from by decide +kernel) (by decide) (fun _ => thr) (fun h1 => ?_)
  refine lv_iload_n hx hb (show decode prog_1_method_5_code 4 = .ok (.iload_n 1, 1) from by decide +kernel) rfl (lv_at hl 1 rfl) ?_
  refine lv_aload_n hx hb (show decode prog_1_method_5_code 5 = .ok (.aload_n 0, 1) from by decide +kernel) rfl (lv_at hl 0 rfl) ?_
  obtain ⟨i, C1, T, N, hd, hcl, hkN, hlink, hin⟩ := mjci3 6 _ rfl
  refine va_get (D := D) (ci := 0) (v := .ref (ad 8)) (C := C1) (T := T) (N := N) hx hb hts hin hown hKK hP 0 (by rw [← had]; exact mj_w_some (show mjc_L[0]? = some _ from rfl)) hcl 7 hkN (hts _ hlink) (fun _ h => h) rfl hd ?_
  obtain ⟨M, i, n, hM, hmL, hdd, hini, hkind⟩ := mjci3 9 _ rfl
  cases hM
  rcases hkind with ⟨ci, T, N, hd, ha, ht, hcl, w1, w2, w3⟩ | ⟨hd, ha, ht, w1, w2⟩ | ⟨host, hd, ha, ht, w1, w2⟩
  · have hn : n = 0 := by have : (1 : Int) = n + 1 := ha; omega
    subst hn
    cases ht
    refine th_csi (va_runV (As := []) (rest := [.int (Int32.ofInt x)]) (b := ad 8) ⟨hx, hb, hml, hown, hts⟩ (c_length (l := l) (D := D) (cA := cA) (ad := ad) hσ) ⟨callB_of 0 hts (mjc_G 111 _ rfl) rfl rfl rfl (hts _ hini) (hts _ w1) hdd ⟨Nat.le_of_ble_eq_true rfl, Nat.le_of_ble_eq_true rfl⟩, hts _ w2, hts _ w3⟩ ⟨mj_blind mj_NWs_ok, va_recv hKK hP hcl (mj_w_some (show mjc_L[8]? = some _ from rfl)), mj_pre mj_NWs_ok hNs hKK hP⟩ rfl rfl hl.1 rfl (Nat.le_of_ble_eq_true rfl) hd ⟨Nat.zero_le _, Nat.zero_le _⟩) (fun r hr => ?_)
    subst hr
    refine lv_icmp_lt (tgt := 25) hx hb (show decode prog_1_method_5_code 12 = .ok (.if_icmp .lt 13, 3) from by decide +kernel) (by decide) (fun h2 => ?_) (fun _ => thr)
    exfalso
    have g1 : ¬ x < 0 := fun z => h1 ((mj_lt hxr mj_0).mpr z)
    have g2 : x < σ 8 4 := (mj_lt hxr (hσ 8 4)).mp h2
    omega
  · cases hd
  · cases hd
