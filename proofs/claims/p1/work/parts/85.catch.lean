/-! a call that throws, and the handler in the caller -/
section THC
variable {p : Program} {l : Launch} {e : Env} {R : Room} {s : State} {m : MethodId} {args : Array Value} {below : List Frame} {meth : Method} {c : Code} {H : Heap} {locs : List Loc} {cells slots : Nat}
variable {y : MethodName} {bytes cc : ByteArray} {maxL nL mc ms n index : Nat} {ret : Option FieldType} {ws : List Jvm.Cond} {rm : Room} {Pc : Array Value → State → Prop} {Qt : Array Value → State → Addr → State → Prop} {Ts : List Jvm.Cond} {own C : String} {b : Addr} {As rest : List Value} {g : JFrame}
theorem th_runV (S : CallFix p m c cc nL s args Ts own) (hM : th_Met l y ws rm Pc Qt mc ms) (cw : CallW R s args own C index y bytes maxL ret ws rm mc ms n) (hp : PreV s H C b Pc As)
    (hg : g.method = m) (hn : As.length = n) (hsize : g.locals.size = nL) (hstack : g.stack = As.reverse ++ .ref b :: rest) (hW : 2 * g.monitorRoom + (rest.map fun v => v.category).sum ≤ 8) (hdg : decode cc g.pc = .ok (.invokevirtual index, 3)) (hf : cells + mc ≤ R.cells ∧ slots + ms ≤ R.slots)
    (T : State) (hT : T.heap = H) (X : Stand p l e R s m args below meth c T locs cells slots) :
    ∃ (x : Addr) (st₀ t T' : State), st₀.heap = H ∧ s.WarmedH st₀.vm ∧ Stand p l e R s m args below meth c T' locs (cells + mc) (slots + ms) ∧ T'.heap = t.heap ∧ Qt (Value.ref b :: As).toArray st₀ x t ∧
      ∀ target, Steps p.tables e below ((T'.setTop { g with stack := rest }).pushFrame (.throwing x)) target → Steps p.tables e below (T.setTop g) target := by
  obtain ⟨⟨hrc, hrs, hfr, hlo, hws, hcw, hcode, hini, hy, hlen, hlink⟩, hinst, hsel⟩ := cw
  obtain ⟨hx, hb, hml, hown, -⟩ := S
  obtain ⟨hbl, ⟨cellB, hcB, hoB, hcls⟩, hPc⟩ := hp
  obtain ⟨mk, methM, hnamed, hmethM, hstM, habM⟩ := Cond.instanceMethod_spec hinst
  obtain ⟨methM', cM, hmethM', -, -, -, -, -, -, hsigM⟩ := Cond.code_spec hnamed hcode
  cases hmethM.symm.trans hmethM'
  obtain ⟨c2, r2, m2, q1, q2, q3, q4, kP, hkP, hkPi⟩ := Cond.selects_spec hsel
  cases hcls.symm.trans q1
  cases (State.methodFound?_of_named hnamed hy).symm.trans q2
  cases hnamed.symm.trans q3
  have hselP : selectMethod e.platform s.vm cellB.cls mk = .method mk := by rw [Launch.admits_selectMethod X.admits]; exact q4
  have hdg' : decode c.code g.pc = .ok (.invokevirtual index, 3) := by rw [hb]; exact hdg
  obtain ⟨vm₁, X₁, hstep₁⟩ := X.invokevirtual hx hown hlink hnamed hmethM hstM hkP hkPi hy (a := b) (cell := cellB) (by rw [hT]; exact hcB)
    (fun z h => by rw [h] at hoB; cases hoB) hselP hmethM habM hkP hkPi (g := g) hg (argsL := As) (rest := rest) (hn.trans (hlen _ hsigM)) hstack hdg'
  have hnamed1 := X₁.named hnamed
  have hini1 : (Jvm.Cond.initialized y.cls).before args (T.setVm vm₁) = true := word_at X₁.warmed (Or.inl (by first | rfl | simp [Cond.onTables, Cond.keeps, Cond.steady])) hini
  obtain ⟨methY, cY, hmY, hcY, -, hlY, -⟩ := Cond.code_spec hnamed1 (hws _ hcw args _ X₁.warmed)
  obtain ⟨kY, hkY, -⟩ := className_of_methodNamed hnamed1
  have hinitY : kY.init = .initialized := Cond.initialized_spec (findClass_of_methodNamed hnamed1) hkY hini1
  have h : At (T.setVm vm₁) ({ g with stack := rest } : JFrame).method c below := by rw [show ({ g with stack := rest } : JFrame).method = m from hg]; exact X₁.here
  have happ : (headSpec ws rm).appliesLoose y e.platform ((T.setVm vm₁).calling { g with stack := rest } mk (Value.ref b :: As).toArray) = true :=
    Spec.appliesLoose_calling (g := { g with stack := rest }) h hdg' hnamed1 hkY hinitY
      (X₁.room_calling (g := { g with stack := rest }) (R' := (headSpec ws rm).room) (hsize.trans hml.symm) hmY hcY hfr (by rw [hlY]; show 2 * g.monitorRoom + (rest.map fun v => v.category).sum + (maxL + 11) + rm.locals ≤ R.locals; omega) (by show cells + rm.cells ≤ R.cells; rw [hrc]; exact hf.1) (by show slots + rm.slots ≤ R.slots; rw [hrs]; exact hf.2))
      (atoms_intro fun w hw => hws w hw _ _ X₁.warmed)
  obtain ⟨g₀, hr⟩ := X₁.frames_eq
  have hfr2 : ((T.setVm vm₁).setTop { g with stack := rest }).frames = [.java { g with stack := rest }] ++ below := State.frames_setTop _ hr
  obtain ⟨o, s₂, hsteps, -, hend, hq⟩ := Steps.callFree hM p X₁.admits X₁.cas X₁.clock (acts := []) hfr2 happ (hbl _ _ _ _ (hPc (T.setVm vm₁) hT X₁.warmed)) trivial
  obtain ⟨x, rfl, hQ, hW2, hS2⟩ := hq
  rw [hfr2] at hend
  obtain ⟨T', X', hw', hs', ht'⟩ := X₁.outOfThrown (g := { g with stack := rest }) hg (mk := mk) (a := (Value.ref b :: As).toArray) (t := s₂) (x := x) (L := []) (k := mc) (n := ms) hend hW2 hS2
  refine ⟨x, (T.setVm vm₁).calling { g with stack := rest } mk (Value.ref b :: As).toArray, s₂, T', hT, X₁.warmed, by simpa using X', by rw [ht', Stand.throwing_heap], hQ, fun target hh => hstep₁ _ fun acts => ?_⟩
  rw [doInvoke_state]
  refine Steps.trans hsteps ?_
  rw [ht']
  exact hh
/-- one entry covers the place and names a class that takes the object, its pool entry resolved or not: the frame goes on at the handler -/
theorem th_into {tb : Tables} {e : Env} {U target : State} {f : JFrame} {k : Code} {lo : List Frame} {a : Addr} (h : At U f.method k lo) {meth : Method} (hm : U.vm.method? f.method = some meth) (hc : meth.code = some k) {z : ExceptionTableEntry} (hz : k.exceptionTable.toList = [z]) (hp1 : z.startPc ≤ f.pc) (hp2 : f.pc < z.endPc) (h0 : z.catchType ≠ 0)
    {ce : Cell} (hl : U.vm.ClassLinks e.platform f.method.cls z.catchType ce.cls) (hcell : U.heap[a]? = some ce) (hn : ce.vm = .none) (hk : ∃ q, U.vm.classes[ce.cls]? = some q) (hfit : U.vm.assignable ce.cls ce.cls = true)
    (hgo : Steps tb e lo ((U.setVm (U.vm.noted f.method.cls z.catchType (.cls ce.cls))).setTop { f with pc := z.handlerPc, stack := [.ref a] }) target) : Steps tb e lo ((U.setTop f).pushFrame (.throwing a)) target := by
  obtain ⟨b1, b2⟩ := h.throwing a
  refine Steps.head b1 b2 ?_
  rw [stepThread_throwing (frames_entered h.top _)]
  have hV : ((U.setTop f).pushFrame (.throwing a)).vm = U.vm := Stand.throwing_vm U f a
  have hH : ((U.setTop f).pushFrame (.throwing a)).heap = U.heap := Stand.throwing_heap U f a
  obtain ⟨ha, ht⟩ := (resolveClass_links e.toSetting hl).op (op := VmOp.resolveClass f.method.cls z.catchType) rfl
  have hal : U.vm.Alike (U.vm.noted f.method.cls z.catchType (.cls ce.cls)) := (Vm.Alike.refl U.vm).noted _ _ _
  obtain ⟨k1, hk1⟩ := hk
  obtain ⟨k2, hk2, -⟩ := hal.2.2 _ _ hk1
  have hf2 : (U.vm.noted f.method.cls z.catchType (.cls ce.cls)).assignable ce.cls ce.cls = true := by rw [hal.assignable]; exact hfit
  have hfind : ∀ (Q : Handler → Pre) (E : CtlPost) (d : Bool) (acts : List Action), wp (findHandler f a) Q E e d acts ((U.setTop f).pushFrame (.throwing a)) ↔ Q (.found z.handlerPc) d acts (((U.setTop f).pushFrame (.throwing a)).setVm (U.vm.noted f.method.cls z.catchType (.cls ce.cls))) := by
    intro Q E d acts
    rw [W.findHandler_eq (by rw [hV]; exact hm) hc, hz]
    simp [findHandler.go, hp1, hp2, h0, hV, hH, ha, ht, hcell, hn, hk2, hf2, VmOp.dirties, VmOp.acts]
  have hstep : (stepThrowing e ((U.setTop f).pushFrame (.throwing a)) a (.java f :: U.frames.tail)).1 = (((U.setTop f).pushFrame (.throwing a)).setVm (U.vm.noted f.method.cls z.catchType (.cls ce.cls))).setFrames (.java { f with pc := z.handlerPc, stack := [.ref a] } :: U.frames.tail) := by
    simp only [stepThrowing, searchFrame, vmDo]
    generalize hr : Sem.go _ e false [] _ = res
    obtain ⟨as, rfl, -⟩ := Sem.eq_ok_of hr (a := Handler.found z.handlerPc) (s' := ((U.setTop f).pushFrame (.throwing a)).setVm (U.vm.noted f.method.cls z.catchType (.cls ce.cls))) (acts' := []) (by simp [hfind _ _ _ _])
    rfl
  rw [hstep]
  obtain ⟨g₀, hg⟩ := Option.isSome_iff_exists.mp h.top
  obtain ⟨r, hr⟩ := State.topJava?_eq_some.mp hg
  rw [State.setTop_of_frames _ (show (U.setVm (U.vm.noted f.method.cls z.catchType (.cls ce.cls))).frames = .java g₀ :: r from hr)] at hgo
  rw [hr, List.tail_cons, State.pushFrame, State.setTop_of_frames _ hr]
  have e1 : ∀ (V : State) (vm' : Vm) (A B : List Frame), ((V.setFrames A).setVm vm').setFrames B = (V.setVm vm').setFrames B := fun V vm' A B => State.setFrames_setFrames (V.setVm vm') A B
  rw [e1, e1]
  exact hgo
theorem th_catch {C1 : String} {Q : State → Prop} {pcH ct s0 e0 : Nat} (S : CallFix p m c cc nL s args Ts own) (hM : th_Met l y ws rm Pc (th_Qt C1) mc ms) (cw : CallW R s args own C index y bytes maxL ret ws rm mc ms n) (hp : PreV s H C b Pc As)
    (hg : g.method = m) (hn : As.length = n) (hsize : g.locals.size = nL) (hstack : g.stack = As.reverse ++ .ref b :: rest) (hW : 2 * g.monitorRoom + (rest.map fun v => v.category).sum ≤ 8) (hdg : decode cc g.pc = .ok (.invokevirtual index, 3)) (hf : cells + mc ≤ R.cells ∧ slots + ms ≤ R.slots)
    (htab : c.exceptionTable.toList.map (fun h => (h.startPc, h.endPc, h.handlerPc, h.catchType)) = [(s0, e0, pcH, ct)]) (hin : s0 ≤ g.pc ∧ g.pc < e0) (hct : ct ≠ 0) (hlink : (Jvm.Cond.classLink own ct C1).before args s = true) (hcast : va_Nw (.castable C1 C1) s)
    (kk : ∀ (x : Addr) (H1 : Heap), H.size ≤ H1.size → (∀ q, q < H.size → H1[q]? = H[q]?) → W p l e R s m args below meth c H1 locs (cells + mc) (slots + ms) Q { g with pc := pcH, stack := [.ref x] }) : W p l e R s m args below meth c H locs cells slots Q g := by
  intro T hT X
  obtain ⟨x, st₀, t, T', h0, hw, X', e1, ⟨q1, q2, q3, ce, q4, q5, q6⟩, st⟩ := th_runV S hM cw hp hg hn hsize hstack hW hdg hf T hT X
  obtain ⟨cA1, cB1, c1, c2, c3⟩ := Cond.castable_spec hcast
  cases c1.symm.trans c2
  rw [hw.alike.findClass, c1] at q6
  cases q6
  cases hx : c.exceptionTable.toList with
  | nil => rw [hx] at htab; cases htab
  | cons z zs =>
    rw [hx] at htab
    simp only [List.map_cons, List.cons.injEq, Prod.mk.injEq, List.map_eq_nil_iff] at htab
    obtain ⟨⟨f1, f2, f3, f4⟩, rfl⟩ := htab
    have hpl : e.platform.magicAccessors = ({} : Platform).magicAccessors := by rw [X'.admits.platform]
    obtain ⟨cT, c4, hcl⟩ := Cond.classLink_spec S.2.2.2.1 hlink e.platform hpl
    cases c1.symm.trans c4
    obtain ⟨dk, _, _, kt, hd, _, _, _, _, hkt, _, hopen⟩ := hcl.here
    have X2 := X'.noted (X'.warmed.noted hd hopen (State.rightAt_cls hcl))
    obtain ⟨t2, a1, b1⟩ := kk x T'.heap (by rw [e1, ← h0]; exact q3) (fun q hq => by rw [e1, ← h0]; exact q2 q (by rw [h0]; exact hq)) (T'.setVm (T'.vm.noted m.cls ct (.cls ce.cls))) rfl X2
    refine ⟨t2, st t2 ?_, b1⟩
    obtain ⟨kt', hkt', -⟩ := X'.warmed.alike.2.2 _ _ hkt
    have hfit' : T'.vm.assignable ce.cls ce.cls = true := by rw [X'.warmed.alike.assignable]; exact c3
    have hcl2 := X'.warmed.classLinks hcl
    subst hg
    refine th_into X'.here (meth := meth) X'.method' X'.code hx (by rw [f1]; exact hin.1) (by rw [f2]; exact hin.2) (by rw [f4]; exact hct) (by rw [f4]; exact hcl2) (by rw [e1]; exact q4) q5 ⟨kt', hkt'⟩ hfit' ?_
    rw [f3, f4]
    exact a1
end THC
