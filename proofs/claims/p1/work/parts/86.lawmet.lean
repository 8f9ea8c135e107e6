/-! the law's own run and output -/
def lo_B (D : va_G) (cA : FieldType → ClassId) (ad : Nat → Nat) (σ : mj_S) (cL : ClassId) (ao : Nat) (f : Nat → Value) (U : State) : Prop := va_P D mj_kl (mj_w cA ad mjc_L σ) U.heap ∧ va_K D mj_kl (mj_tys cA) U ∧ (∀ w ∈ mj_NWs, va_Nw w U) ∧ U.heap[ao]? = some (arrV cL 1 f) ∧ ArrOfT U cL .long
theorem lo_B.moved {D : va_G} {cA : FieldType → ClassId} {ad : Nat → Nat} {σ : mj_S} {cL : ClassId} {ao : Nat} {f : Nat → Value} {s U : State} (hh : U.heap = s.heap) (hW : s.WarmedH U.vm) (h : lo_B D cA ad σ cL ao f s) : lo_B D cA ad σ cL ao f U := ⟨by rw [hh]; exact h.1, va_K.moved hW.alike h.2.1, nw_warm hW h.2.2.1, by rw [hh]; exact h.2.2.2.1, arrOfT_moved hW.alike h.2.2.2.2⟩
theorem mj_P_kept {D : va_G} {cl : List vw_C} {cA : FieldType → ClassId} {ad : Nat → Nat} {L : List mj_C} {σ : mj_S} {H H1 : Heap} (hP : va_P D cl (mj_w cA ad L σ) H) (hk : ∀ q, q < H.size → mj_A ad L q → H1[q]? = H[q]?) : va_P D cl (mj_w cA ad L σ) H1 := by
  intro k q hq
  have h := hP k q hq
  refine h.kept (hk q.1 h.lt ?_)
  rw [mj_w_get] at hq
  cases hc : L[k]? with
  | none => rw [hc] at hq; cases hq
  | some c =>
    rw [hc] at hq
    cases hq
    exact ⟨k, (List.getElem?_eq_some_iff.mp hc).1, rfl⟩
set_option maxRecDepth 20000 in
theorem lx_411 : (Jvm.Cond.codeWith ({ cls := "ListSpeakerLaw", name := "run", desc := "(LListSpeaker;I[J)I" } : Jvm.MethodName) method_3_code (4 : Nat) (Option.some Jvm.ClassFile.FieldType.int) [((0 : Nat), (9 : Nat), (12 : Nat), (13 : Nat))]) ∈ mj_WS := mj_mem 411 (by decide +kernel) (by decide)
set_option maxRecDepth 20000 in
theorem lx_413 : (Jvm.Cond.methodLink "ListSpeakerLaw" (7 : Nat) ({ cls := "ListSpeaker", name := "run", desc := "(I)I" } : Jvm.MethodName)) ∈ mj_WS := mj_mem 413 (by decide +kernel) (by decide)
set_option maxRecDepth 20000 in
theorem lx_415 : (Jvm.Cond.selects "ListSpeaker" ({ cls := "ListSpeaker", name := "run", desc := "(I)I" } : Jvm.MethodName) ({ cls := "ListSpeaker", name := "run", desc := "(I)I" } : Jvm.MethodName)) ∈ mj_WS := mj_mem 415 (by decide +kernel) (by decide)
set_option maxRecDepth 20000 in
theorem lx_414 : (Jvm.Cond.instanceMethod ({ cls := "ListSpeaker", name := "run", desc := "(I)I" } : Jvm.MethodName)) ∈ mj_WS := mj_mem 414 (by decide +kernel) (by decide)
set_option maxRecDepth 20000 in
theorem lx_1 : (Jvm.Cond.initialized "ListSpeaker") ∈ mj_WS := mj_mem 1 (by decide +kernel) (by decide)
set_option maxRecDepth 20000 in
theorem lx_412 : (Jvm.Cond.classLink "ListSpeakerLaw" (13 : Nat) "java/lang/IllegalArgumentException") ∈ mj_WS := mj_mem 412 (by decide +kernel) (by decide)
abbrev y_wrun : MethodName := ({ cls := "ListSpeakerLaw", name := "run", desc := "(LListSpeaker;I[J)I" } : Jvm.MethodName)
abbrev ww_run : List Jvm.Cond := (Jvm.Cond.codeWith ({ cls := "ListSpeakerLaw", name := "run", desc := "(LListSpeaker;I[J)I" } : Jvm.MethodName) method_3_code (4 : Nat) (Option.some Jvm.ClassFile.FieldType.int) [((0 : Nat), (9 : Nat), (12 : Nat), (13 : Nat))]) :: mj_WS
def lr_Qrun (D : va_G) (cA : FieldType → ClassId) (ad : Nat → Nat) (cL : ClassId) (ao : Nat) (Q : mj_Q) : Array Value → State → Outcome → State → Prop := fun _ st oc t => (∃ (v : Int) (σ' : mj_S) (f' : Nat → Value), oc = .returned (some (.int 0)) ∧ Q (some (.inl v)) σ' ∧ mj_r v ∧ mj_okS σ' ∧ va_P D mj_kl (mj_w cA ad mjc_L σ') t.heap ∧ t.heap[ao]? = some (arrV cL 1 f') ∧ f' 0 = .long (Int32.ofInt v).toInt64) ∧ va_F (fun q => mj_A ad mjc_L q ∨ q = ao) st t
set_option maxHeartbeats 4000000 in
set_option maxRecDepth 100000 in
theorem lr_run {l : Launch} {D : va_G} {cA : FieldType → ClassId} {ad : Nat → Nat} (hDD : mj_D ad mjc_L) {d : Nat} {σ : mj_S} {x : Int} {Q : mj_Q} (hB : mj_B mjc_L mjc_Ms d 2 [.inr (.inl 0), .inl x] σ Q) (hσ : mj_okS σ) (hxr : mj_r x) {cL : ClassId} {ao : Nat} {f : Nat → Value} (hao : ¬ mj_A ad mjc_L ao) (hQ : ∀ r σ', Q r σ' → ∃ v, r = some (.inl v)) :
    Met l y_wrun ww_run ({ frames := d + 3, cells := 0, slots := 0, locals := 64 * (d + 3) }) (va_Pc [.ref (ad 0), .int (Int32.ofInt x), .ref ao] (lo_B D cA ad σ cL ao f)) (lr_Qrun D cA ad cL ao Q) 0 0 (fun q => mj_A ad mjc_L q ∨ q = ao) := by
  refine va_MetW (cc := method_3_code) (maxL := 4) (ret := (Option.some Jvm.ClassFile.FieldType.int)) (by decide) rfl ?_
  intro p e s m args below meth c s₁ B hml hv
  obtain ⟨rfl, hP, hKK, hNs, hO, hAr⟩ := hv
  have hx := B.exec
  have hb := B.bytes
  have hts0 := atoms_spec (ws := ww_run) B.pre
  have hts : ∀ w ∈ mj_WS, w.before _ s = true := fun w hw => hts0 w (List.mem_cons_of_mem _ hw)
  have hown : s.vm.findClass "ListSpeakerLaw" = some m.cls := findClass_of_methodNamed B.named
  have hl := lv_entry ([.ref (ad 0), .int (Int32.ofInt x), .ref ao]) (n := 4) (Nat.le_of_ble_eq_true rfl)
  rw [lg_entry_eq]
  generalize (lg_sl ([.ref (ad 0), .int (Int32.ofInt x), .ref ao]) ++ List.replicate (4 - (lg_sl ([.ref (ad 0), .int (Int32.ofInt x), .ref ao])).length) Slot.unset).toArray = ls at hl ⊢
  have hl : lv_has ls 4 [(0, .ref (ad 0)), (1, .int (Int32.ofInt x)), (2, .ref ao)] := hl
  refine lv_aload_n hx hb (show decode method_3_code 0 = .ok (.aload_n 2, 1) from by decide +kernel) rfl (lv_at hl 2 rfl) ?_
  refine lv_iconst (v := 0) hx hb (show decode method_3_code 1 = .ok (.iconst 0, 1) from by decide +kernel) (by decide) ?_
  refine lv_aload_n hx hb (show decode method_3_code 2 = .ok (.aload_n 0, 1) from by decide +kernel) rfl (lv_at hl 0 rfl) ?_
  refine lv_iload_n hx hb (show decode method_3_code 3 = .ok (.iload_n 1, 1) from by decide +kernel) rfl (lv_at hl 1 rfl) ?_
  have hMet := mjc_met (l := l) (D := D) (cA := cA) hDD d 2 [.inr (.inl 0), .inl x] σ Q hB hσ (mj_okT_cons (v := .inr (.inl 0)) trivial (mj_okT_cons (v := .inl x) hxr (fun v hv => by cases hv))) _ rfl
  have hol : ao < s.heap.size := (Array.getElem?_eq_some_iff.mp hO).1
  refine mj_call (Af := fun q => mj_A ad mjc_L q) (H0 := s.heap) (locs := []) (va_runV (As := [.int (Int32.ofInt x)]) (rest := [.int 0, .ref ao]) (b := ad 0) (C := "ListSpeaker") ⟨hx, hb, hml, hown, hts⟩ hMet ⟨callB_of 1 hts (mjc_G 2 _ rfl) rfl rfl rfl (hts _ lx_1) (hts _ lx_413) ⟨by decide, by decide, by decide +kernel⟩ ⟨by show d + 1 + 1 ≤ d + 3; omega, by show 8 + (_ + 11) + 64 * (d + 1) ≤ 64 * (d + 3); simp only []; omega⟩, hts _ lx_414, hts _ lx_415⟩ ⟨mj_blind mj_NWs_ok, va_recv hKK hP (show mj_kl[0]? = some _ from rfl) (mj_w_some (show mjc_L[0]? = some _ from rfl)), mj_pre mj_NWs_ok hNs hKK hP⟩ rfl rfl hl.1 rfl (Nat.le_of_ble_eq_true rfl) (show decode method_3_code 4 = .ok (.invokevirtual 7, 3) from by decide +kernel) ⟨Nat.zero_le _, Nat.zero_le _⟩) (fun _ z => z) va_S.rf (fun r σ1 H1 locs1 hq hok hoS hP1 hS1 => ?_)
  obtain ⟨v, rfl⟩ := hQ r σ1 hq
  have hO1 : H1[ao]? = some (arrV cL 1 f) := by rw [hS1.2.1 ao hol hao]; exact hO
  refine W.eq (g2 := F0 m 7 ls [.int (Int32.ofInt v), .int 0, .ref ao]) rfl ?_
  refine lv_i2l hx hb (show decode method_3_code 7 = .ok (.i2l, 1) from by decide +kernel) rfl ?_
  refine W.last hx hb hO1 (hAr 1 f) (fun z => by cases z) (by rw [arrV_size]; decide) rfl rfl (g := F0 m 8 ls [.long (Int32.ofInt v).toInt64, .int 0, .ref ao]) (show decode method_3_code 8 = .ok (.lastore, 1) from by decide +kernel) (fun H2 e2 z2 o2 => ?_)
  refine W.eq (g2 := F0 m 9 ls []) rfl ?_
  refine lv_goto (tgt := 15) hx hb (show decode method_3_code 9 = .ok (.goto 6, 3) from by decide +kernel) (by decide) ?_
  refine lv_iconst (v := 0) hx hb (show decode method_3_code 15 = .ok (.iconst 0, 1) from by decide +kernel) (by decide) ?_
  rw [arrV_store] at e2
  have hS2 : va_S (fun q => mj_A ad mjc_L q ∨ q = ao) s.heap H2 (locs1 ++ [⟨ao, (0 : Int32).toNatClampNeg⟩]) := ⟨by rw [z2]; exact hS1.1, fun q h1 h2 => by rw [o2 q (fun z => h2 (Or.inr z))]; exact hS1.2.1 q h1 (fun z => h2 (Or.inl z)), fun l hl => by
    rcases List.mem_append.mp hl with h | h
    · exact Or.inl (hS1.2.2 l h)
    · rcases List.mem_singleton.mp h with rfl; exact Or.inr rfl⟩
  exact W.iret hx hb B.returns (fun t1 ht1 hW => ⟨⟨v, σ1, _, rfl, hq, hok _ rfl, hoS, by
    rw [ht1]
    exact mj_P_kept hP1 (fun q _ hA => o2 q (fun z => hao (z ▸ hA))), by rw [ht1]; exact e2, by rfl⟩, hS2.F ht1⟩) hS2.2.2 (show decode method_3_code 16 = .ok (.ireturn, 1) from by decide +kernel) B.notSynchronized
set_option maxHeartbeats 4000000 in
set_option maxRecDepth 100000 in
theorem lt_run {l : Launch} (hfl : l.flags = flags0) {D : va_G} {cA : FieldType → ClassId} {ad : Nat → Nat} (hDD : mj_D ad mjc_L) {σ : mj_S} (hσ : mj_okS σ) {x : Int} (hxr : mj_r x) (hx0 : x < 0 ∨ 20000 < x) {cL : ClassId} {ao a1 : Nat} {f : Nat → Value} {A : Nat → Prop} :
    Met l y_wrun ww_run ({ frames := 10, cells := 1, slots := 6, locals := 700 }) (va_Pc [.ref (ad 0), .int (Int32.ofInt x), .ref ao] (fun U => lo_B D cA ad σ cL ao f U ∧ th_P A U U.heap ∧ vk_R "ListSpeaker" 94 "fuel is not 0 .. 20000" a1 U)) (fun _ st oc t => oc = .returned (some (.int 1)) ∧ va_F (fun _ => False) st t) 1 6 (fun _ => False) := by
  refine va_MetW (cc := method_3_code) (maxL := 4) (ret := (Option.some Jvm.ClassFile.FieldType.int)) (by decide) rfl ?_
  intro p e s m args below meth c s₁ B hml hv
  obtain ⟨rfl, ⟨hP, hKK, hNs, hO, hAr⟩, hth, hVR⟩ := hv
  have hx := B.exec
  have hb := B.bytes
  have hts0 := atoms_spec (ws := ww_run) B.pre
  have hts : ∀ w ∈ mj_WS, w.before _ s = true := fun w hw => hts0 w (List.mem_cons_of_mem _ hw)
  have hown : s.vm.findClass "ListSpeakerLaw" = some m.cls := findClass_of_methodNamed B.named
  have hl := lv_entry ([.ref (ad 0), .int (Int32.ofInt x), .ref ao]) (n := 4) (Nat.le_of_ble_eq_true rfl)
  rw [lg_entry_eq]
  generalize (lg_sl ([.ref (ad 0), .int (Int32.ofInt x), .ref ao]) ++ List.replicate (4 - (lg_sl ([.ref (ad 0), .int (Int32.ofInt x), .ref ao])).length) Slot.unset).toArray = ls at hl ⊢
  have hl : lv_has ls 4 [(0, .ref (ad 0)), (1, .int (Int32.ofInt x)), (2, .ref ao)] := hl
  refine lv_aload_n hx hb (show decode method_3_code 0 = .ok (.aload_n 2, 1) from by decide +kernel) rfl (lv_at hl 2 rfl) ?_
  refine lv_iconst (v := 0) hx hb (show decode method_3_code 1 = .ok (.iconst 0, 1) from by decide +kernel) (by decide) ?_
  refine lv_aload_n hx hb (show decode method_3_code 2 = .ok (.aload_n 0, 1) from by decide +kernel) rfl (lv_at hl 0 rfl) ?_
  refine lv_iload_n hx hb (show decode method_3_code 3 = .ok (.iload_n 1, 1) from by decide +kernel) rfl (lv_at hl 1 rfl) ?_
  obtain ⟨m9, meth9, c9, g1, g2, g3, -, -, htab, -⟩ := Cond.codeWith_spec (hts0 _ List.mem_cons_self)
  have hm9 : m9 = m := Option.some.inj (g1.symm.trans B.named)
  subst hm9
  have hc9 : c9 = c := by
    have h1 := B.method
    have h2 := (Stand.of_body B).code
    cases g2.symm.trans h1
    exact Option.some.inj (g3.symm.trans h2)
  subst hc9
  refine th_catch (rest := [.int 0, .ref ao]) (As := [.int (Int32.ofInt x)]) (b := ad 0) (C := "ListSpeaker") (g := F0 m9 4 ls [.int (Int32.ofInt x), .ref (ad 0), .int 0, .ref ao]) ⟨hx, hb, hml, hown, hts⟩ (th_run (l := l) hfl (ad 0) a1 x hxr hx0 A) ⟨callB_of 1 hts (mjc_G 2 _ rfl) rfl rfl rfl (hts _ lx_1) (hts _ lx_413) ⟨by decide, by decide, by decide +kernel⟩ ⟨Nat.le_of_ble_eq_true rfl, Nat.le_of_ble_eq_true rfl⟩, hts _ lx_414, hts _ lx_415⟩ ⟨fun a U g mk z => ⟨z.1, th_P.moved (u := U) (U := U.calling g mk a) (Vm.Alike.refl U.vm) z.2.1, vk_R.same (u := U) (U := U.calling g mk a) rfl z.2.2⟩, va_recv hKK hP (show mj_kl[0]? = some _ from rfl) (mj_w_some (show mjc_L[0]? = some _ from rfl)), fun U hU hW => ⟨rfl, by rw [hU]; exact th_P.moved hW.alike hth, vk_R.warm hW hVR⟩⟩ rfl rfl hl.1 rfl (Nat.le_of_ble_eq_true rfl) (show decode method_3_code 4 = .ok (.invokevirtual 7, 3) from by decide +kernel) ⟨Nat.le_refl _, Nat.le_refl _⟩ htab ⟨Nat.zero_le _, by show 4 < 9; omega⟩ (by decide) (hts _ lx_412) (hth.1 _ (by simp [th_dc])) (fun x1 H1 z1 o1 => ?_)
  refine W.eq (g2 := F0 m9 12 ls [.ref x1]) rfl ?_
  refine lv_astore_n hx hb (show decode method_3_code 12 = .ok (.astore_n 3, 1) from by decide +kernel) rfl hl (by decide) rfl (fun ls hl => ?_)
  refine lv_iconst (v := 1) hx hb (show decode method_3_code 13 = .ok (.iconst 1, 1) from by decide +kernel) (by decide) ?_
  exact W.iret hx hb B.returns (fun t1 ht1 hW => ⟨rfl, by rw [ht1]; exact z1, fun q hq _ => by rw [ht1]; exact o1 q hq⟩) (fun _ h => by cases h) (show decode method_3_code 14 = .ok (.ireturn, 1) from by decide +kernel) B.notSynchronized
set_option maxRecDepth 20000 in
theorem lx_939 : (Jvm.Cond.codeWith ({ cls := "ListSpeakerLaw", name := "output", desc := "(LListSpeaker;I[J)I" } : Jvm.MethodName) method_4_code (4 : Nat) (Option.some Jvm.ClassFile.FieldType.int) [((0 : Nat), (9 : Nat), (12 : Nat), (19 : Nat))]) ∈ mj_WS := mj_mem 939 (by decide +kernel) (by decide)
set_option maxRecDepth 20000 in
theorem lx_941 : (Jvm.Cond.methodLink "ListSpeakerLaw" (15 : Nat) ({ cls := "ListSpeaker", name := "output", desc := "(I)C" } : Jvm.MethodName)) ∈ mj_WS := mj_mem 941 (by decide +kernel) (by decide)
set_option maxRecDepth 20000 in
theorem lx_943 : (Jvm.Cond.selects "ListSpeaker" ({ cls := "ListSpeaker", name := "output", desc := "(I)C" } : Jvm.MethodName) ({ cls := "ListSpeaker", name := "output", desc := "(I)C" } : Jvm.MethodName)) ∈ mj_WS := mj_mem 943 (by decide +kernel) (by decide)
set_option maxRecDepth 20000 in
theorem lx_942 : (Jvm.Cond.instanceMethod ({ cls := "ListSpeaker", name := "output", desc := "(I)C" } : Jvm.MethodName)) ∈ mj_WS := mj_mem 942 (by decide +kernel) (by decide)
set_option maxRecDepth 20000 in
theorem lx_940 : (Jvm.Cond.classLink "ListSpeakerLaw" (19 : Nat) "java/lang/IndexOutOfBoundsException") ∈ mj_WS := mj_mem 940 (by decide +kernel) (by decide)
abbrev y_woutput : MethodName := ({ cls := "ListSpeakerLaw", name := "output", desc := "(LListSpeaker;I[J)I" } : Jvm.MethodName)
abbrev ww_output : List Jvm.Cond := (Jvm.Cond.codeWith ({ cls := "ListSpeakerLaw", name := "output", desc := "(LListSpeaker;I[J)I" } : Jvm.MethodName) method_4_code (4 : Nat) (Option.some Jvm.ClassFile.FieldType.int) [((0 : Nat), (9 : Nat), (12 : Nat), (19 : Nat))]) :: mj_WS
def lr_Qoutput (D : va_G) (cA : FieldType → ClassId) (ad : Nat → Nat) (cL : ClassId) (ao : Nat) (Q : mj_Q) : Array Value → State → Outcome → State → Prop := fun _ st oc t => (∃ (v : Int) (σ' : mj_S) (f' : Nat → Value), oc = .returned (some (.int 0)) ∧ Q (some (.inl v)) σ' ∧ mj_r v ∧ mj_okS σ' ∧ va_P D mj_kl (mj_w cA ad mjc_L σ') t.heap ∧ t.heap[ao]? = some (arrV cL 1 f') ∧ f' 0 = .long (Int32.ofInt v).toInt64) ∧ va_F (fun q => mj_A ad mjc_L q ∨ q = ao) st t
set_option maxHeartbeats 4000000 in
set_option maxRecDepth 100000 in
theorem lr_output {l : Launch} {D : va_G} {cA : FieldType → ClassId} {ad : Nat → Nat} (hDD : mj_D ad mjc_L) {d : Nat} {σ : mj_S} {x : Int} {Q : mj_Q} (hB : mj_B mjc_L mjc_Ms d 3 [.inr (.inl 0), .inl x] σ Q) (hσ : mj_okS σ) (hxr : mj_r x) {cL : ClassId} {ao : Nat} {f : Nat → Value} (hao : ¬ mj_A ad mjc_L ao) (hQ : ∀ r σ', Q r σ' → ∃ v, r = some (.inl v)) :
    Met l y_woutput ww_output ({ frames := d + 3, cells := 0, slots := 0, locals := 64 * (d + 3) }) (va_Pc [.ref (ad 0), .int (Int32.ofInt x), .ref ao] (lo_B D cA ad σ cL ao f)) (lr_Qoutput D cA ad cL ao Q) 0 0 (fun q => mj_A ad mjc_L q ∨ q = ao) := by
  refine va_MetW (cc := method_4_code) (maxL := 4) (ret := (Option.some Jvm.ClassFile.FieldType.int)) (by decide) rfl ?_
  intro p e s m args below meth c s₁ B hml hv
  obtain ⟨rfl, hP, hKK, hNs, hO, hAr⟩ := hv
  have hx := B.exec
  have hb := B.bytes
  have hts0 := atoms_spec (ws := ww_output) B.pre
  have hts : ∀ w ∈ mj_WS, w.before _ s = true := fun w hw => hts0 w (List.mem_cons_of_mem _ hw)
  have hown : s.vm.findClass "ListSpeakerLaw" = some m.cls := findClass_of_methodNamed B.named
  have hl := lv_entry ([.ref (ad 0), .int (Int32.ofInt x), .ref ao]) (n := 4) (Nat.le_of_ble_eq_true rfl)
  rw [lg_entry_eq]
  generalize (lg_sl ([.ref (ad 0), .int (Int32.ofInt x), .ref ao]) ++ List.replicate (4 - (lg_sl ([.ref (ad 0), .int (Int32.ofInt x), .ref ao])).length) Slot.unset).toArray = ls at hl ⊢
  have hl : lv_has ls 4 [(0, .ref (ad 0)), (1, .int (Int32.ofInt x)), (2, .ref ao)] := hl
  refine lv_aload_n hx hb (show decode method_4_code 0 = .ok (.aload_n 2, 1) from by decide +kernel) rfl (lv_at hl 2 rfl) ?_
  refine lv_iconst (v := 0) hx hb (show decode method_4_code 1 = .ok (.iconst 0, 1) from by decide +kernel) (by decide) ?_
  refine lv_aload_n hx hb (show decode method_4_code 2 = .ok (.aload_n 0, 1) from by decide +kernel) rfl (lv_at hl 0 rfl) ?_
  refine lv_iload_n hx hb (show decode method_4_code 3 = .ok (.iload_n 1, 1) from by decide +kernel) rfl (lv_at hl 1 rfl) ?_
  have hMet := mjc_met (l := l) (D := D) (cA := cA) hDD d 3 [.inr (.inl 0), .inl x] σ Q hB hσ (mj_okT_cons (v := .inr (.inl 0)) trivial (mj_okT_cons (v := .inl x) hxr (fun v hv => by cases hv))) _ rfl
  have hol : ao < s.heap.size := (Array.getElem?_eq_some_iff.mp hO).1
  refine mj_call (Af := fun q => mj_A ad mjc_L q) (H0 := s.heap) (locs := []) (va_runV (As := [.int (Int32.ofInt x)]) (rest := [.int 0, .ref ao]) (b := ad 0) (C := "ListSpeaker") ⟨hx, hb, hml, hown, hts⟩ hMet ⟨callB_of 1 hts (mjc_G 3 _ rfl) rfl rfl rfl (hts _ lx_1) (hts _ lx_941) ⟨by decide, by decide, by decide +kernel⟩ ⟨by show d + 1 + 1 ≤ d + 3; omega, by show 8 + (_ + 11) + 64 * (d + 1) ≤ 64 * (d + 3); simp only []; omega⟩, hts _ lx_942, hts _ lx_943⟩ ⟨mj_blind mj_NWs_ok, va_recv hKK hP (show mj_kl[0]? = some _ from rfl) (mj_w_some (show mjc_L[0]? = some _ from rfl)), mj_pre mj_NWs_ok hNs hKK hP⟩ rfl rfl hl.1 rfl (Nat.le_of_ble_eq_true rfl) (show decode method_4_code 4 = .ok (.invokevirtual 15, 3) from by decide +kernel) ⟨Nat.zero_le _, Nat.zero_le _⟩) (fun _ z => z) va_S.rf (fun r σ1 H1 locs1 hq hok hoS hP1 hS1 => ?_)
  obtain ⟨v, rfl⟩ := hQ r σ1 hq
  have hO1 : H1[ao]? = some (arrV cL 1 f) := by rw [hS1.2.1 ao hol hao]; exact hO
  refine W.eq (g2 := F0 m 7 ls [.int (Int32.ofInt v), .int 0, .ref ao]) rfl ?_
  refine lv_i2l hx hb (show decode method_4_code 7 = .ok (.i2l, 1) from by decide +kernel) rfl ?_
  refine W.last hx hb hO1 (hAr 1 f) (fun z => by cases z) (by rw [arrV_size]; decide) rfl rfl (g := F0 m 8 ls [.long (Int32.ofInt v).toInt64, .int 0, .ref ao]) (show decode method_4_code 8 = .ok (.lastore, 1) from by decide +kernel) (fun H2 e2 z2 o2 => ?_)
  refine W.eq (g2 := F0 m 9 ls []) rfl ?_
  refine lv_goto (tgt := 15) hx hb (show decode method_4_code 9 = .ok (.goto 6, 3) from by decide +kernel) (by decide) ?_
  refine lv_iconst (v := 0) hx hb (show decode method_4_code 15 = .ok (.iconst 0, 1) from by decide +kernel) (by decide) ?_
  rw [arrV_store] at e2
  have hS2 : va_S (fun q => mj_A ad mjc_L q ∨ q = ao) s.heap H2 (locs1 ++ [⟨ao, (0 : Int32).toNatClampNeg⟩]) := ⟨by rw [z2]; exact hS1.1, fun q h1 h2 => by rw [o2 q (fun z => h2 (Or.inr z))]; exact hS1.2.1 q h1 (fun z => h2 (Or.inl z)), fun l hl => by
    rcases List.mem_append.mp hl with h | h
    · exact Or.inl (hS1.2.2 l h)
    · rcases List.mem_singleton.mp h with rfl; exact Or.inr rfl⟩
  exact W.iret hx hb B.returns (fun t1 ht1 hW => ⟨⟨v, σ1, _, rfl, hq, hok _ rfl, hoS, by
    rw [ht1]
    exact mj_P_kept hP1 (fun q _ hA => o2 q (fun z => hao (z ▸ hA))), by rw [ht1]; exact e2, by rfl⟩, hS2.F ht1⟩) hS2.2.2 (show decode method_4_code 16 = .ok (.ireturn, 1) from by decide +kernel) B.notSynchronized
set_option maxHeartbeats 4000000 in
set_option maxRecDepth 100000 in
theorem lt_output {l : Launch} (hfl : l.flags = flags0) {D : va_G} {cA : FieldType → ClassId} {ad : Nat → Nat} (hDD : mj_D ad mjc_L) {σ : mj_S} (hσ : mj_okS σ) {x : Int} (hxr : mj_r x) (hx0 : x < 0 ∨ σ 8 4 ≤ x) {cL : ClassId} {ao a1 : Nat} {f : Nat → Value} {A : Nat → Prop} :
    Met l y_woutput ww_output ({ frames := 10, cells := 1, slots := 6, locals := 700 }) (va_Pc [.ref (ad 0), .int (Int32.ofInt x), .ref ao] (fun U => lo_B D cA ad σ cL ao f U ∧ th_P A U U.heap ∧ vk_R "ListSpeaker" 120 "no such character of output" a1 U)) (fun _ st oc t => oc = .returned (some (.int 1)) ∧ va_F (fun _ => False) st t) 1 6 (fun _ => False) := by
  refine va_MetW (cc := method_4_code) (maxL := 4) (ret := (Option.some Jvm.ClassFile.FieldType.int)) (by decide) rfl ?_
  intro p e s m args below meth c s₁ B hml hv
  obtain ⟨rfl, ⟨hP, hKK, hNs, hO, hAr⟩, hth, hVR⟩ := hv
  have hx := B.exec
  have hb := B.bytes
  have hts0 := atoms_spec (ws := ww_output) B.pre
  have hts : ∀ w ∈ mj_WS, w.before _ s = true := fun w hw => hts0 w (List.mem_cons_of_mem _ hw)
  have hown : s.vm.findClass "ListSpeakerLaw" = some m.cls := findClass_of_methodNamed B.named
  have hl := lv_entry ([.ref (ad 0), .int (Int32.ofInt x), .ref ao]) (n := 4) (Nat.le_of_ble_eq_true rfl)
  rw [lg_entry_eq]
  generalize (lg_sl ([.ref (ad 0), .int (Int32.ofInt x), .ref ao]) ++ List.replicate (4 - (lg_sl ([.ref (ad 0), .int (Int32.ofInt x), .ref ao])).length) Slot.unset).toArray = ls at hl ⊢
  have hl : lv_has ls 4 [(0, .ref (ad 0)), (1, .int (Int32.ofInt x)), (2, .ref ao)] := hl
  refine lv_aload_n hx hb (show decode method_4_code 0 = .ok (.aload_n 2, 1) from by decide +kernel) rfl (lv_at hl 2 rfl) ?_
  refine lv_iconst (v := 0) hx hb (show decode method_4_code 1 = .ok (.iconst 0, 1) from by decide +kernel) (by decide) ?_
  refine lv_aload_n hx hb (show decode method_4_code 2 = .ok (.aload_n 0, 1) from by decide +kernel) rfl (lv_at hl 0 rfl) ?_
  refine lv_iload_n hx hb (show decode method_4_code 3 = .ok (.iload_n 1, 1) from by decide +kernel) rfl (lv_at hl 1 rfl) ?_
  obtain ⟨m9, meth9, c9, g1, g2, g3, -, -, htab, -⟩ := Cond.codeWith_spec (hts0 _ List.mem_cons_self)
  have hm9 : m9 = m := Option.some.inj (g1.symm.trans B.named)
  subst hm9
  have hc9 : c9 = c := by
    have h1 := B.method
    have h2 := (Stand.of_body B).code
    cases g2.symm.trans h1
    exact Option.some.inj (g3.symm.trans h2)
  subst hc9
  refine th_catch (rest := [.int 0, .ref ao]) (As := [.int (Int32.ofInt x)]) (b := ad 0) (C := "ListSpeaker") (g := F0 m9 4 ls [.int (Int32.ofInt x), .ref (ad 0), .int 0, .ref ao]) ⟨hx, hb, hml, hown, hts⟩ (th_output (l := l) hfl (ad 0) a1 x hxr A (D := D) (cA := cA) hDD hσ hx0 rfl) ⟨callB_of 1 hts (mjc_G 3 _ rfl) rfl rfl rfl (hts _ lx_1) (hts _ lx_941) ⟨by decide, by decide, by decide +kernel⟩ ⟨Nat.le_of_ble_eq_true rfl, Nat.le_of_ble_eq_true rfl⟩, hts _ lx_942, hts _ lx_943⟩ ⟨fun a U g mk z => ⟨z.1, ⟨th_P.moved (u := U) (U := U.calling g mk a) (Vm.Alike.refl U.vm) z.2.1.1, vk_R.same (u := U) (U := U.calling g mk a) rfl z.2.1.2⟩, z.2.2.1, va_K.moved (u := U) (U := U.calling g mk a) (Vm.Alike.refl U.vm) z.2.2.2.1, nw_calling z.2.2.2.2⟩, va_recv hKK hP (show mj_kl[0]? = some _ from rfl) (mj_w_some (show mjc_L[0]? = some _ from rfl)), fun U hU hW => ⟨rfl, ⟨by rw [hU]; exact th_P.moved hW.alike hth, vk_R.warm hW hVR⟩, by rw [hU]; exact hP, va_K.moved hW.alike hKK, nw_warm hW hNs⟩⟩ rfl rfl hl.1 rfl (Nat.le_of_ble_eq_true rfl) (show decode method_4_code 4 = .ok (.invokevirtual 15, 3) from by decide +kernel) ⟨Nat.le_refl _, Nat.le_refl _⟩ htab ⟨Nat.zero_le _, by show 4 < 9; omega⟩ (by decide) (hts _ lx_940) (hth.1 _ (by simp [th_dc])) (fun x1 H1 z1 o1 => ?_)
  refine W.eq (g2 := F0 m9 12 ls [.ref x1]) rfl ?_
  refine lv_astore_n hx hb (show decode method_4_code 12 = .ok (.astore_n 3, 1) from by decide +kernel) rfl hl (by decide) rfl (fun ls hl => ?_)
  refine lv_iconst (v := 1) hx hb (show decode method_4_code 13 = .ok (.iconst 1, 1) from by decide +kernel) (by decide) ?_
  exact W.iret hx hb B.returns (fun t1 ht1 hW => ⟨rfl, by rw [ht1]; exact z1, fun q hq _ => by rw [ht1]; exact o1 q hq⟩) (fun _ h => by cases h) (show decode method_4_code 14 = .ok (.ireturn, 1) from by decide +kernel) B.notSynchronized
