/-! constructors that make their arrays and put their fields -/
theorem mj_sameA {D : va_G} {cA : FieldType → ClassId} {s : State} {c1 : ClassId} {ty : FieldType} (h1 : va_K D mj_kl (mj_tys cA ++ [(c1, ty)]) s) (h2 : va_K D mj_kl (mj_tys cA) s) (ht : ty = .int ∨ ty = .char ∨ ty = .boolean) : c1 = cA ty := by
  have g1 := (h1.2 3 (c1, ty) rfl).2
  rcases ht with rfl | rfl | rfl
  · exact Option.some.inj (g1.symm.trans (h2.2 0 (cA .int, .int) rfl).2)
  · exact Option.some.inj (g1.symm.trans (h2.2 1 (cA .char, .char) rfl).2)
  · exact Option.some.inj (g1.symm.trans (h2.2 2 (cA .boolean, .boolean) rfl).2)
theorem cw_28 : (Jvm.Cond.instanceMethod ({ cls := "java/lang/Object", name := "<init>", desc := "()V" } : Jvm.MethodName)) ∈ mj_WS := mj_mem 28 (by decide +kernel) (by decide)
set_option maxRecDepth 20000 in
theorem cw_29 : (Jvm.Cond.code ({ cls := "java/lang/Object", name := "<init>", desc := "()V" } : Jvm.MethodName) object_method_1_code (1 : Nat) (Option.none : Option Jvm.ClassFile.FieldType)) ∈ mj_WS := mj_mem 29 rfl rfl
theorem cw_108 : (Jvm.Cond.arrayClass Jvm.ClassFile.FieldType.char) ∈ mj_WS := mj_mem 108 (by decide +kernel) (by decide)
theorem cw_109 : (Jvm.Cond.arrayClass Jvm.ClassFile.FieldType.int) ∈ mj_WS := mj_mem 109 (by decide +kernel) (by decide)
theorem cw_160 : (Jvm.Cond.arrayClass Jvm.ClassFile.FieldType.boolean) ∈ mj_WS := mj_mem 160 (by decide +kernel) (by decide)
theorem cw_166 : (Jvm.Cond.methodLink "ListSpeaker$Reader" (3 : Nat) ({ cls := "java/lang/Object", name := "<init>", desc := "()V" } : Jvm.MethodName)) ∈ mj_WS := mj_mem 166 (by decide +kernel) (by decide)
theorem cw_167 : (Jvm.Cond.fieldLink "ListSpeaker$Reader" (15 : Nat) "ListSpeaker$Reader" "symbols" "LListSpeaker$Symbols;") ∈ mj_WS := mj_mem 167 (by decide +kernel) (by decide)
theorem cw_168 : (Jvm.Cond.fieldLink "ListSpeaker$Reader" (19 : Nat) "ListSpeaker$Reader" "pairs" "LListSpeaker$Pairs;") ∈ mj_WS := mj_mem 168 (by decide +kernel) (by decide)
theorem cw_169 : (Jvm.Cond.fieldLink "ListSpeaker$Reader" (9 : Nat) "ListSpeaker$Reader" "text" "[C") ∈ mj_WS := mj_mem 169 (by decide +kernel) (by decide)
theorem cw_188 : (Jvm.Cond.methodLink "ListSpeaker$Code" (3 : Nat) ({ cls := "java/lang/Object", name := "<init>", desc := "()V" } : Jvm.MethodName)) ∈ mj_WS := mj_mem 188 (by decide +kernel) (by decide)
theorem cw_189 : (Jvm.Cond.fieldLink "ListSpeaker$Code" (9 : Nat) "ListSpeaker$Code" "operations" "[I") ∈ mj_WS := mj_mem 189 (by decide +kernel) (by decide)
theorem cw_190 : (Jvm.Cond.fieldLink "ListSpeaker$Code" (15 : Nat) "ListSpeaker$Code" "operands" "[I") ∈ mj_WS := mj_mem 190 (by decide +kernel) (by decide)
theorem cw_191 : (Jvm.Cond.fieldLink "ListSpeaker$Code" (18 : Nat) "ListSpeaker$Code" "numbers" "[I") ∈ mj_WS := mj_mem 191 (by decide +kernel) (by decide)
theorem cw_207 : (Jvm.Cond.methodLink "ListSpeaker$Maker" (3 : Nat) ({ cls := "java/lang/Object", name := "<init>", desc := "()V" } : Jvm.MethodName)) ∈ mj_WS := mj_mem 207 (by decide +kernel) (by decide)
theorem cw_208 : (Jvm.Cond.fieldLink "ListSpeaker$Maker" (18 : Nat) "ListSpeaker$Maker" "pairs" "LListSpeaker$Pairs;") ∈ mj_WS := mj_mem 208 (by decide +kernel) (by decide)
theorem cw_209 : (Jvm.Cond.fieldLink "ListSpeaker$Maker" (22 : Nat) "ListSpeaker$Maker" "code" "LListSpeaker$Code;") ∈ mj_WS := mj_mem 209 (by decide +kernel) (by decide)
theorem cw_210 : (Jvm.Cond.fieldLink "ListSpeaker$Maker" (9 : Nat) "ListSpeaker$Maker" "names" "[I") ∈ mj_WS := mj_mem 210 (by decide +kernel) (by decide)
theorem cw_211 : (Jvm.Cond.fieldLink "ListSpeaker$Maker" (15 : Nat) "ListSpeaker$Maker" "places" "[I") ∈ mj_WS := mj_mem 211 (by decide +kernel) (by decide)
theorem cw_229 : (Jvm.Cond.methodLink "ListSpeaker$Functions" (3 : Nat) ({ cls := "java/lang/Object", name := "<init>", desc := "()V" } : Jvm.MethodName)) ∈ mj_WS := mj_mem 229 (by decide +kernel) (by decide)
theorem cw_230 : (Jvm.Cond.fieldLink "ListSpeaker$Functions" (28 : Nat) "ListSpeaker$Functions" "pairs" "LListSpeaker$Pairs;") ∈ mj_WS := mj_mem 230 (by decide +kernel) (by decide)
theorem cw_231 : (Jvm.Cond.fieldLink "ListSpeaker$Functions" (9 : Nat) "ListSpeaker$Functions" "defined" "[Z") ∈ mj_WS := mj_mem 231 (by decide +kernel) (by decide)
theorem cw_232 : (Jvm.Cond.fieldLink "ListSpeaker$Functions" (15 : Nat) "ListSpeaker$Functions" "parameters" "[I") ∈ mj_WS := mj_mem 232 (by decide +kernel) (by decide)
theorem cw_233 : (Jvm.Cond.fieldLink "ListSpeaker$Functions" (19 : Nat) "ListSpeaker$Functions" "arities" "[I") ∈ mj_WS := mj_mem 233 (by decide +kernel) (by decide)
theorem cw_234 : (Jvm.Cond.fieldLink "ListSpeaker$Functions" (22 : Nat) "ListSpeaker$Functions" "bodies" "[I") ∈ mj_WS := mj_mem 234 (by decide +kernel) (by decide)
theorem cw_235 : (Jvm.Cond.fieldLink "ListSpeaker$Functions" (25 : Nat) "ListSpeaker$Functions" "starts" "[I") ∈ mj_WS := mj_mem 235 (by decide +kernel) (by decide)
theorem cw_257 : (Jvm.Cond.methodLink "ListSpeaker$Machine" (3 : Nat) ({ cls := "java/lang/Object", name := "<init>", desc := "()V" } : Jvm.MethodName)) ∈ mj_WS := mj_mem 257 (by decide +kernel) (by decide)
theorem cw_258 : (Jvm.Cond.fieldLink "ListSpeaker$Machine" (24 : Nat) "ListSpeaker$Machine" "pairs" "LListSpeaker$Pairs;") ∈ mj_WS := mj_mem 258 (by decide +kernel) (by decide)
theorem cw_259 : (Jvm.Cond.fieldLink "ListSpeaker$Machine" (28 : Nat) "ListSpeaker$Machine" "code" "LListSpeaker$Code;") ∈ mj_WS := mj_mem 259 (by decide +kernel) (by decide)
theorem cw_260 : (Jvm.Cond.fieldLink "ListSpeaker$Machine" (32 : Nat) "ListSpeaker$Machine" "functions" "LListSpeaker$Functions;") ∈ mj_WS := mj_mem 260 (by decide +kernel) (by decide)
theorem cw_261 : (Jvm.Cond.fieldLink "ListSpeaker$Machine" (9 : Nat) "ListSpeaker$Machine" "stack" "[I") ∈ mj_WS := mj_mem 261 (by decide +kernel) (by decide)
theorem cw_262 : (Jvm.Cond.fieldLink "ListSpeaker$Machine" (15 : Nat) "ListSpeaker$Machine" "callers" "[I") ∈ mj_WS := mj_mem 262 (by decide +kernel) (by decide)
theorem cw_263 : (Jvm.Cond.fieldLink "ListSpeaker$Machine" (18 : Nat) "ListSpeaker$Machine" "callerFrames" "[I") ∈ mj_WS := mj_mem 263 (by decide +kernel) (by decide)
theorem cw_264 : (Jvm.Cond.fieldLink "ListSpeaker$Machine" (21 : Nat) "ListSpeaker$Machine" "callerHoles" "[I") ∈ mj_WS := mj_mem 264 (by decide +kernel) (by decide)
theorem cw_306 : (Jvm.Cond.methodLink "ListSpeaker$Paper" (3 : Nat) ({ cls := "java/lang/Object", name := "<init>", desc := "()V" } : Jvm.MethodName)) ∈ mj_WS := mj_mem 306 (by decide +kernel) (by decide)
theorem cw_307 : (Jvm.Cond.fieldLink "ListSpeaker$Paper" (19 : Nat) "ListSpeaker$Paper" "symbols" "LListSpeaker$Symbols;") ∈ mj_WS := mj_mem 307 (by decide +kernel) (by decide)
theorem cw_308 : (Jvm.Cond.fieldLink "ListSpeaker$Paper" (23 : Nat) "ListSpeaker$Paper" "pairs" "LListSpeaker$Pairs;") ∈ mj_WS := mj_mem 308 (by decide +kernel) (by decide)
theorem cw_309 : (Jvm.Cond.fieldLink "ListSpeaker$Paper" (9 : Nat) "ListSpeaker$Paper" "letters" "[C") ∈ mj_WS := mj_mem 309 (by decide +kernel) (by decide)
theorem cw_310 : (Jvm.Cond.fieldLink "ListSpeaker$Paper" (15 : Nat) "ListSpeaker$Paper" "waiting" "[I") ∈ mj_WS := mj_mem 310 (by decide +kernel) (by decide)
def y_Code : MethodName := ({ cls := "ListSpeaker$Code", name := "<init>", desc := "()V" } : Jvm.MethodName)
set_option maxRecDepth 20000 in
theorem cwc_Code : Jvm.Cond.code y_Code prog_2_method_1_code 1 none ∈ mj_WS := mj_mem 187 rfl rfl
set_option maxHeartbeats 4000000 in
set_option maxRecDepth 100000 in
theorem c_Code (l : Launch) (D : va_G) (cA : FieldType → ClassId) (h0 sz : Nat) : Met l y_Code (Jvm.Cond.code y_Code prog_2_method_1_code 1 none :: mj_WS) ({ frames := 1, cells := 3, slots := 7200, locals := 12 }) (va_Pc [.ref h0] (fun U => U.heap.size = sz ∧ va_P D mj_kl [(h0, .inr (4, [.null, .null, .null, .int 0]))] U.heap ∧ va_K D mj_kl (mj_tys cA) U ∧ va_D (fun _ => True) [(h0, .inr (4, [.null, .null, .null, .int 0]))])) (va_Qv (fun _ : Nat × Nat × Nat => True) (fun u t => va_P D mj_kl [(h0, .inr (4, [.ref u.1, .ref u.2.1, .ref u.2.2, .int 0])), (u.1, .inl (cA .int, 2400, .inl (fun _ => 0))), (u.2.1, .inl (cA .int, 2400, .inl (fun _ => 0))), (u.2.2, .inl (cA .int, 2400, .inl (fun _ => 0)))] t.heap ∧ va_K D mj_kl (mj_tys cA) t ∧ va_D (va_A [(h0, .inr (4, [.null, .null, .null, .int 0]))] sz) [(h0, .inr (4, [.ref u.1, .ref u.2.1, .ref u.2.2, .int 0])), (u.1, .inl (cA .int, 2400, .inl (fun _ => 0))), (u.2.1, .inl (cA .int, 2400, .inl (fun _ => 0))), (u.2.2, .inl (cA .int, 2400, .inl (fun _ => 0)))]) (va_A [(h0, .inr (4, [.null, .null, .null, .int 0]))] sz)) 3 7200 (va_A [(h0, .inr (4, [.null, .null, .null, .int 0]))] sz) := by
  refine Met.ofW (cc := prog_2_method_1_code) (maxL := 1) (ret := none) (by decide) rfl ?_
  intro p e s m args below meth c s₁ B hml hv
  obtain ⟨rfl, hsz, hP, hK, hD0⟩ := hv
  have hx := B.exec
  have hb := B.bytes
  have hr := B.returns
  have hts0 := atoms_spec (ws := Jvm.Cond.code y_Code prog_2_method_1_code 1 none :: mj_WS) B.pre
  have hts : ∀ w ∈ mj_WS, w.before _ s = true := fun w hw => hts0 w (List.mem_cons_of_mem _ hw)
  have hown : s.vm.findClass "ListSpeaker$Code" = some m.cls := findClass_of_methodNamed B.named
  have hlocks := B.notSynchronized
  have hin : meth.name = "<init>" := (name_of_methodNamed B.named B.method).1
  subst hsz
  have hD := hD0.self (sz := s.heap.size)
  generalize hAe : va_A [(h0, .inr (4, [.null, .null, .null, .int 0]))] s.heap.size = A at hD ⊢
  have hA : ∀ q : Nat, s.heap.size ≤ q → A q := fun q h => by rw [← hAe]; exact Or.inr h
  have hS : va_S A s.heap s.heap [] := va_S.rf
  have hP : va_P D mj_kl [(h0, .inr (4, [.null, .null, .null, .int 0]))] s.heap := hP
  have hl := lv_entry ([.ref h0]) (n := 1) (Nat.le_of_ble_eq_true rfl)
  rw [lg_entry_eq]
  generalize (lg_sl ([.ref h0]) ++ List.replicate (1 - (lg_sl ([.ref h0])).length) Slot.unset).toArray = ls at hl ⊢
  have hl : lv_has ls 1 [(0, .ref h0)] := hl
  refine lv_aload_n hx hb (show decode prog_2_method_1_code 0 = .ok (.aload_n 0, 1) from by decide +kernel) rfl (lv_at hl 0 rfl) ?_
  refine W.objInit hx hb hown (hts _ cw_188) (hts _ cw_28) (hts _ cw_29) rfl (by rw [hml]; exact hl.1) rfl (show decode prog_2_method_1_code 1 = .ok (.invokespecial 3, 3) from by decide +kernel) (Nat.le_of_ble_eq_true rfl) (Nat.le_of_ble_eq_true rfl) ?_
  refine W.eq (g2 := F0 m 4 ls []) rfl ?_
  refine lv_aload_n hx hb (show decode prog_2_method_1_code 4 = .ok (.aload_n 0, 1) from by decide +kernel) rfl (lv_at hl 0 rfl) ?_
  refine lv_sipush (v := 2400) hx hb (show decode prog_2_method_1_code 5 = .ok (.sipush 2400, 3) from by decide +kernel) (by decide) ?_
  refine va_newa (atype := .int) hx hb (hts _ cw_109) (ty := .int) rfl hK hP hD hS hA (N' := 2400) (a0 := (2400, .inl (fun _ => 0))) (fun _ => rfl) (by decide) (by decide) (by decide) (show 0 + 1 ≤ 3 from by decide) (show 0 + 2400 ≤ 7200 from by decide) (show decode prog_2_method_1_code 8 = .ok (.newarray .int, 2) from by decide +kernel) (fun q8 c8 H hK1 hP hD hS => ?_)
  obtain rfl := mj_sameA (ty := .int) hK1 hK (by decide)
  refine W.widen (k := 1) (n := 2400) (by decide) (by decide) ?_
  have hP : va_P D mj_kl [(h0, .inr (4, [.null, .null, .null, .int 0])), (q8, .inl (cA .int, 2400, .inl (fun _ => 0)))] H := hP
  have hD : va_D A [(h0, .inr (4, [.null, .null, .null, .int 0])), (q8, .inl (cA .int, 2400, .inl (fun _ => 0)))] := hD
  refine va_putF (D := D) (ci := 4) (v := .ref q8) (ty := .array .int) (C := "ListSpeaker$Code") (T := mjF4) (N := 4) hx hb hts mjw4 mjt4 mjk4 mjn4 hown hK hP hD hS 0 rfl rfl 0 (by decide) (hts _ cw_189) (fun _ h9 => h9) rfl hin rfl (by decide +kernel) rfl rfl (Nat.le_of_ble_eq_true rfl) (show decode prog_2_method_1_code 10 = .ok (.putfield 9, 3) from by decide +kernel) (fun H locs hP hD hS => ?_)
  have hP : va_P D mj_kl [(h0, .inr (4, [.ref q8, .null, .null, .int 0])), (q8, .inl (cA .int, 2400, .inl (fun _ => 0)))] H := hP
  have hD : va_D A [(h0, .inr (4, [.ref q8, .null, .null, .int 0])), (q8, .inl (cA .int, 2400, .inl (fun _ => 0)))] := hD
  refine lv_aload_n hx hb (show decode prog_2_method_1_code 13 = .ok (.aload_n 0, 1) from by decide +kernel) rfl (lv_at hl 0 rfl) ?_
  refine lv_sipush (v := 2400) hx hb (show decode prog_2_method_1_code 14 = .ok (.sipush 2400, 3) from by decide +kernel) (by decide) ?_
  refine va_newa (atype := .int) hx hb (hts _ cw_109) (ty := .int) rfl hK hP hD hS hA (N' := 2400) (a0 := (2400, .inl (fun _ => 0))) (fun _ => rfl) (by decide) (by decide) (by decide) (show 1 + 1 ≤ 3 from by decide) (show 2400 + 2400 ≤ 7200 from by decide) (show decode prog_2_method_1_code 17 = .ok (.newarray .int, 2) from by decide +kernel) (fun q17 c17 H hK1 hP hD hS => ?_)
  obtain rfl := mj_sameA (ty := .int) hK1 hK (by decide)
  refine W.widen (k := 2) (n := 4800) (by decide) (by decide) ?_
  have hP : va_P D mj_kl [(h0, .inr (4, [.ref q8, .null, .null, .int 0])), (q8, .inl (cA .int, 2400, .inl (fun _ => 0))), (q17, .inl (cA .int, 2400, .inl (fun _ => 0)))] H := hP
  have hD : va_D A [(h0, .inr (4, [.ref q8, .null, .null, .int 0])), (q8, .inl (cA .int, 2400, .inl (fun _ => 0))), (q17, .inl (cA .int, 2400, .inl (fun _ => 0)))] := hD
  refine va_putF (D := D) (ci := 4) (v := .ref q17) (ty := .array .int) (C := "ListSpeaker$Code") (T := mjF4) (N := 4) hx hb hts mjw4 mjt4 mjk4 mjn4 hown hK hP hD hS 0 rfl rfl 1 (by decide) (hts _ cw_190) (fun _ h9 => h9) rfl hin rfl (by decide +kernel) rfl rfl (Nat.le_of_ble_eq_true rfl) (show decode prog_2_method_1_code 19 = .ok (.putfield 15, 3) from by decide +kernel) (fun H locs hP hD hS => ?_)
  have hP : va_P D mj_kl [(h0, .inr (4, [.ref q8, .ref q17, .null, .int 0])), (q8, .inl (cA .int, 2400, .inl (fun _ => 0))), (q17, .inl (cA .int, 2400, .inl (fun _ => 0)))] H := hP
  have hD : va_D A [(h0, .inr (4, [.ref q8, .ref q17, .null, .int 0])), (q8, .inl (cA .int, 2400, .inl (fun _ => 0))), (q17, .inl (cA .int, 2400, .inl (fun _ => 0)))] := hD
  refine lv_aload_n hx hb (show decode prog_2_method_1_code 22 = .ok (.aload_n 0, 1) from by decide +kernel) rfl (lv_at hl 0 rfl) ?_
  refine lv_sipush (v := 2400) hx hb (show decode prog_2_method_1_code 23 = .ok (.sipush 2400, 3) from by decide +kernel) (by decide) ?_
  refine va_newa (atype := .int) hx hb (hts _ cw_109) (ty := .int) rfl hK hP hD hS hA (N' := 2400) (a0 := (2400, .inl (fun _ => 0))) (fun _ => rfl) (by decide) (by decide) (by decide) (show 2 + 1 ≤ 3 from by decide) (show 4800 + 2400 ≤ 7200 from by decide) (show decode prog_2_method_1_code 26 = .ok (.newarray .int, 2) from by decide +kernel) (fun q26 c26 H hK1 hP hD hS => ?_)
  obtain rfl := mj_sameA (ty := .int) hK1 hK (by decide)
  refine W.widen (k := 3) (n := 7200) (by decide) (by decide) ?_
  have hP : va_P D mj_kl [(h0, .inr (4, [.ref q8, .ref q17, .null, .int 0])), (q8, .inl (cA .int, 2400, .inl (fun _ => 0))), (q17, .inl (cA .int, 2400, .inl (fun _ => 0))), (q26, .inl (cA .int, 2400, .inl (fun _ => 0)))] H := hP
  have hD : va_D A [(h0, .inr (4, [.ref q8, .ref q17, .null, .int 0])), (q8, .inl (cA .int, 2400, .inl (fun _ => 0))), (q17, .inl (cA .int, 2400, .inl (fun _ => 0))), (q26, .inl (cA .int, 2400, .inl (fun _ => 0)))] := hD
  refine va_putF (D := D) (ci := 4) (v := .ref q26) (ty := .array .int) (C := "ListSpeaker$Code") (T := mjF4) (N := 4) hx hb hts mjw4 mjt4 mjk4 mjn4 hown hK hP hD hS 0 rfl rfl 2 (by decide) (hts _ cw_191) (fun _ h9 => h9) rfl hin rfl (by decide +kernel) rfl rfl (Nat.le_of_ble_eq_true rfl) (show decode prog_2_method_1_code 28 = .ok (.putfield 18, 3) from by decide +kernel) (fun H locs hP hD hS => ?_)
  have hP : va_P D mj_kl [(h0, .inr (4, [.ref q8, .ref q17, .ref q26, .int 0])), (q8, .inl (cA .int, 2400, .inl (fun _ => 0))), (q17, .inl (cA .int, 2400, .inl (fun _ => 0))), (q26, .inl (cA .int, 2400, .inl (fun _ => 0)))] H := hP
  have hD : va_D A [(h0, .inr (4, [.ref q8, .ref q17, .ref q26, .int 0])), (q8, .inl (cA .int, 2400, .inl (fun _ => 0))), (q17, .inl (cA .int, 2400, .inl (fun _ => 0))), (q26, .inl (cA .int, 2400, .inl (fun _ => 0)))] := hD
  exact W.vret hx hb hr (fun t ht hW => ⟨⟨(q8, q17, q26), rfl, trivial, by rw [ht]; exact hP, va_K.moved hW.alike hK, hD⟩, hS.F ht⟩) hS.2.2 (show decode prog_2_method_1_code 31 = .ok (.return_, 1) from by decide +kernel)
def y_Maker : MethodName := ({ cls := "ListSpeaker$Maker", name := "<init>", desc := "(LListSpeaker$Pairs;LListSpeaker$Code;)V" } : Jvm.MethodName)
set_option maxRecDepth 20000 in
theorem cwc_Maker : Jvm.Cond.code y_Maker prog_5_method_1_code 3 none ∈ mj_WS := mj_mem 206 rfl rfl
set_option maxHeartbeats 4000000 in
set_option maxRecDepth 100000 in
theorem c_Maker (l : Launch) (D : va_G) (cA : FieldType → ClassId) (h0 sz : Nat) (r1 : Nat) (r2 : Nat) : Met l y_Maker (Jvm.Cond.code y_Maker prog_5_method_1_code 3 none :: mj_WS) ({ frames := 1, cells := 2, slots := 800, locals := 12 }) (va_Pc [.ref h0, .ref r1, .ref r2] (fun U => U.heap.size = sz ∧ va_P D mj_kl [(h0, .inr (5, [.null, .null, .null, .null, .int 0]))] U.heap ∧ va_K D mj_kl (mj_tys cA) U ∧ va_D (fun _ => True) [(h0, .inr (5, [.null, .null, .null, .null, .int 0]))])) (va_Qv (fun _ : Nat × Nat => True) (fun u t => va_P D mj_kl [(h0, .inr (5, [.ref r1, .ref r2, .ref u.1, .ref u.2, .int 0])), (u.1, .inl (cA .int, 400, .inl (fun _ => 0))), (u.2, .inl (cA .int, 400, .inl (fun _ => 0)))] t.heap ∧ va_K D mj_kl (mj_tys cA) t ∧ va_D (va_A [(h0, .inr (5, [.null, .null, .null, .null, .int 0]))] sz) [(h0, .inr (5, [.ref r1, .ref r2, .ref u.1, .ref u.2, .int 0])), (u.1, .inl (cA .int, 400, .inl (fun _ => 0))), (u.2, .inl (cA .int, 400, .inl (fun _ => 0)))]) (va_A [(h0, .inr (5, [.null, .null, .null, .null, .int 0]))] sz)) 2 800 (va_A [(h0, .inr (5, [.null, .null, .null, .null, .int 0]))] sz) := by
  refine Met.ofW (cc := prog_5_method_1_code) (maxL := 3) (ret := none) (by decide) rfl ?_
  intro p e s m args below meth c s₁ B hml hv
  obtain ⟨rfl, hsz, hP, hK, hD0⟩ := hv
  have hx := B.exec
  have hb := B.bytes
  have hr := B.returns
  have hts0 := atoms_spec (ws := Jvm.Cond.code y_Maker prog_5_method_1_code 3 none :: mj_WS) B.pre
  have hts : ∀ w ∈ mj_WS, w.before _ s = true := fun w hw => hts0 w (List.mem_cons_of_mem _ hw)
  have hown : s.vm.findClass "ListSpeaker$Maker" = some m.cls := findClass_of_methodNamed B.named
  have hlocks := B.notSynchronized
  have hin : meth.name = "<init>" := (name_of_methodNamed B.named B.method).1
  subst hsz
  have hD := hD0.self (sz := s.heap.size)
  generalize hAe : va_A [(h0, .inr (5, [.null, .null, .null, .null, .int 0]))] s.heap.size = A at hD ⊢
  have hA : ∀ q : Nat, s.heap.size ≤ q → A q := fun q h => by rw [← hAe]; exact Or.inr h
  have hS : va_S A s.heap s.heap [] := va_S.rf
  have hP : va_P D mj_kl [(h0, .inr (5, [.null, .null, .null, .null, .int 0]))] s.heap := hP
  have hl := lv_entry ([.ref h0, .ref r1, .ref r2]) (n := 3) (Nat.le_of_ble_eq_true rfl)
  rw [lg_entry_eq]
  generalize (lg_sl ([.ref h0, .ref r1, .ref r2]) ++ List.replicate (3 - (lg_sl ([.ref h0, .ref r1, .ref r2])).length) Slot.unset).toArray = ls at hl ⊢
  have hl : lv_has ls 3 [(0, .ref h0), (1, .ref r1), (2, .ref r2)] := hl
  refine lv_aload_n hx hb (show decode prog_5_method_1_code 0 = .ok (.aload_n 0, 1) from by decide +kernel) rfl (lv_at hl 0 rfl) ?_
  refine W.objInit hx hb hown (hts _ cw_207) (hts _ cw_28) (hts _ cw_29) rfl (by rw [hml]; exact hl.1) rfl (show decode prog_5_method_1_code 1 = .ok (.invokespecial 3, 3) from by decide +kernel) (Nat.le_of_ble_eq_true rfl) (Nat.le_of_ble_eq_true rfl) ?_
  refine W.eq (g2 := F0 m 4 ls []) rfl ?_
  refine lv_aload_n hx hb (show decode prog_5_method_1_code 4 = .ok (.aload_n 0, 1) from by decide +kernel) rfl (lv_at hl 0 rfl) ?_
  refine lv_sipush (v := 400) hx hb (show decode prog_5_method_1_code 5 = .ok (.sipush 400, 3) from by decide +kernel) (by decide) ?_
  refine va_newa (atype := .int) hx hb (hts _ cw_109) (ty := .int) rfl hK hP hD hS hA (N' := 400) (a0 := (400, .inl (fun _ => 0))) (fun _ => rfl) (by decide) (by decide) (by decide) (show 0 + 1 ≤ 2 from by decide) (show 0 + 400 ≤ 800 from by decide) (show decode prog_5_method_1_code 8 = .ok (.newarray .int, 2) from by decide +kernel) (fun q8 c8 H hK1 hP hD hS => ?_)
  obtain rfl := mj_sameA (ty := .int) hK1 hK (by decide)
  refine W.widen (k := 1) (n := 400) (by decide) (by decide) ?_
  have hP : va_P D mj_kl [(h0, .inr (5, [.null, .null, .null, .null, .int 0])), (q8, .inl (cA .int, 400, .inl (fun _ => 0)))] H := hP
  have hD : va_D A [(h0, .inr (5, [.null, .null, .null, .null, .int 0])), (q8, .inl (cA .int, 400, .inl (fun _ => 0)))] := hD
  refine va_putF (D := D) (ci := 5) (v := .ref q8) (ty := .array .int) (C := "ListSpeaker$Maker") (T := mjF5) (N := 5) hx hb hts mjw5 mjt5 mjk5 mjn5 hown hK hP hD hS 0 rfl rfl 2 (by decide) (hts _ cw_210) (fun _ h9 => h9) rfl hin rfl (by decide +kernel) rfl rfl (Nat.le_of_ble_eq_true rfl) (show decode prog_5_method_1_code 10 = .ok (.putfield 9, 3) from by decide +kernel) (fun H locs hP hD hS => ?_)
  have hP : va_P D mj_kl [(h0, .inr (5, [.null, .null, .ref q8, .null, .int 0])), (q8, .inl (cA .int, 400, .inl (fun _ => 0)))] H := hP
  have hD : va_D A [(h0, .inr (5, [.null, .null, .ref q8, .null, .int 0])), (q8, .inl (cA .int, 400, .inl (fun _ => 0)))] := hD
  refine lv_aload_n hx hb (show decode prog_5_method_1_code 13 = .ok (.aload_n 0, 1) from by decide +kernel) rfl (lv_at hl 0 rfl) ?_
  refine lv_sipush (v := 400) hx hb (show decode prog_5_method_1_code 14 = .ok (.sipush 400, 3) from by decide +kernel) (by decide) ?_
  refine va_newa (atype := .int) hx hb (hts _ cw_109) (ty := .int) rfl hK hP hD hS hA (N' := 400) (a0 := (400, .inl (fun _ => 0))) (fun _ => rfl) (by decide) (by decide) (by decide) (show 1 + 1 ≤ 2 from by decide) (show 400 + 400 ≤ 800 from by decide) (show decode prog_5_method_1_code 17 = .ok (.newarray .int, 2) from by decide +kernel) (fun q17 c17 H hK1 hP hD hS => ?_)
  obtain rfl := mj_sameA (ty := .int) hK1 hK (by decide)
  refine W.widen (k := 2) (n := 800) (by decide) (by decide) ?_
  have hP : va_P D mj_kl [(h0, .inr (5, [.null, .null, .ref q8, .null, .int 0])), (q8, .inl (cA .int, 400, .inl (fun _ => 0))), (q17, .inl (cA .int, 400, .inl (fun _ => 0)))] H := hP
  have hD : va_D A [(h0, .inr (5, [.null, .null, .ref q8, .null, .int 0])), (q8, .inl (cA .int, 400, .inl (fun _ => 0))), (q17, .inl (cA .int, 400, .inl (fun _ => 0)))] := hD
  refine va_putF (D := D) (ci := 5) (v := .ref q17) (ty := .array .int) (C := "ListSpeaker$Maker") (T := mjF5) (N := 5) hx hb hts mjw5 mjt5 mjk5 mjn5 hown hK hP hD hS 0 rfl rfl 3 (by decide) (hts _ cw_211) (fun _ h9 => h9) rfl hin rfl (by decide +kernel) rfl rfl (Nat.le_of_ble_eq_true rfl) (show decode prog_5_method_1_code 19 = .ok (.putfield 15, 3) from by decide +kernel) (fun H locs hP hD hS => ?_)
  have hP : va_P D mj_kl [(h0, .inr (5, [.null, .null, .ref q8, .ref q17, .int 0])), (q8, .inl (cA .int, 400, .inl (fun _ => 0))), (q17, .inl (cA .int, 400, .inl (fun _ => 0)))] H := hP
  have hD : va_D A [(h0, .inr (5, [.null, .null, .ref q8, .ref q17, .int 0])), (q8, .inl (cA .int, 400, .inl (fun _ => 0))), (q17, .inl (cA .int, 400, .inl (fun _ => 0)))] := hD
  refine lv_aload_n hx hb (show decode prog_5_method_1_code 22 = .ok (.aload_n 0, 1) from by decide +kernel) rfl (lv_at hl 0 rfl) ?_
  refine lv_aload_n hx hb (show decode prog_5_method_1_code 23 = .ok (.aload_n 1, 1) from by decide +kernel) rfl (lv_at hl 1 rfl) ?_
  refine va_putF (D := D) (ci := 5) (v := .ref r1) (ty := .object "ListSpeaker$Pairs") (C := "ListSpeaker$Maker") (T := mjF5) (N := 5) hx hb hts mjw5 mjt5 mjk5 mjn5 hown hK hP hD hS 0 rfl rfl 0 (by decide) (hts _ cw_208) (fun _ h9 => h9) rfl hin rfl (by decide +kernel) rfl rfl (Nat.le_of_ble_eq_true rfl) (show decode prog_5_method_1_code 24 = .ok (.putfield 18, 3) from by decide +kernel) (fun H locs hP hD hS => ?_)
  have hP : va_P D mj_kl [(h0, .inr (5, [.ref r1, .null, .ref q8, .ref q17, .int 0])), (q8, .inl (cA .int, 400, .inl (fun _ => 0))), (q17, .inl (cA .int, 400, .inl (fun _ => 0)))] H := hP
  have hD : va_D A [(h0, .inr (5, [.ref r1, .null, .ref q8, .ref q17, .int 0])), (q8, .inl (cA .int, 400, .inl (fun _ => 0))), (q17, .inl (cA .int, 400, .inl (fun _ => 0)))] := hD
  refine lv_aload_n hx hb (show decode prog_5_method_1_code 27 = .ok (.aload_n 0, 1) from by decide +kernel) rfl (lv_at hl 0 rfl) ?_
  refine lv_aload_n hx hb (show decode prog_5_method_1_code 28 = .ok (.aload_n 2, 1) from by decide +kernel) rfl (lv_at hl 2 rfl) ?_
  refine va_putF (D := D) (ci := 5) (v := .ref r2) (ty := .object "ListSpeaker$Code") (C := "ListSpeaker$Maker") (T := mjF5) (N := 5) hx hb hts mjw5 mjt5 mjk5 mjn5 hown hK hP hD hS 0 rfl rfl 1 (by decide) (hts _ cw_209) (fun _ h9 => h9) rfl hin rfl (by decide +kernel) rfl rfl (Nat.le_of_ble_eq_true rfl) (show decode prog_5_method_1_code 29 = .ok (.putfield 22, 3) from by decide +kernel) (fun H locs hP hD hS => ?_)
  have hP : va_P D mj_kl [(h0, .inr (5, [.ref r1, .ref r2, .ref q8, .ref q17, .int 0])), (q8, .inl (cA .int, 400, .inl (fun _ => 0))), (q17, .inl (cA .int, 400, .inl (fun _ => 0)))] H := hP
  have hD : va_D A [(h0, .inr (5, [.ref r1, .ref r2, .ref q8, .ref q17, .int 0])), (q8, .inl (cA .int, 400, .inl (fun _ => 0))), (q17, .inl (cA .int, 400, .inl (fun _ => 0)))] := hD
  exact W.vret hx hb hr (fun t ht hW => ⟨⟨(q8, q17), rfl, trivial, by rw [ht]; exact hP, va_K.moved hW.alike hK, hD⟩, hS.F ht⟩) hS.2.2 (show decode prog_5_method_1_code 32 = .ok (.return_, 1) from by decide +kernel)
def y_Functions : MethodName := ({ cls := "ListSpeaker$Functions", name := "<init>", desc := "(LListSpeaker$Pairs;)V" } : Jvm.MethodName)
set_option maxRecDepth 20000 in
theorem cwc_Functions : Jvm.Cond.code y_Functions prog_3_method_1_code 2 none ∈ mj_WS := mj_mem 228 rfl rfl
set_option maxHeartbeats 4000000 in
set_option maxRecDepth 100000 in
theorem c_Functions (l : Launch) (D : va_G) (cA : FieldType → ClassId) (h0 sz : Nat) (r1 : Nat) : Met l y_Functions (Jvm.Cond.code y_Functions prog_3_method_1_code 2 none :: mj_WS) ({ frames := 1, cells := 5, slots := 300, locals := 12 }) (va_Pc [.ref h0, .ref r1] (fun U => U.heap.size = sz ∧ va_P D mj_kl [(h0, .inr (6, [.null, .null, .null, .null, .null, .null, .int 0]))] U.heap ∧ va_K D mj_kl (mj_tys cA) U ∧ va_D (fun _ => True) [(h0, .inr (6, [.null, .null, .null, .null, .null, .null, .int 0]))])) (va_Qv (fun _ : Nat × Nat × Nat × Nat × Nat => True) (fun u t => va_P D mj_kl [(h0, .inr (6, [.ref r1, .ref u.1, .ref u.2.1, .ref u.2.2.1, .ref u.2.2.2.1, .ref u.2.2.2.2, .int 0])), (u.1, .inl (cA .boolean, 60, .inl (fun _ => 0))), (u.2.1, .inl (cA .int, 60, .inl (fun _ => 0))), (u.2.2.1, .inl (cA .int, 60, .inl (fun _ => 0))), (u.2.2.2.1, .inl (cA .int, 60, .inl (fun _ => 0))), (u.2.2.2.2, .inl (cA .int, 60, .inl (fun _ => 0)))] t.heap ∧ va_K D mj_kl (mj_tys cA) t ∧ va_D (va_A [(h0, .inr (6, [.null, .null, .null, .null, .null, .null, .int 0]))] sz) [(h0, .inr (6, [.ref r1, .ref u.1, .ref u.2.1, .ref u.2.2.1, .ref u.2.2.2.1, .ref u.2.2.2.2, .int 0])), (u.1, .inl (cA .boolean, 60, .inl (fun _ => 0))), (u.2.1, .inl (cA .int, 60, .inl (fun _ => 0))), (u.2.2.1, .inl (cA .int, 60, .inl (fun _ => 0))), (u.2.2.2.1, .inl (cA .int, 60, .inl (fun _ => 0))), (u.2.2.2.2, .inl (cA .int, 60, .inl (fun _ => 0)))]) (va_A [(h0, .inr (6, [.null, .null, .null, .null, .null, .null, .int 0]))] sz)) 5 300 (va_A [(h0, .inr (6, [.null, .null, .null, .null, .null, .null, .int 0]))] sz) := by
  refine Met.ofW (cc := prog_3_method_1_code) (maxL := 2) (ret := none) (by decide) rfl ?_
  intro p e s m args below meth c s₁ B hml hv
  obtain ⟨rfl, hsz, hP, hK, hD0⟩ := hv
  have hx := B.exec
  have hb := B.bytes
  have hr := B.returns
  have hts0 := atoms_spec (ws := Jvm.Cond.code y_Functions prog_3_method_1_code 2 none :: mj_WS) B.pre
  have hts : ∀ w ∈ mj_WS, w.before _ s = true := fun w hw => hts0 w (List.mem_cons_of_mem _ hw)
  have hown : s.vm.findClass "ListSpeaker$Functions" = some m.cls := findClass_of_methodNamed B.named
  have hlocks := B.notSynchronized
  have hin : meth.name = "<init>" := (name_of_methodNamed B.named B.method).1
  subst hsz
  have hD := hD0.self (sz := s.heap.size)
  generalize hAe : va_A [(h0, .inr (6, [.null, .null, .null, .null, .null, .null, .int 0]))] s.heap.size = A at hD ⊢
  have hA : ∀ q : Nat, s.heap.size ≤ q → A q := fun q h => by rw [← hAe]; exact Or.inr h
  have hS : va_S A s.heap s.heap [] := va_S.rf
  have hP : va_P D mj_kl [(h0, .inr (6, [.null, .null, .null, .null, .null, .null, .int 0]))] s.heap := hP
  have hl := lv_entry ([.ref h0, .ref r1]) (n := 2) (Nat.le_of_ble_eq_true rfl)
  rw [lg_entry_eq]
  generalize (lg_sl ([.ref h0, .ref r1]) ++ List.replicate (2 - (lg_sl ([.ref h0, .ref r1])).length) Slot.unset).toArray = ls at hl ⊢
  have hl : lv_has ls 2 [(0, .ref h0), (1, .ref r1)] := hl
  refine lv_aload_n hx hb (show decode prog_3_method_1_code 0 = .ok (.aload_n 0, 1) from by decide +kernel) rfl (lv_at hl 0 rfl) ?_
  refine W.objInit hx hb hown (hts _ cw_229) (hts _ cw_28) (hts _ cw_29) rfl (by rw [hml]; exact hl.1) rfl (show decode prog_3_method_1_code 1 = .ok (.invokespecial 3, 3) from by decide +kernel) (Nat.le_of_ble_eq_true rfl) (Nat.le_of_ble_eq_true rfl) ?_
  refine W.eq (g2 := F0 m 4 ls []) rfl ?_
  refine lv_aload_n hx hb (show decode prog_3_method_1_code 4 = .ok (.aload_n 0, 1) from by decide +kernel) rfl (lv_at hl 0 rfl) ?_
  refine lv_bipush (v := 60) hx hb (show decode prog_3_method_1_code 5 = .ok (.bipush 60, 2) from by decide +kernel) (by decide) ?_
  refine va_newa (atype := .boolean) hx hb (hts _ cw_160) (ty := .boolean) rfl hK hP hD hS hA (N' := 60) (a0 := (60, .inl (fun _ => 0))) (fun _ => rfl) (by decide) (by decide) (by decide) (show 0 + 1 ≤ 5 from by decide) (show 0 + 60 ≤ 300 from by decide) (show decode prog_3_method_1_code 7 = .ok (.newarray .boolean, 2) from by decide +kernel) (fun q7 c7 H hK1 hP hD hS => ?_)
  obtain rfl := mj_sameA (ty := .boolean) hK1 hK (by decide)
  refine W.widen (k := 1) (n := 60) (by decide) (by decide) ?_
  have hP : va_P D mj_kl [(h0, .inr (6, [.null, .null, .null, .null, .null, .null, .int 0])), (q7, .inl (cA .boolean, 60, .inl (fun _ => 0)))] H := hP
  have hD : va_D A [(h0, .inr (6, [.null, .null, .null, .null, .null, .null, .int 0])), (q7, .inl (cA .boolean, 60, .inl (fun _ => 0)))] := hD
  refine va_putF (D := D) (ci := 6) (v := .ref q7) (ty := .array .boolean) (C := "ListSpeaker$Functions") (T := mjF6) (N := 7) hx hb hts mjw6 mjt6 mjk6 mjn6 hown hK hP hD hS 0 rfl rfl 1 (by decide) (hts _ cw_231) (fun _ h9 => h9) rfl hin rfl (by decide +kernel) rfl rfl (Nat.le_of_ble_eq_true rfl) (show decode prog_3_method_1_code 9 = .ok (.putfield 9, 3) from by decide +kernel) (fun H locs hP hD hS => ?_)
  have hP : va_P D mj_kl [(h0, .inr (6, [.null, .ref q7, .null, .null, .null, .null, .int 0])), (q7, .inl (cA .boolean, 60, .inl (fun _ => 0)))] H := hP
  have hD : va_D A [(h0, .inr (6, [.null, .ref q7, .null, .null, .null, .null, .int 0])), (q7, .inl (cA .boolean, 60, .inl (fun _ => 0)))] := hD
  refine lv_aload_n hx hb (show decode prog_3_method_1_code 12 = .ok (.aload_n 0, 1) from by decide +kernel) rfl (lv_at hl 0 rfl) ?_
  refine lv_bipush (v := 60) hx hb (show decode prog_3_method_1_code 13 = .ok (.bipush 60, 2) from by decide +kernel) (by decide) ?_
  refine va_newa (atype := .int) hx hb (hts _ cw_109) (ty := .int) rfl hK hP hD hS hA (N' := 60) (a0 := (60, .inl (fun _ => 0))) (fun _ => rfl) (by decide) (by decide) (by decide) (show 1 + 1 ≤ 5 from by decide) (show 60 + 60 ≤ 300 from by decide) (show decode prog_3_method_1_code 15 = .ok (.newarray .int, 2) from by decide +kernel) (fun q15 c15 H hK1 hP hD hS => ?_)
  obtain rfl := mj_sameA (ty := .int) hK1 hK (by decide)
  refine W.widen (k := 2) (n := 120) (by decide) (by decide) ?_
  have hP : va_P D mj_kl [(h0, .inr (6, [.null, .ref q7, .null, .null, .null, .null, .int 0])), (q7, .inl (cA .boolean, 60, .inl (fun _ => 0))), (q15, .inl (cA .int, 60, .inl (fun _ => 0)))] H := hP
  have hD : va_D A [(h0, .inr (6, [.null, .ref q7, .null, .null, .null, .null, .int 0])), (q7, .inl (cA .boolean, 60, .inl (fun _ => 0))), (q15, .inl (cA .int, 60, .inl (fun _ => 0)))] := hD
  refine va_putF (D := D) (ci := 6) (v := .ref q15) (ty := .array .int) (C := "ListSpeaker$Functions") (T := mjF6) (N := 7) hx hb hts mjw6 mjt6 mjk6 mjn6 hown hK hP hD hS 0 rfl rfl 2 (by decide) (hts _ cw_232) (fun _ h9 => h9) rfl hin rfl (by decide +kernel) rfl rfl (Nat.le_of_ble_eq_true rfl) (show decode prog_3_method_1_code 17 = .ok (.putfield 15, 3) from by decide +kernel) (fun H locs hP hD hS => ?_)
  have hP : va_P D mj_kl [(h0, .inr (6, [.null, .ref q7, .ref q15, .null, .null, .null, .int 0])), (q7, .inl (cA .boolean, 60, .inl (fun _ => 0))), (q15, .inl (cA .int, 60, .inl (fun _ => 0)))] H := hP
  have hD : va_D A [(h0, .inr (6, [.null, .ref q7, .ref q15, .null, .null, .null, .int 0])), (q7, .inl (cA .boolean, 60, .inl (fun _ => 0))), (q15, .inl (cA .int, 60, .inl (fun _ => 0)))] := hD
  refine lv_aload_n hx hb (show decode prog_3_method_1_code 20 = .ok (.aload_n 0, 1) from by decide +kernel) rfl (lv_at hl 0 rfl) ?_
  refine lv_bipush (v := 60) hx hb (show decode prog_3_method_1_code 21 = .ok (.bipush 60, 2) from by decide +kernel) (by decide) ?_
  refine va_newa (atype := .int) hx hb (hts _ cw_109) (ty := .int) rfl hK hP hD hS hA (N' := 60) (a0 := (60, .inl (fun _ => 0))) (fun _ => rfl) (by decide) (by decide) (by decide) (show 2 + 1 ≤ 5 from by decide) (show 120 + 60 ≤ 300 from by decide) (show decode prog_3_method_1_code 23 = .ok (.newarray .int, 2) from by decide +kernel) (fun q23 c23 H hK1 hP hD hS => ?_)
  obtain rfl := mj_sameA (ty := .int) hK1 hK (by decide)
  refine W.widen (k := 3) (n := 180) (by decide) (by decide) ?_
  have hP : va_P D mj_kl [(h0, .inr (6, [.null, .ref q7, .ref q15, .null, .null, .null, .int 0])), (q7, .inl (cA .boolean, 60, .inl (fun _ => 0))), (q15, .inl (cA .int, 60, .inl (fun _ => 0))), (q23, .inl (cA .int, 60, .inl (fun _ => 0)))] H := hP
  have hD : va_D A [(h0, .inr (6, [.null, .ref q7, .ref q15, .null, .null, .null, .int 0])), (q7, .inl (cA .boolean, 60, .inl (fun _ => 0))), (q15, .inl (cA .int, 60, .inl (fun _ => 0))), (q23, .inl (cA .int, 60, .inl (fun _ => 0)))] := hD
  refine va_putF (D := D) (ci := 6) (v := .ref q23) (ty := .array .int) (C := "ListSpeaker$Functions") (T := mjF6) (N := 7) hx hb hts mjw6 mjt6 mjk6 mjn6 hown hK hP hD hS 0 rfl rfl 3 (by decide) (hts _ cw_233) (fun _ h9 => h9) rfl hin rfl (by decide +kernel) rfl rfl (Nat.le_of_ble_eq_true rfl) (show decode prog_3_method_1_code 25 = .ok (.putfield 19, 3) from by decide +kernel) (fun H locs hP hD hS => ?_)
  have hP : va_P D mj_kl [(h0, .inr (6, [.null, .ref q7, .ref q15, .ref q23, .null, .null, .int 0])), (q7, .inl (cA .boolean, 60, .inl (fun _ => 0))), (q15, .inl (cA .int, 60, .inl (fun _ => 0))), (q23, .inl (cA .int, 60, .inl (fun _ => 0)))] H := hP
  have hD : va_D A [(h0, .inr (6, [.null, .ref q7, .ref q15, .ref q23, .null, .null, .int 0])), (q7, .inl (cA .boolean, 60, .inl (fun _ => 0))), (q15, .inl (cA .int, 60, .inl (fun _ => 0))), (q23, .inl (cA .int, 60, .inl (fun _ => 0)))] := hD
  refine lv_aload_n hx hb (show decode prog_3_method_1_code 28 = .ok (.aload_n 0, 1) from by decide +kernel) rfl (lv_at hl 0 rfl) ?_
  refine lv_bipush (v := 60) hx hb (show decode prog_3_method_1_code 29 = .ok (.bipush 60, 2) from by decide +kernel) (by decide) ?_
  refine va_newa (atype := .int) hx hb (hts _ cw_109) (ty := .int) rfl hK hP hD hS hA (N' := 60) (a0 := (60, .inl (fun _ => 0))) (fun _ => rfl) (by decide) (by decide) (by decide) (show 3 + 1 ≤ 5 from by decide) (show 180 + 60 ≤ 300 from by decide) (show decode prog_3_method_1_code 31 = .ok (.newarray .int, 2) from by decide +kernel) (fun q31 c31 H hK1 hP hD hS => ?_)
  obtain rfl := mj_sameA (ty := .int) hK1 hK (by decide)
  refine W.widen (k := 4) (n := 240) (by decide) (by decide) ?_
  have hP : va_P D mj_kl [(h0, .inr (6, [.null, .ref q7, .ref q15, .ref q23, .null, .null, .int 0])), (q7, .inl (cA .boolean, 60, .inl (fun _ => 0))), (q15, .inl (cA .int, 60, .inl (fun _ => 0))), (q23, .inl (cA .int, 60, .inl (fun _ => 0))), (q31, .inl (cA .int, 60, .inl (fun _ => 0)))] H := hP
  have hD : va_D A [(h0, .inr (6, [.null, .ref q7, .ref q15, .ref q23, .null, .null, .int 0])), (q7, .inl (cA .boolean, 60, .inl (fun _ => 0))), (q15, .inl (cA .int, 60, .inl (fun _ => 0))), (q23, .inl (cA .int, 60, .inl (fun _ => 0))), (q31, .inl (cA .int, 60, .inl (fun _ => 0)))] := hD
  refine va_putF (D := D) (ci := 6) (v := .ref q31) (ty := .array .int) (C := "ListSpeaker$Functions") (T := mjF6) (N := 7) hx hb hts mjw6 mjt6 mjk6 mjn6 hown hK hP hD hS 0 rfl rfl 4 (by decide) (hts _ cw_234) (fun _ h9 => h9) rfl hin rfl (by decide +kernel) rfl rfl (Nat.le_of_ble_eq_true rfl) (show decode prog_3_method_1_code 33 = .ok (.putfield 22, 3) from by decide +kernel) (fun H locs hP hD hS => ?_)
  have hP : va_P D mj_kl [(h0, .inr (6, [.null, .ref q7, .ref q15, .ref q23, .ref q31, .null, .int 0])), (q7, .inl (cA .boolean, 60, .inl (fun _ => 0))), (q15, .inl (cA .int, 60, .inl (fun _ => 0))), (q23, .inl (cA .int, 60, .inl (fun _ => 0))), (q31, .inl (cA .int, 60, .inl (fun _ => 0)))] H := hP
  have hD : va_D A [(h0, .inr (6, [.null, .ref q7, .ref q15, .ref q23, .ref q31, .null, .int 0])), (q7, .inl (cA .boolean, 60, .inl (fun _ => 0))), (q15, .inl (cA .int, 60, .inl (fun _ => 0))), (q23, .inl (cA .int, 60, .inl (fun _ => 0))), (q31, .inl (cA .int, 60, .inl (fun _ => 0)))] := hD
  refine lv_aload_n hx hb (show decode prog_3_method_1_code 36 = .ok (.aload_n 0, 1) from by decide +kernel) rfl (lv_at hl 0 rfl) ?_
  refine lv_bipush (v := 60) hx hb (show decode prog_3_method_1_code 37 = .ok (.bipush 60, 2) from by decide +kernel) (by decide) ?_
  refine va_newa (atype := .int) hx hb (hts _ cw_109) (ty := .int) rfl hK hP hD hS hA (N' := 60) (a0 := (60, .inl (fun _ => 0))) (fun _ => rfl) (by decide) (by decide) (by decide) (show 4 + 1 ≤ 5 from by decide) (show 240 + 60 ≤ 300 from by decide) (show decode prog_3_method_1_code 39 = .ok (.newarray .int, 2) from by decide +kernel) (fun q39 c39 H hK1 hP hD hS => ?_)
  obtain rfl := mj_sameA (ty := .int) hK1 hK (by decide)
  refine W.widen (k := 5) (n := 300) (by decide) (by decide) ?_
  have hP : va_P D mj_kl [(h0, .inr (6, [.null, .ref q7, .ref q15, .ref q23, .ref q31, .null, .int 0])), (q7, .inl (cA .boolean, 60, .inl (fun _ => 0))), (q15, .inl (cA .int, 60, .inl (fun _ => 0))), (q23, .inl (cA .int, 60, .inl (fun _ => 0))), (q31, .inl (cA .int, 60, .inl (fun _ => 0))), (q39, .inl (cA .int, 60, .inl (fun _ => 0)))] H := hP
  have hD : va_D A [(h0, .inr (6, [.null, .ref q7, .ref q15, .ref q23, .ref q31, .null, .int 0])), (q7, .inl (cA .boolean, 60, .inl (fun _ => 0))), (q15, .inl (cA .int, 60, .inl (fun _ => 0))), (q23, .inl (cA .int, 60, .inl (fun _ => 0))), (q31, .inl (cA .int, 60, .inl (fun _ => 0))), (q39, .inl (cA .int, 60, .inl (fun _ => 0)))] := hD
  refine va_putF (D := D) (ci := 6) (v := .ref q39) (ty := .array .int) (C := "ListSpeaker$Functions") (T := mjF6) (N := 7) hx hb hts mjw6 mjt6 mjk6 mjn6 hown hK hP hD hS 0 rfl rfl 5 (by decide) (hts _ cw_235) (fun _ h9 => h9) rfl hin rfl (by decide +kernel) rfl rfl (Nat.le_of_ble_eq_true rfl) (show decode prog_3_method_1_code 41 = .ok (.putfield 25, 3) from by decide +kernel) (fun H locs hP hD hS => ?_)
  have hP : va_P D mj_kl [(h0, .inr (6, [.null, .ref q7, .ref q15, .ref q23, .ref q31, .ref q39, .int 0])), (q7, .inl (cA .boolean, 60, .inl (fun _ => 0))), (q15, .inl (cA .int, 60, .inl (fun _ => 0))), (q23, .inl (cA .int, 60, .inl (fun _ => 0))), (q31, .inl (cA .int, 60, .inl (fun _ => 0))), (q39, .inl (cA .int, 60, .inl (fun _ => 0)))] H := hP
  have hD : va_D A [(h0, .inr (6, [.null, .ref q7, .ref q15, .ref q23, .ref q31, .ref q39, .int 0])), (q7, .inl (cA .boolean, 60, .inl (fun _ => 0))), (q15, .inl (cA .int, 60, .inl (fun _ => 0))), (q23, .inl (cA .int, 60, .inl (fun _ => 0))), (q31, .inl (cA .int, 60, .inl (fun _ => 0))), (q39, .inl (cA .int, 60, .inl (fun _ => 0)))] := hD
  refine lv_aload_n hx hb (show decode prog_3_method_1_code 44 = .ok (.aload_n 0, 1) from by decide +kernel) rfl (lv_at hl 0 rfl) ?_
  refine lv_aload_n hx hb (show decode prog_3_method_1_code 45 = .ok (.aload_n 1, 1) from by decide +kernel) rfl (lv_at hl 1 rfl) ?_
  refine va_putF (D := D) (ci := 6) (v := .ref r1) (ty := .object "ListSpeaker$Pairs") (C := "ListSpeaker$Functions") (T := mjF6) (N := 7) hx hb hts mjw6 mjt6 mjk6 mjn6 hown hK hP hD hS 0 rfl rfl 0 (by decide) (hts _ cw_230) (fun _ h9 => h9) rfl hin rfl (by decide +kernel) rfl rfl (Nat.le_of_ble_eq_true rfl) (show decode prog_3_method_1_code 46 = .ok (.putfield 28, 3) from by decide +kernel) (fun H locs hP hD hS => ?_)
  have hP : va_P D mj_kl [(h0, .inr (6, [.ref r1, .ref q7, .ref q15, .ref q23, .ref q31, .ref q39, .int 0])), (q7, .inl (cA .boolean, 60, .inl (fun _ => 0))), (q15, .inl (cA .int, 60, .inl (fun _ => 0))), (q23, .inl (cA .int, 60, .inl (fun _ => 0))), (q31, .inl (cA .int, 60, .inl (fun _ => 0))), (q39, .inl (cA .int, 60, .inl (fun _ => 0)))] H := hP
  have hD : va_D A [(h0, .inr (6, [.ref r1, .ref q7, .ref q15, .ref q23, .ref q31, .ref q39, .int 0])), (q7, .inl (cA .boolean, 60, .inl (fun _ => 0))), (q15, .inl (cA .int, 60, .inl (fun _ => 0))), (q23, .inl (cA .int, 60, .inl (fun _ => 0))), (q31, .inl (cA .int, 60, .inl (fun _ => 0))), (q39, .inl (cA .int, 60, .inl (fun _ => 0)))] := hD
  exact W.vret hx hb hr (fun t ht hW => ⟨⟨(q7, q15, q23, q31, q39), rfl, trivial, by rw [ht]; exact hP, va_K.moved hW.alike hK, hD⟩, hS.F ht⟩) hS.2.2 (show decode prog_3_method_1_code 49 = .ok (.return_, 1) from by decide +kernel)
def y_Machine : MethodName := ({ cls := "ListSpeaker$Machine", name := "<init>", desc := "(LListSpeaker$Pairs;LListSpeaker$Code;LListSpeaker$Functions;)V" } : Jvm.MethodName)
set_option maxRecDepth 20000 in
theorem cwc_Machine : Jvm.Cond.code y_Machine prog_4_method_1_code 4 none ∈ mj_WS := mj_mem 256 rfl rfl
set_option maxHeartbeats 4000000 in
set_option maxRecDepth 100000 in
theorem c_Machine (l : Launch) (D : va_G) (cA : FieldType → ClassId) (h0 sz : Nat) (r1 : Nat) (r2 : Nat) (r3 : Nat) : Met l y_Machine (Jvm.Cond.code y_Machine prog_4_method_1_code 4 none :: mj_WS) ({ frames := 1, cells := 4, slots := 400, locals := 12 }) (va_Pc [.ref h0, .ref r1, .ref r2, .ref r3] (fun U => U.heap.size = sz ∧ va_P D mj_kl [(h0, .inr (7, [.null, .null, .null, .null, .null, .null, .null, .int 0, .int 0, .int 0, .int 0, .int 0, .int 0, .int 0]))] U.heap ∧ va_K D mj_kl (mj_tys cA) U ∧ va_D (fun _ => True) [(h0, .inr (7, [.null, .null, .null, .null, .null, .null, .null, .int 0, .int 0, .int 0, .int 0, .int 0, .int 0, .int 0]))])) (va_Qv (fun _ : Nat × Nat × Nat × Nat => True) (fun u t => va_P D mj_kl [(h0, .inr (7, [.ref r1, .ref r2, .ref r3, .ref u.1, .ref u.2.1, .ref u.2.2.1, .ref u.2.2.2, .int 0, .int 0, .int 0, .int 0, .int 0, .int 0, .int 0])), (u.1, .inl (cA .int, 100, .inl (fun _ => 0))), (u.2.1, .inl (cA .int, 100, .inl (fun _ => 0))), (u.2.2.1, .inl (cA .int, 100, .inl (fun _ => 0))), (u.2.2.2, .inl (cA .int, 100, .inl (fun _ => 0)))] t.heap ∧ va_K D mj_kl (mj_tys cA) t ∧ va_D (va_A [(h0, .inr (7, [.null, .null, .null, .null, .null, .null, .null, .int 0, .int 0, .int 0, .int 0, .int 0, .int 0, .int 0]))] sz) [(h0, .inr (7, [.ref r1, .ref r2, .ref r3, .ref u.1, .ref u.2.1, .ref u.2.2.1, .ref u.2.2.2, .int 0, .int 0, .int 0, .int 0, .int 0, .int 0, .int 0])), (u.1, .inl (cA .int, 100, .inl (fun _ => 0))), (u.2.1, .inl (cA .int, 100, .inl (fun _ => 0))), (u.2.2.1, .inl (cA .int, 100, .inl (fun _ => 0))), (u.2.2.2, .inl (cA .int, 100, .inl (fun _ => 0)))]) (va_A [(h0, .inr (7, [.null, .null, .null, .null, .null, .null, .null, .int 0, .int 0, .int 0, .int 0, .int 0, .int 0, .int 0]))] sz)) 4 400 (va_A [(h0, .inr (7, [.null, .null, .null, .null, .null, .null, .null, .int 0, .int 0, .int 0, .int 0, .int 0, .int 0, .int 0]))] sz) := by
  refine Met.ofW (cc := prog_4_method_1_code) (maxL := 4) (ret := none) (by decide) rfl ?_
  intro p e s m args below meth c s₁ B hml hv
  obtain ⟨rfl, hsz, hP, hK, hD0⟩ := hv
  have hx := B.exec
  have hb := B.bytes
  have hr := B.returns
  have hts0 := atoms_spec (ws := Jvm.Cond.code y_Machine prog_4_method_1_code 4 none :: mj_WS) B.pre
  have hts : ∀ w ∈ mj_WS, w.before _ s = true := fun w hw => hts0 w (List.mem_cons_of_mem _ hw)
  have hown : s.vm.findClass "ListSpeaker$Machine" = some m.cls := findClass_of_methodNamed B.named
  have hlocks := B.notSynchronized
  have hin : meth.name = "<init>" := (name_of_methodNamed B.named B.method).1
  subst hsz
  have hD := hD0.self (sz := s.heap.size)
  generalize hAe : va_A [(h0, .inr (7, [.null, .null, .null, .null, .null, .null, .null, .int 0, .int 0, .int 0, .int 0, .int 0, .int 0, .int 0]))] s.heap.size = A at hD ⊢
  have hA : ∀ q : Nat, s.heap.size ≤ q → A q := fun q h => by rw [← hAe]; exact Or.inr h
  have hS : va_S A s.heap s.heap [] := va_S.rf
  have hP : va_P D mj_kl [(h0, .inr (7, [.null, .null, .null, .null, .null, .null, .null, .int 0, .int 0, .int 0, .int 0, .int 0, .int 0, .int 0]))] s.heap := hP
  have hl := lv_entry ([.ref h0, .ref r1, .ref r2, .ref r3]) (n := 4) (Nat.le_of_ble_eq_true rfl)
  rw [lg_entry_eq]
  generalize (lg_sl ([.ref h0, .ref r1, .ref r2, .ref r3]) ++ List.replicate (4 - (lg_sl ([.ref h0, .ref r1, .ref r2, .ref r3])).length) Slot.unset).toArray = ls at hl ⊢
  have hl : lv_has ls 4 [(0, .ref h0), (1, .ref r1), (2, .ref r2), (3, .ref r3)] := hl
  refine lv_aload_n hx hb (show decode prog_4_method_1_code 0 = .ok (.aload_n 0, 1) from by decide +kernel) rfl (lv_at hl 0 rfl) ?_
  refine W.objInit hx hb hown (hts _ cw_257) (hts _ cw_28) (hts _ cw_29) rfl (by rw [hml]; exact hl.1) rfl (show decode prog_4_method_1_code 1 = .ok (.invokespecial 3, 3) from by decide +kernel) (Nat.le_of_ble_eq_true rfl) (Nat.le_of_ble_eq_true rfl) ?_
  refine W.eq (g2 := F0 m 4 ls []) rfl ?_
  refine lv_aload_n hx hb (show decode prog_4_method_1_code 4 = .ok (.aload_n 0, 1) from by decide +kernel) rfl (lv_at hl 0 rfl) ?_
  refine lv_bipush (v := 100) hx hb (show decode prog_4_method_1_code 5 = .ok (.bipush 100, 2) from by decide +kernel) (by decide) ?_
  refine va_newa (atype := .int) hx hb (hts _ cw_109) (ty := .int) rfl hK hP hD hS hA (N' := 100) (a0 := (100, .inl (fun _ => 0))) (fun _ => rfl) (by decide) (by decide) (by decide) (show 0 + 1 ≤ 4 from by decide) (show 0 + 100 ≤ 400 from by decide) (show decode prog_4_method_1_code 7 = .ok (.newarray .int, 2) from by decide +kernel) (fun q7 c7 H hK1 hP hD hS => ?_)
  obtain rfl := mj_sameA (ty := .int) hK1 hK (by decide)
  refine W.widen (k := 1) (n := 100) (by decide) (by decide) ?_
  have hP : va_P D mj_kl [(h0, .inr (7, [.null, .null, .null, .null, .null, .null, .null, .int 0, .int 0, .int 0, .int 0, .int 0, .int 0, .int 0])), (q7, .inl (cA .int, 100, .inl (fun _ => 0)))] H := hP
  have hD : va_D A [(h0, .inr (7, [.null, .null, .null, .null, .null, .null, .null, .int 0, .int 0, .int 0, .int 0, .int 0, .int 0, .int 0])), (q7, .inl (cA .int, 100, .inl (fun _ => 0)))] := hD
  refine va_putF (D := D) (ci := 7) (v := .ref q7) (ty := .array .int) (C := "ListSpeaker$Machine") (T := mjF7) (N := 14) hx hb hts mjw7 mjt7 mjk7 mjn7 hown hK hP hD hS 0 rfl rfl 3 (by decide) (hts _ cw_261) (fun _ h9 => h9) rfl hin rfl (by decide +kernel) rfl rfl (Nat.le_of_ble_eq_true rfl) (show decode prog_4_method_1_code 9 = .ok (.putfield 9, 3) from by decide +kernel) (fun H locs hP hD hS => ?_)
  have hP : va_P D mj_kl [(h0, .inr (7, [.null, .null, .null, .ref q7, .null, .null, .null, .int 0, .int 0, .int 0, .int 0, .int 0, .int 0, .int 0])), (q7, .inl (cA .int, 100, .inl (fun _ => 0)))] H := hP
  have hD : va_D A [(h0, .inr (7, [.null, .null, .null, .ref q7, .null, .null, .null, .int 0, .int 0, .int 0, .int 0, .int 0, .int 0, .int 0])), (q7, .inl (cA .int, 100, .inl (fun _ => 0)))] := hD
  refine lv_aload_n hx hb (show decode prog_4_method_1_code 12 = .ok (.aload_n 0, 1) from by decide +kernel) rfl (lv_at hl 0 rfl) ?_
  refine lv_bipush (v := 100) hx hb (show decode prog_4_method_1_code 13 = .ok (.bipush 100, 2) from by decide +kernel) (by decide) ?_
  refine va_newa (atype := .int) hx hb (hts _ cw_109) (ty := .int) rfl hK hP hD hS hA (N' := 100) (a0 := (100, .inl (fun _ => 0))) (fun _ => rfl) (by decide) (by decide) (by decide) (show 1 + 1 ≤ 4 from by decide) (show 100 + 100 ≤ 400 from by decide) (show decode prog_4_method_1_code 15 = .ok (.newarray .int, 2) from by decide +kernel) (fun q15 c15 H hK1 hP hD hS => ?_)
  obtain rfl := mj_sameA (ty := .int) hK1 hK (by decide)
  refine W.widen (k := 2) (n := 200) (by decide) (by decide) ?_
  have hP : va_P D mj_kl [(h0, .inr (7, [.null, .null, .null, .ref q7, .null, .null, .null, .int 0, .int 0, .int 0, .int 0, .int 0, .int 0, .int 0])), (q7, .inl (cA .int, 100, .inl (fun _ => 0))), (q15, .inl (cA .int, 100, .inl (fun _ => 0)))] H := hP
  have hD : va_D A [(h0, .inr (7, [.null, .null, .null, .ref q7, .null, .null, .null, .int 0, .int 0, .int 0, .int 0, .int 0, .int 0, .int 0])), (q7, .inl (cA .int, 100, .inl (fun _ => 0))), (q15, .inl (cA .int, 100, .inl (fun _ => 0)))] := hD
  refine va_putF (D := D) (ci := 7) (v := .ref q15) (ty := .array .int) (C := "ListSpeaker$Machine") (T := mjF7) (N := 14) hx hb hts mjw7 mjt7 mjk7 mjn7 hown hK hP hD hS 0 rfl rfl 4 (by decide) (hts _ cw_262) (fun _ h9 => h9) rfl hin rfl (by decide +kernel) rfl rfl (Nat.le_of_ble_eq_true rfl) (show decode prog_4_method_1_code 17 = .ok (.putfield 15, 3) from by decide +kernel) (fun H locs hP hD hS => ?_)
  have hP : va_P D mj_kl [(h0, .inr (7, [.null, .null, .null, .ref q7, .ref q15, .null, .null, .int 0, .int 0, .int 0, .int 0, .int 0, .int 0, .int 0])), (q7, .inl (cA .int, 100, .inl (fun _ => 0))), (q15, .inl (cA .int, 100, .inl (fun _ => 0)))] H := hP
  have hD : va_D A [(h0, .inr (7, [.null, .null, .null, .ref q7, .ref q15, .null, .null, .int 0, .int 0, .int 0, .int 0, .int 0, .int 0, .int 0])), (q7, .inl (cA .int, 100, .inl (fun _ => 0))), (q15, .inl (cA .int, 100, .inl (fun _ => 0)))] := hD
  refine lv_aload_n hx hb (show decode prog_4_method_1_code 20 = .ok (.aload_n 0, 1) from by decide +kernel) rfl (lv_at hl 0 rfl) ?_
  refine lv_bipush (v := 100) hx hb (show decode prog_4_method_1_code 21 = .ok (.bipush 100, 2) from by decide +kernel) (by decide) ?_
  refine va_newa (atype := .int) hx hb (hts _ cw_109) (ty := .int) rfl hK hP hD hS hA (N' := 100) (a0 := (100, .inl (fun _ => 0))) (fun _ => rfl) (by decide) (by decide) (by decide) (show 2 + 1 ≤ 4 from by decide) (show 200 + 100 ≤ 400 from by decide) (show decode prog_4_method_1_code 23 = .ok (.newarray .int, 2) from by decide +kernel) (fun q23 c23 H hK1 hP hD hS => ?_)
  obtain rfl := mj_sameA (ty := .int) hK1 hK (by decide)
  refine W.widen (k := 3) (n := 300) (by decide) (by decide) ?_
  have hP : va_P D mj_kl [(h0, .inr (7, [.null, .null, .null, .ref q7, .ref q15, .null, .null, .int 0, .int 0, .int 0, .int 0, .int 0, .int 0, .int 0])), (q7, .inl (cA .int, 100, .inl (fun _ => 0))), (q15, .inl (cA .int, 100, .inl (fun _ => 0))), (q23, .inl (cA .int, 100, .inl (fun _ => 0)))] H := hP
  have hD : va_D A [(h0, .inr (7, [.null, .null, .null, .ref q7, .ref q15, .null, .null, .int 0, .int 0, .int 0, .int 0, .int 0, .int 0, .int 0])), (q7, .inl (cA .int, 100, .inl (fun _ => 0))), (q15, .inl (cA .int, 100, .inl (fun _ => 0))), (q23, .inl (cA .int, 100, .inl (fun _ => 0)))] := hD
  refine va_putF (D := D) (ci := 7) (v := .ref q23) (ty := .array .int) (C := "ListSpeaker$Machine") (T := mjF7) (N := 14) hx hb hts mjw7 mjt7 mjk7 mjn7 hown hK hP hD hS 0 rfl rfl 5 (by decide) (hts _ cw_263) (fun _ h9 => h9) rfl hin rfl (by decide +kernel) rfl rfl (Nat.le_of_ble_eq_true rfl) (show decode prog_4_method_1_code 25 = .ok (.putfield 18, 3) from by decide +kernel) (fun H locs hP hD hS => ?_)
  have hP : va_P D mj_kl [(h0, .inr (7, [.null, .null, .null, .ref q7, .ref q15, .ref q23, .null, .int 0, .int 0, .int 0, .int 0, .int 0, .int 0, .int 0])), (q7, .inl (cA .int, 100, .inl (fun _ => 0))), (q15, .inl (cA .int, 100, .inl (fun _ => 0))), (q23, .inl (cA .int, 100, .inl (fun _ => 0)))] H := hP
  have hD : va_D A [(h0, .inr (7, [.null, .null, .null, .ref q7, .ref q15, .ref q23, .null, .int 0, .int 0, .int 0, .int 0, .int 0, .int 0, .int 0])), (q7, .inl (cA .int, 100, .inl (fun _ => 0))), (q15, .inl (cA .int, 100, .inl (fun _ => 0))), (q23, .inl (cA .int, 100, .inl (fun _ => 0)))] := hD
  refine lv_aload_n hx hb (show decode prog_4_method_1_code 28 = .ok (.aload_n 0, 1) from by decide +kernel) rfl (lv_at hl 0 rfl) ?_
  refine lv_bipush (v := 100) hx hb (show decode prog_4_method_1_code 29 = .ok (.bipush 100, 2) from by decide +kernel) (by decide) ?_
  refine va_newa (atype := .int) hx hb (hts _ cw_109) (ty := .int) rfl hK hP hD hS hA (N' := 100) (a0 := (100, .inl (fun _ => 0))) (fun _ => rfl) (by decide) (by decide) (by decide) (show 3 + 1 ≤ 4 from by decide) (show 300 + 100 ≤ 400 from by decide) (show decode prog_4_method_1_code 31 = .ok (.newarray .int, 2) from by decide +kernel) (fun q31 c31 H hK1 hP hD hS => ?_)
  obtain rfl := mj_sameA (ty := .int) hK1 hK (by decide)
  refine W.widen (k := 4) (n := 400) (by decide) (by decide) ?_
  have hP : va_P D mj_kl [(h0, .inr (7, [.null, .null, .null, .ref q7, .ref q15, .ref q23, .null, .int 0, .int 0, .int 0, .int 0, .int 0, .int 0, .int 0])), (q7, .inl (cA .int, 100, .inl (fun _ => 0))), (q15, .inl (cA .int, 100, .inl (fun _ => 0))), (q23, .inl (cA .int, 100, .inl (fun _ => 0))), (q31, .inl (cA .int, 100, .inl (fun _ => 0)))] H := hP
  have hD : va_D A [(h0, .inr (7, [.null, .null, .null, .ref q7, .ref q15, .ref q23, .null, .int 0, .int 0, .int 0, .int 0, .int 0, .int 0, .int 0])), (q7, .inl (cA .int, 100, .inl (fun _ => 0))), (q15, .inl (cA .int, 100, .inl (fun _ => 0))), (q23, .inl (cA .int, 100, .inl (fun _ => 0))), (q31, .inl (cA .int, 100, .inl (fun _ => 0)))] := hD
  refine va_putF (D := D) (ci := 7) (v := .ref q31) (ty := .array .int) (C := "ListSpeaker$Machine") (T := mjF7) (N := 14) hx hb hts mjw7 mjt7 mjk7 mjn7 hown hK hP hD hS 0 rfl rfl 6 (by decide) (hts _ cw_264) (fun _ h9 => h9) rfl hin rfl (by decide +kernel) rfl rfl (Nat.le_of_ble_eq_true rfl) (show decode prog_4_method_1_code 33 = .ok (.putfield 21, 3) from by decide +kernel) (fun H locs hP hD hS => ?_)
  have hP : va_P D mj_kl [(h0, .inr (7, [.null, .null, .null, .ref q7, .ref q15, .ref q23, .ref q31, .int 0, .int 0, .int 0, .int 0, .int 0, .int 0, .int 0])), (q7, .inl (cA .int, 100, .inl (fun _ => 0))), (q15, .inl (cA .int, 100, .inl (fun _ => 0))), (q23, .inl (cA .int, 100, .inl (fun _ => 0))), (q31, .inl (cA .int, 100, .inl (fun _ => 0)))] H := hP
  have hD : va_D A [(h0, .inr (7, [.null, .null, .null, .ref q7, .ref q15, .ref q23, .ref q31, .int 0, .int 0, .int 0, .int 0, .int 0, .int 0, .int 0])), (q7, .inl (cA .int, 100, .inl (fun _ => 0))), (q15, .inl (cA .int, 100, .inl (fun _ => 0))), (q23, .inl (cA .int, 100, .inl (fun _ => 0))), (q31, .inl (cA .int, 100, .inl (fun _ => 0)))] := hD
  refine lv_aload_n hx hb (show decode prog_4_method_1_code 36 = .ok (.aload_n 0, 1) from by decide +kernel) rfl (lv_at hl 0 rfl) ?_
  refine lv_aload_n hx hb (show decode prog_4_method_1_code 37 = .ok (.aload_n 1, 1) from by decide +kernel) rfl (lv_at hl 1 rfl) ?_
  refine va_putF (D := D) (ci := 7) (v := .ref r1) (ty := .object "ListSpeaker$Pairs") (C := "ListSpeaker$Machine") (T := mjF7) (N := 14) hx hb hts mjw7 mjt7 mjk7 mjn7 hown hK hP hD hS 0 rfl rfl 0 (by decide) (hts _ cw_258) (fun _ h9 => h9) rfl hin rfl (by decide +kernel) rfl rfl (Nat.le_of_ble_eq_true rfl) (show decode prog_4_method_1_code 38 = .ok (.putfield 24, 3) from by decide +kernel) (fun H locs hP hD hS => ?_)
  have hP : va_P D mj_kl [(h0, .inr (7, [.ref r1, .null, .null, .ref q7, .ref q15, .ref q23, .ref q31, .int 0, .int 0, .int 0, .int 0, .int 0, .int 0, .int 0])), (q7, .inl (cA .int, 100, .inl (fun _ => 0))), (q15, .inl (cA .int, 100, .inl (fun _ => 0))), (q23, .inl (cA .int, 100, .inl (fun _ => 0))), (q31, .inl (cA .int, 100, .inl (fun _ => 0)))] H := hP
  have hD : va_D A [(h0, .inr (7, [.ref r1, .null, .null, .ref q7, .ref q15, .ref q23, .ref q31, .int 0, .int 0, .int 0, .int 0, .int 0, .int 0, .int 0])), (q7, .inl (cA .int, 100, .inl (fun _ => 0))), (q15, .inl (cA .int, 100, .inl (fun _ => 0))), (q23, .inl (cA .int, 100, .inl (fun _ => 0))), (q31, .inl (cA .int, 100, .inl (fun _ => 0)))] := hD
  refine lv_aload_n hx hb (show decode prog_4_method_1_code 41 = .ok (.aload_n 0, 1) from by decide +kernel) rfl (lv_at hl 0 rfl) ?_
  refine lv_aload_n hx hb (show decode prog_4_method_1_code 42 = .ok (.aload_n 2, 1) from by decide +kernel) rfl (lv_at hl 2 rfl) ?_
  refine va_putF (D := D) (ci := 7) (v := .ref r2) (ty := .object "ListSpeaker$Code") (C := "ListSpeaker$Machine") (T := mjF7) (N := 14) hx hb hts mjw7 mjt7 mjk7 mjn7 hown hK hP hD hS 0 rfl rfl 1 (by decide) (hts _ cw_259) (fun _ h9 => h9) rfl hin rfl (by decide +kernel) rfl rfl (Nat.le_of_ble_eq_true rfl) (show decode prog_4_method_1_code 43 = .ok (.putfield 28, 3) from by decide +kernel) (fun H locs hP hD hS => ?_)
  have hP : va_P D mj_kl [(h0, .inr (7, [.ref r1, .ref r2, .null, .ref q7, .ref q15, .ref q23, .ref q31, .int 0, .int 0, .int 0, .int 0, .int 0, .int 0, .int 0])), (q7, .inl (cA .int, 100, .inl (fun _ => 0))), (q15, .inl (cA .int, 100, .inl (fun _ => 0))), (q23, .inl (cA .int, 100, .inl (fun _ => 0))), (q31, .inl (cA .int, 100, .inl (fun _ => 0)))] H := hP
  have hD : va_D A [(h0, .inr (7, [.ref r1, .ref r2, .null, .ref q7, .ref q15, .ref q23, .ref q31, .int 0, .int 0, .int 0, .int 0, .int 0, .int 0, .int 0])), (q7, .inl (cA .int, 100, .inl (fun _ => 0))), (q15, .inl (cA .int, 100, .inl (fun _ => 0))), (q23, .inl (cA .int, 100, .inl (fun _ => 0))), (q31, .inl (cA .int, 100, .inl (fun _ => 0)))] := hD
  refine lv_aload_n hx hb (show decode prog_4_method_1_code 46 = .ok (.aload_n 0, 1) from by decide +kernel) rfl (lv_at hl 0 rfl) ?_
  refine lv_aload_n hx hb (show decode prog_4_method_1_code 47 = .ok (.aload_n 3, 1) from by decide +kernel) rfl (lv_at hl 3 rfl) ?_
  refine va_putF (D := D) (ci := 7) (v := .ref r3) (ty := .object "ListSpeaker$Functions") (C := "ListSpeaker$Machine") (T := mjF7) (N := 14) hx hb hts mjw7 mjt7 mjk7 mjn7 hown hK hP hD hS 0 rfl rfl 2 (by decide) (hts _ cw_260) (fun _ h9 => h9) rfl hin rfl (by decide +kernel) rfl rfl (Nat.le_of_ble_eq_true rfl) (show decode prog_4_method_1_code 48 = .ok (.putfield 32, 3) from by decide +kernel) (fun H locs hP hD hS => ?_)
  have hP : va_P D mj_kl [(h0, .inr (7, [.ref r1, .ref r2, .ref r3, .ref q7, .ref q15, .ref q23, .ref q31, .int 0, .int 0, .int 0, .int 0, .int 0, .int 0, .int 0])), (q7, .inl (cA .int, 100, .inl (fun _ => 0))), (q15, .inl (cA .int, 100, .inl (fun _ => 0))), (q23, .inl (cA .int, 100, .inl (fun _ => 0))), (q31, .inl (cA .int, 100, .inl (fun _ => 0)))] H := hP
  have hD : va_D A [(h0, .inr (7, [.ref r1, .ref r2, .ref r3, .ref q7, .ref q15, .ref q23, .ref q31, .int 0, .int 0, .int 0, .int 0, .int 0, .int 0, .int 0])), (q7, .inl (cA .int, 100, .inl (fun _ => 0))), (q15, .inl (cA .int, 100, .inl (fun _ => 0))), (q23, .inl (cA .int, 100, .inl (fun _ => 0))), (q31, .inl (cA .int, 100, .inl (fun _ => 0)))] := hD
  exact W.vret hx hb hr (fun t ht hW => ⟨⟨(q7, q15, q23, q31), rfl, trivial, by rw [ht]; exact hP, va_K.moved hW.alike hK, hD⟩, hS.F ht⟩) hS.2.2 (show decode prog_4_method_1_code 51 = .ok (.return_, 1) from by decide +kernel)
def y_Paper : MethodName := ({ cls := "ListSpeaker$Paper", name := "<init>", desc := "(LListSpeaker$Symbols;LListSpeaker$Pairs;)V" } : Jvm.MethodName)
set_option maxRecDepth 20000 in
theorem cwc_Paper : Jvm.Cond.code y_Paper prog_7_method_1_code 3 none ∈ mj_WS := mj_mem 305 rfl rfl
set_option maxHeartbeats 4000000 in
set_option maxRecDepth 100000 in
theorem c_Paper (l : Launch) (D : va_G) (cA : FieldType → ClassId) (h0 sz : Nat) (r1 : Nat) (r2 : Nat) : Met l y_Paper (Jvm.Cond.code y_Paper prog_7_method_1_code 3 none :: mj_WS) ({ frames := 1, cells := 2, slots := 1002, locals := 12 }) (va_Pc [.ref h0, .ref r1, .ref r2] (fun U => U.heap.size = sz ∧ va_P D mj_kl [(h0, .inr (8, [.null, .null, .null, .null, .int 0, .int 0]))] U.heap ∧ va_K D mj_kl (mj_tys cA) U ∧ va_D (fun _ => True) [(h0, .inr (8, [.null, .null, .null, .null, .int 0, .int 0]))])) (va_Qv (fun _ : Nat × Nat => True) (fun u t => va_P D mj_kl [(h0, .inr (8, [.ref r1, .ref r2, .ref u.1, .ref u.2, .int 0, .int 0])), (u.1, .inl (cA .char, 400, .inl (fun _ => 0))), (u.2, .inl (cA .int, 602, .inl (fun _ => 0)))] t.heap ∧ va_K D mj_kl (mj_tys cA) t ∧ va_D (va_A [(h0, .inr (8, [.null, .null, .null, .null, .int 0, .int 0]))] sz) [(h0, .inr (8, [.ref r1, .ref r2, .ref u.1, .ref u.2, .int 0, .int 0])), (u.1, .inl (cA .char, 400, .inl (fun _ => 0))), (u.2, .inl (cA .int, 602, .inl (fun _ => 0)))]) (va_A [(h0, .inr (8, [.null, .null, .null, .null, .int 0, .int 0]))] sz)) 2 1002 (va_A [(h0, .inr (8, [.null, .null, .null, .null, .int 0, .int 0]))] sz) := by
  refine Met.ofW (cc := prog_7_method_1_code) (maxL := 3) (ret := none) (by decide) rfl ?_
  intro p e s m args below meth c s₁ B hml hv
  obtain ⟨rfl, hsz, hP, hK, hD0⟩ := hv
  have hx := B.exec
  have hb := B.bytes
  have hr := B.returns
  have hts0 := atoms_spec (ws := Jvm.Cond.code y_Paper prog_7_method_1_code 3 none :: mj_WS) B.pre
  have hts : ∀ w ∈ mj_WS, w.before _ s = true := fun w hw => hts0 w (List.mem_cons_of_mem _ hw)
  have hown : s.vm.findClass "ListSpeaker$Paper" = some m.cls := findClass_of_methodNamed B.named
  have hlocks := B.notSynchronized
  have hin : meth.name = "<init>" := (name_of_methodNamed B.named B.method).1
  subst hsz
  have hD := hD0.self (sz := s.heap.size)
  generalize hAe : va_A [(h0, .inr (8, [.null, .null, .null, .null, .int 0, .int 0]))] s.heap.size = A at hD ⊢
  have hA : ∀ q : Nat, s.heap.size ≤ q → A q := fun q h => by rw [← hAe]; exact Or.inr h
  have hS : va_S A s.heap s.heap [] := va_S.rf
  have hP : va_P D mj_kl [(h0, .inr (8, [.null, .null, .null, .null, .int 0, .int 0]))] s.heap := hP
  have hl := lv_entry ([.ref h0, .ref r1, .ref r2]) (n := 3) (Nat.le_of_ble_eq_true rfl)
  rw [lg_entry_eq]
  generalize (lg_sl ([.ref h0, .ref r1, .ref r2]) ++ List.replicate (3 - (lg_sl ([.ref h0, .ref r1, .ref r2])).length) Slot.unset).toArray = ls at hl ⊢
  have hl : lv_has ls 3 [(0, .ref h0), (1, .ref r1), (2, .ref r2)] := hl
  refine lv_aload_n hx hb (show decode prog_7_method_1_code 0 = .ok (.aload_n 0, 1) from by decide +kernel) rfl (lv_at hl 0 rfl) ?_
  refine W.objInit hx hb hown (hts _ cw_306) (hts _ cw_28) (hts _ cw_29) rfl (by rw [hml]; exact hl.1) rfl (show decode prog_7_method_1_code 1 = .ok (.invokespecial 3, 3) from by decide +kernel) (Nat.le_of_ble_eq_true rfl) (Nat.le_of_ble_eq_true rfl) ?_
  refine W.eq (g2 := F0 m 4 ls []) rfl ?_
  refine lv_aload_n hx hb (show decode prog_7_method_1_code 4 = .ok (.aload_n 0, 1) from by decide +kernel) rfl (lv_at hl 0 rfl) ?_
  refine lv_sipush (v := 400) hx hb (show decode prog_7_method_1_code 5 = .ok (.sipush 400, 3) from by decide +kernel) (by decide) ?_
  refine va_newa (atype := .char) hx hb (hts _ cw_108) (ty := .char) rfl hK hP hD hS hA (N' := 400) (a0 := (400, .inl (fun _ => 0))) (fun _ => rfl) (by decide) (by decide) (by decide) (show 0 + 1 ≤ 2 from by decide) (show 0 + 400 ≤ 1002 from by decide) (show decode prog_7_method_1_code 8 = .ok (.newarray .char, 2) from by decide +kernel) (fun q8 c8 H hK1 hP hD hS => ?_)
  obtain rfl := mj_sameA (ty := .char) hK1 hK (by decide)
  refine W.widen (k := 1) (n := 400) (by decide) (by decide) ?_
  have hP : va_P D mj_kl [(h0, .inr (8, [.null, .null, .null, .null, .int 0, .int 0])), (q8, .inl (cA .char, 400, .inl (fun _ => 0)))] H := hP
  have hD : va_D A [(h0, .inr (8, [.null, .null, .null, .null, .int 0, .int 0])), (q8, .inl (cA .char, 400, .inl (fun _ => 0)))] := hD
  refine va_putF (D := D) (ci := 8) (v := .ref q8) (ty := .array .char) (C := "ListSpeaker$Paper") (T := mjF8) (N := 6) hx hb hts mjw8 mjt8 mjk8 mjn8 hown hK hP hD hS 0 rfl rfl 2 (by decide) (hts _ cw_309) (fun _ h9 => h9) rfl hin rfl (by decide +kernel) rfl rfl (Nat.le_of_ble_eq_true rfl) (show decode prog_7_method_1_code 10 = .ok (.putfield 9, 3) from by decide +kernel) (fun H locs hP hD hS => ?_)
  have hP : va_P D mj_kl [(h0, .inr (8, [.null, .null, .ref q8, .null, .int 0, .int 0])), (q8, .inl (cA .char, 400, .inl (fun _ => 0)))] H := hP
  have hD : va_D A [(h0, .inr (8, [.null, .null, .ref q8, .null, .int 0, .int 0])), (q8, .inl (cA .char, 400, .inl (fun _ => 0)))] := hD
  refine lv_aload_n hx hb (show decode prog_7_method_1_code 13 = .ok (.aload_n 0, 1) from by decide +kernel) rfl (lv_at hl 0 rfl) ?_
  refine lv_sipush (v := 602) hx hb (show decode prog_7_method_1_code 14 = .ok (.sipush 602, 3) from by decide +kernel) (by decide) ?_
  refine va_newa (atype := .int) hx hb (hts _ cw_109) (ty := .int) rfl hK hP hD hS hA (N' := 602) (a0 := (602, .inl (fun _ => 0))) (fun _ => rfl) (by decide) (by decide) (by decide) (show 1 + 1 ≤ 2 from by decide) (show 400 + 602 ≤ 1002 from by decide) (show decode prog_7_method_1_code 17 = .ok (.newarray .int, 2) from by decide +kernel) (fun q17 c17 H hK1 hP hD hS => ?_)
  obtain rfl := mj_sameA (ty := .int) hK1 hK (by decide)
  refine W.widen (k := 2) (n := 1002) (by decide) (by decide) ?_
  have hP : va_P D mj_kl [(h0, .inr (8, [.null, .null, .ref q8, .null, .int 0, .int 0])), (q8, .inl (cA .char, 400, .inl (fun _ => 0))), (q17, .inl (cA .int, 602, .inl (fun _ => 0)))] H := hP
  have hD : va_D A [(h0, .inr (8, [.null, .null, .ref q8, .null, .int 0, .int 0])), (q8, .inl (cA .char, 400, .inl (fun _ => 0))), (q17, .inl (cA .int, 602, .inl (fun _ => 0)))] := hD
  refine va_putF (D := D) (ci := 8) (v := .ref q17) (ty := .array .int) (C := "ListSpeaker$Paper") (T := mjF8) (N := 6) hx hb hts mjw8 mjt8 mjk8 mjn8 hown hK hP hD hS 0 rfl rfl 3 (by decide) (hts _ cw_310) (fun _ h9 => h9) rfl hin rfl (by decide +kernel) rfl rfl (Nat.le_of_ble_eq_true rfl) (show decode prog_7_method_1_code 19 = .ok (.putfield 15, 3) from by decide +kernel) (fun H locs hP hD hS => ?_)
  have hP : va_P D mj_kl [(h0, .inr (8, [.null, .null, .ref q8, .ref q17, .int 0, .int 0])), (q8, .inl (cA .char, 400, .inl (fun _ => 0))), (q17, .inl (cA .int, 602, .inl (fun _ => 0)))] H := hP
  have hD : va_D A [(h0, .inr (8, [.null, .null, .ref q8, .ref q17, .int 0, .int 0])), (q8, .inl (cA .char, 400, .inl (fun _ => 0))), (q17, .inl (cA .int, 602, .inl (fun _ => 0)))] := hD
  refine lv_aload_n hx hb (show decode prog_7_method_1_code 22 = .ok (.aload_n 0, 1) from by decide +kernel) rfl (lv_at hl 0 rfl) ?_
  refine lv_aload_n hx hb (show decode prog_7_method_1_code 23 = .ok (.aload_n 1, 1) from by decide +kernel) rfl (lv_at hl 1 rfl) ?_
  refine va_putF (D := D) (ci := 8) (v := .ref r1) (ty := .object "ListSpeaker$Symbols") (C := "ListSpeaker$Paper") (T := mjF8) (N := 6) hx hb hts mjw8 mjt8 mjk8 mjn8 hown hK hP hD hS 0 rfl rfl 0 (by decide) (hts _ cw_307) (fun _ h9 => h9) rfl hin rfl (by decide +kernel) rfl rfl (Nat.le_of_ble_eq_true rfl) (show decode prog_7_method_1_code 24 = .ok (.putfield 19, 3) from by decide +kernel) (fun H locs hP hD hS => ?_)
  have hP : va_P D mj_kl [(h0, .inr (8, [.ref r1, .null, .ref q8, .ref q17, .int 0, .int 0])), (q8, .inl (cA .char, 400, .inl (fun _ => 0))), (q17, .inl (cA .int, 602, .inl (fun _ => 0)))] H := hP
  have hD : va_D A [(h0, .inr (8, [.ref r1, .null, .ref q8, .ref q17, .int 0, .int 0])), (q8, .inl (cA .char, 400, .inl (fun _ => 0))), (q17, .inl (cA .int, 602, .inl (fun _ => 0)))] := hD
  refine lv_aload_n hx hb (show decode prog_7_method_1_code 27 = .ok (.aload_n 0, 1) from by decide +kernel) rfl (lv_at hl 0 rfl) ?_
  refine lv_aload_n hx hb (show decode prog_7_method_1_code 28 = .ok (.aload_n 2, 1) from by decide +kernel) rfl (lv_at hl 2 rfl) ?_
  refine va_putF (D := D) (ci := 8) (v := .ref r2) (ty := .object "ListSpeaker$Pairs") (C := "ListSpeaker$Paper") (T := mjF8) (N := 6) hx hb hts mjw8 mjt8 mjk8 mjn8 hown hK hP hD hS 0 rfl rfl 1 (by decide) (hts _ cw_308) (fun _ h9 => h9) rfl hin rfl (by decide +kernel) rfl rfl (Nat.le_of_ble_eq_true rfl) (show decode prog_7_method_1_code 29 = .ok (.putfield 23, 3) from by decide +kernel) (fun H locs hP hD hS => ?_)
  have hP : va_P D mj_kl [(h0, .inr (8, [.ref r1, .ref r2, .ref q8, .ref q17, .int 0, .int 0])), (q8, .inl (cA .char, 400, .inl (fun _ => 0))), (q17, .inl (cA .int, 602, .inl (fun _ => 0)))] H := hP
  have hD : va_D A [(h0, .inr (8, [.ref r1, .ref r2, .ref q8, .ref q17, .int 0, .int 0])), (q8, .inl (cA .char, 400, .inl (fun _ => 0))), (q17, .inl (cA .int, 602, .inl (fun _ => 0)))] := hD
  exact W.vret hx hb hr (fun t ht hW => ⟨⟨(q8, q17), rfl, trivial, by rw [ht]; exact hP, va_K.moved hW.alike hK, hD⟩, hS.F ht⟩) hS.2.2 (show decode prog_7_method_1_code 32 = .ok (.return_, 1) from by decide +kernel)
def y_Reader : MethodName := ({ cls := "ListSpeaker$Reader", name := "<init>", desc := "(LListSpeaker$Symbols;LListSpeaker$Pairs;)V" } : Jvm.MethodName)
set_option maxRecDepth 20000 in
theorem cwc_Reader : Jvm.Cond.code y_Reader prog_8_method_1_code 3 none ∈ mj_WS := mj_mem 165 rfl rfl
set_option maxHeartbeats 4000000 in
set_option maxRecDepth 100000 in
theorem c_Reader (l : Launch) (D : va_G) (cA : FieldType → ClassId) (h0 sz : Nat) (r1 : Nat) (r2 : Nat) : Met l y_Reader (Jvm.Cond.code y_Reader prog_8_method_1_code 3 none :: mj_WS) ({ frames := 1, cells := 1, slots := 300, locals := 12 }) (va_Pc [.ref h0, .ref r1, .ref r2] (fun U => U.heap.size = sz ∧ va_P D mj_kl [(h0, .inr (3, [.null, .null, .null, .int 0, .int 0]))] U.heap ∧ va_K D mj_kl (mj_tys cA) U ∧ va_D (fun _ => True) [(h0, .inr (3, [.null, .null, .null, .int 0, .int 0]))])) (va_Qv (fun _ : Nat => True) (fun u t => va_P D mj_kl [(h0, .inr (3, [.ref r1, .ref r2, .ref u, .int 0, .int 0])), (u, .inl (cA .char, 300, .inl (fun _ => 0)))] t.heap ∧ va_K D mj_kl (mj_tys cA) t ∧ va_D (va_A [(h0, .inr (3, [.null, .null, .null, .int 0, .int 0]))] sz) [(h0, .inr (3, [.ref r1, .ref r2, .ref u, .int 0, .int 0])), (u, .inl (cA .char, 300, .inl (fun _ => 0)))]) (va_A [(h0, .inr (3, [.null, .null, .null, .int 0, .int 0]))] sz)) 1 300 (va_A [(h0, .inr (3, [.null, .null, .null, .int 0, .int 0]))] sz) := by
  refine Met.ofW (cc := prog_8_method_1_code) (maxL := 3) (ret := none) (by decide) rfl ?_
  intro p e s m args below meth c s₁ B hml hv
  obtain ⟨rfl, hsz, hP, hK, hD0⟩ := hv
  have hx := B.exec
  have hb := B.bytes
  have hr := B.returns
  have hts0 := atoms_spec (ws := Jvm.Cond.code y_Reader prog_8_method_1_code 3 none :: mj_WS) B.pre
  have hts : ∀ w ∈ mj_WS, w.before _ s = true := fun w hw => hts0 w (List.mem_cons_of_mem _ hw)
  have hown : s.vm.findClass "ListSpeaker$Reader" = some m.cls := findClass_of_methodNamed B.named
  have hlocks := B.notSynchronized
  have hin : meth.name = "<init>" := (name_of_methodNamed B.named B.method).1
  subst hsz
  have hD := hD0.self (sz := s.heap.size)
  generalize hAe : va_A [(h0, .inr (3, [.null, .null, .null, .int 0, .int 0]))] s.heap.size = A at hD ⊢
  have hA : ∀ q : Nat, s.heap.size ≤ q → A q := fun q h => by rw [← hAe]; exact Or.inr h
  have hS : va_S A s.heap s.heap [] := va_S.rf
  have hP : va_P D mj_kl [(h0, .inr (3, [.null, .null, .null, .int 0, .int 0]))] s.heap := hP
  have hl := lv_entry ([.ref h0, .ref r1, .ref r2]) (n := 3) (Nat.le_of_ble_eq_true rfl)
  rw [lg_entry_eq]
  generalize (lg_sl ([.ref h0, .ref r1, .ref r2]) ++ List.replicate (3 - (lg_sl ([.ref h0, .ref r1, .ref r2])).length) Slot.unset).toArray = ls at hl ⊢
  have hl : lv_has ls 3 [(0, .ref h0), (1, .ref r1), (2, .ref r2)] := hl
  refine lv_aload_n hx hb (show decode prog_8_method_1_code 0 = .ok (.aload_n 0, 1) from by decide +kernel) rfl (lv_at hl 0 rfl) ?_
  refine W.objInit hx hb hown (hts _ cw_166) (hts _ cw_28) (hts _ cw_29) rfl (by rw [hml]; exact hl.1) rfl (show decode prog_8_method_1_code 1 = .ok (.invokespecial 3, 3) from by decide +kernel) (Nat.le_of_ble_eq_true rfl) (Nat.le_of_ble_eq_true rfl) ?_
  refine W.eq (g2 := F0 m 4 ls []) rfl ?_
  refine lv_aload_n hx hb (show decode prog_8_method_1_code 4 = .ok (.aload_n 0, 1) from by decide +kernel) rfl (lv_at hl 0 rfl) ?_
  refine lv_sipush (v := 300) hx hb (show decode prog_8_method_1_code 5 = .ok (.sipush 300, 3) from by decide +kernel) (by decide) ?_
  refine va_newa (atype := .char) hx hb (hts _ cw_108) (ty := .char) rfl hK hP hD hS hA (N' := 300) (a0 := (300, .inl (fun _ => 0))) (fun _ => rfl) (by decide) (by decide) (by decide) (show 0 + 1 ≤ 1 from by decide) (show 0 + 300 ≤ 300 from by decide) (show decode prog_8_method_1_code 8 = .ok (.newarray .char, 2) from by decide +kernel) (fun q8 c8 H hK1 hP hD hS => ?_)
  obtain rfl := mj_sameA (ty := .char) hK1 hK (by decide)
  refine W.widen (k := 1) (n := 300) (by decide) (by decide) ?_
  have hP : va_P D mj_kl [(h0, .inr (3, [.null, .null, .null, .int 0, .int 0])), (q8, .inl (cA .char, 300, .inl (fun _ => 0)))] H := hP
  have hD : va_D A [(h0, .inr (3, [.null, .null, .null, .int 0, .int 0])), (q8, .inl (cA .char, 300, .inl (fun _ => 0)))] := hD
  refine va_putF (D := D) (ci := 3) (v := .ref q8) (ty := .array .char) (C := "ListSpeaker$Reader") (T := mjF3) (N := 5) hx hb hts mjw3 mjt3 mjk3 mjn3 hown hK hP hD hS 0 rfl rfl 2 (by decide) (hts _ cw_169) (fun _ h9 => h9) rfl hin rfl (by decide +kernel) rfl rfl (Nat.le_of_ble_eq_true rfl) (show decode prog_8_method_1_code 10 = .ok (.putfield 9, 3) from by decide +kernel) (fun H locs hP hD hS => ?_)
  have hP : va_P D mj_kl [(h0, .inr (3, [.null, .null, .ref q8, .int 0, .int 0])), (q8, .inl (cA .char, 300, .inl (fun _ => 0)))] H := hP
  have hD : va_D A [(h0, .inr (3, [.null, .null, .ref q8, .int 0, .int 0])), (q8, .inl (cA .char, 300, .inl (fun _ => 0)))] := hD
  refine lv_aload_n hx hb (show decode prog_8_method_1_code 13 = .ok (.aload_n 0, 1) from by decide +kernel) rfl (lv_at hl 0 rfl) ?_
  refine lv_aload_n hx hb (show decode prog_8_method_1_code 14 = .ok (.aload_n 1, 1) from by decide +kernel) rfl (lv_at hl 1 rfl) ?_
  refine va_putF (D := D) (ci := 3) (v := .ref r1) (ty := .object "ListSpeaker$Symbols") (C := "ListSpeaker$Reader") (T := mjF3) (N := 5) hx hb hts mjw3 mjt3 mjk3 mjn3 hown hK hP hD hS 0 rfl rfl 0 (by decide) (hts _ cw_167) (fun _ h9 => h9) rfl hin rfl (by decide +kernel) rfl rfl (Nat.le_of_ble_eq_true rfl) (show decode prog_8_method_1_code 15 = .ok (.putfield 15, 3) from by decide +kernel) (fun H locs hP hD hS => ?_)
  have hP : va_P D mj_kl [(h0, .inr (3, [.ref r1, .null, .ref q8, .int 0, .int 0])), (q8, .inl (cA .char, 300, .inl (fun _ => 0)))] H := hP
  have hD : va_D A [(h0, .inr (3, [.ref r1, .null, .ref q8, .int 0, .int 0])), (q8, .inl (cA .char, 300, .inl (fun _ => 0)))] := hD
  refine lv_aload_n hx hb (show decode prog_8_method_1_code 18 = .ok (.aload_n 0, 1) from by decide +kernel) rfl (lv_at hl 0 rfl) ?_
  refine lv_aload_n hx hb (show decode prog_8_method_1_code 19 = .ok (.aload_n 2, 1) from by decide +kernel) rfl (lv_at hl 2 rfl) ?_
  refine va_putF (D := D) (ci := 3) (v := .ref r2) (ty := .object "ListSpeaker$Pairs") (C := "ListSpeaker$Reader") (T := mjF3) (N := 5) hx hb hts mjw3 mjt3 mjk3 mjn3 hown hK hP hD hS 0 rfl rfl 1 (by decide) (hts _ cw_168) (fun _ h9 => h9) rfl hin rfl (by decide +kernel) rfl rfl (Nat.le_of_ble_eq_true rfl) (show decode prog_8_method_1_code 20 = .ok (.putfield 19, 3) from by decide +kernel) (fun H locs hP hD hS => ?_)
  have hP : va_P D mj_kl [(h0, .inr (3, [.ref r1, .ref r2, .ref q8, .int 0, .int 0])), (q8, .inl (cA .char, 300, .inl (fun _ => 0)))] H := hP
  have hD : va_D A [(h0, .inr (3, [.ref r1, .ref r2, .ref q8, .int 0, .int 0])), (q8, .inl (cA .char, 300, .inl (fun _ => 0)))] := hD
  exact W.vret hx hb hr (fun t ht hW => ⟨⟨q8, rfl, trivial, by rw [ht]; exact hP, va_K.moved hW.alike hK, hD⟩, hS.F ht⟩) hS.2.2 (show decode prog_8_method_1_code 23 = .ok (.return_, 1) from by decide +kernel)
