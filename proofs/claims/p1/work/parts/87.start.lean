/-! what the start gives: the classes, the text of names, the exceptions -/
abbrev st_text : String := "nil t quote if let cond and or list defun cons car cdr consp natp symbolp equal + - < error"
abbrev st_tm : Jvm.Term := .string "ListSpeaker$Symbols" 19
abbrev st_all : Jvm.Cond := Jvm.Cond.and given_1 narrow_1
set_option maxRecDepth 100000 in
theorem st_el : ∀ j : Nat, j < 91 → (Jvm.Cond.eq (.elem (.field st_tm "java/lang/String" "value" "[B") (.int (Int32.ofNat j))) (.int (([(List.range 91).map sy_b] : List (List Int32)).getD 0 []|>.getD j 0))) ∈ flatC st_all := by decide +kernel
set_option maxRecDepth 100000 in
theorem st_m1 : Jvm.Cond.exactly st_tm "java/lang/String" ∈ flatC st_all := by decide +kernel
set_option maxRecDepth 100000 in
theorem st_m2 : Jvm.Cond.eq (.field st_tm "java/lang/String" "coder" "B") (.int 0) ∈ flatC st_all := by decide +kernel
set_option maxRecDepth 100000 in
theorem st_m3 : Jvm.Cond.arrayOf (.field st_tm "java/lang/String" "value" "[B") .byte ∈ flatC st_all := by decide +kernel
set_option maxRecDepth 100000 in
theorem st_m4 : Jvm.Cond.eq (.length (.field st_tm "java/lang/String" "value" "[B")) (.int (Int32.ofNat 91)) ∈ flatC st_all := by decide +kernel
set_option maxRecDepth 100000 in
theorem st_m5 : Jvm.Cond.eq (.static "java/lang/String" "COMPACT_STRINGS" "Z") (.int 1) ∈ flatC st_all := by decide +kernel
set_option maxRecDepth 100000 in
theorem st_m6 : th_r1 ∈ flatC st_all := by decide +kernel
set_option maxRecDepth 100000 in
theorem st_m7 : th_r2 ∈ flatC st_all := by decide +kernel
set_option maxRecDepth 100000 in
theorem st_m8 : Jvm.Cond.exactly (.string "ListSpeaker" 94) "java/lang/String" ∈ flatC st_all := by decide +kernel
set_option maxRecDepth 100000 in
theorem st_m9 : Jvm.Cond.exactly (.string "ListSpeaker" 120) "java/lang/String" ∈ flatC st_all := by decide +kernel
set_option maxRecDepth 20000 in
theorem st_36 : (Jvm.Cond.stringRef "ListSpeaker$Symbols" (19 : Nat) "nil t quote if let cond and or list defun cons car cdr consp natp symbolp equal + - < error") ∈ lw_tbl := List.mem_append_right _ (List.mem_of_getElem? (i := 36) (by decide +kernel))
set_option maxRecDepth 20000 in
theorem st_46 : (Jvm.Cond.laysStatic "java/lang/String" "COMPACT_STRINGS" "Z") ∈ lw_tbl := List.mem_append_right _ (List.mem_of_getElem? (i := 46) (by decide +kernel))
set_option maxRecDepth 20000 in
theorem st_3 : (Jvm.Cond.initialized "java/lang/String") ∈ lw_tbl := List.mem_append_right _ (List.mem_of_getElem? (i := 3) (by decide +kernel))
set_option maxRecDepth 20000 in
theorem st_457 : (Jvm.Cond.stringRef "ListSpeaker" (94 : Nat) "fuel is not 0 .. 20000") ∈ lw_tbl := List.mem_append_right _ (List.mem_of_getElem? (i := 457) (by decide +kernel))
set_option maxRecDepth 20000 in
theorem st_954 : (Jvm.Cond.stringRef "ListSpeaker" (120 : Nat) "no such character of output") ∈ lw_tbl := List.mem_append_right _ (List.mem_of_getElem? (i := 954) (by decide +kernel))
set_option maxRecDepth 20000 in
theorem st_444 : (Jvm.Cond.laysStatic "java/lang/Throwable" "UNASSIGNED_STACK" "[Ljava/lang/StackTraceElement;") ∈ lw_tbl := List.mem_append_right _ (List.mem_of_getElem? (i := 444) (by decide +kernel))
set_option maxRecDepth 20000 in
theorem st_446 : (Jvm.Cond.laysStatic "java/lang/Throwable" "SUPPRESSED_SENTINEL" "Ljava/util/List;") ∈ lw_tbl := List.mem_append_right _ (List.mem_of_getElem? (i := 446) (by decide +kernel))
set_option maxRecDepth 20000 in
theorem st_185 : (Jvm.Cond.methodLinkNest "ListSpeaker" (45 : Nat) ({ cls := "ListSpeaker$Code", name := "<init>", desc := "()V" } : Jvm.MethodName) "ListSpeaker") ∈ lw_tbl := List.mem_append_right _ (List.mem_of_getElem? (i := 185) (by decide +kernel))
theorem z0 {P : Nat → Prop} (h : P 0) (i : Nat) (hi : i < 1) : P i := by
  have e : i = 0 := by omega
  rw [e]; exact h
theorem st_J {args : Array Value} {s : State} (hts : ∀ w ∈ lw_tbl, w.before args s = true) (hgv : st_all.before args s = true) : ∃ a0 t0, jd_S a0 t0 91 sy_b (fun q => s.heap.size ≤ q) s s.heap ∧ vk_R "ListSpeaker$Symbols" 19 st_text a0 s := by
  have hf := flat_of_before _ hgv
  have hA : ∀ a : Nat, a < s.heap.size → ¬ (s.heap.size ≤ a) := fun a h => by omega
  obtain ⟨adK, adV, hS, hev⟩ := vk_Sof (args := args) (s := s) (N := 1) (tm := fun _ => st_tm) (len := [91]) (byt := [(List.range 91).map sy_b]) (A := fun q => s.heap.size ≤ q) (fun i hi => z0 (P := fun i => ([91] : List Nat).getD i 0 < 2 ^ 31) (by decide) i hi) (fun i _ => hf _ st_m1) (fun i _ => hf _ st_m2) (fun i _ => hf _ st_m3) (fun i hi => z0 (P := fun i => (Jvm.Cond.eq (.length (.field st_tm "java/lang/String" "value" "[B")) (.int (Int32.ofNat (([91] : List Nat).getD i 0)))).before args s = true) (hf _ st_m4) i hi) (fun i hi j hj => by
      have : i = 0 := by omega
      subst this
      exact hf _ (st_el j hj)) (fun i j hi hj hij => by omega) hA
  obtain ⟨h1, h2, h3, h4⟩ := hS.1 0 (by omega)
  refine ⟨adK 0, adV 0, ⟨va_Zof (hts _ st_46) (hts _ st_3) (va_eqt (hf _ st_m5)) hA, h1, h2, h3, ?_⟩, vk_R.of (hts _ st_36) (hev 0 (by omega))⟩
  have e : ∀ j, j < 91 → (([(List.range 91).map sy_b] : List (List Int32)).getD 0 []).getD j 0 = sy_b j := by decide +kernel
  obtain ⟨scr, k1, k2, k3, k4, k5, k6, k7⟩ := h4
  exact ⟨scr, k1, k2, k3, k4, k5, fun j hj => by rw [k6 j hj]; exact congrArg (fun z => some (Value.int z)) (e j hj), k7⟩
theorem st_R {args : Array Value} {s : State} {own tx : String} {k : Nat} (h1 : (Jvm.Cond.exactly (.string own k) "java/lang/String").before args s = true) (h2 : (Jvm.Cond.stringRef own k tx).before args s = true) : ∃ a, vk_R own k tx a s := by
  obtain ⟨a, c, cA, kA, q1, -⟩ := Cond.exactly_spec (args := args) (first := s) (o := none) (s := s) (idx := []) h1
  exact ⟨a, vk_R.of h2 q1⟩
theorem st_R94 {args : Array Value} {s : State} (hts : ∀ w ∈ lw_tbl, w.before args s = true) (hgv : st_all.before args s = true) : ∃ a, vk_R "ListSpeaker" 94 "fuel is not 0 .. 20000" a s := st_R (flat_of_before _ hgv _ st_m8) (hts _ st_457)
theorem st_R120 {args : Array Value} {s : State} (hts : ∀ w ∈ lw_tbl, w.before args s = true) (hgv : st_all.before args s = true) : ∃ a, vk_R "ListSpeaker" 120 "no such character of output" a s := st_R (flat_of_before _ hgv _ st_m9) (hts _ st_954)
set_option maxRecDepth 100000 in
theorem st_dc : th_dc.all (fun w => decide (w ∈ lw_tbl)) = true := by decide +kernel
set_option maxRecDepth 100000 in
theorem st_nw : mj_NWs.all (fun w => decide (w ∈ lw_tbl)) = true := by decide +kernel
theorem st_NW {args : Array Value} {s : State} (hts : ∀ w ∈ lw_tbl, w.before args s = true) : ∀ w ∈ mj_NWs, va_Nw w s := fun w hw => by
  have h1 := hts w (of_decide_eq_true (List.all_eq_true.mp st_nw w hw))
  obtain ⟨a, i, x, h, rfl⟩ := mj_NWs_ok w hw
  exact va_Nw.of rfl h1
theorem st_NC {args : Array Value} {s : State} (hts : ∀ w ∈ lw_tbl, w.before args s = true) : va_Nw (.methodLinkNest "ListSpeaker" 45 y_Code "ListSpeaker") s := va_Nw.of rfl (hts _ st_185)
theorem st_TH {args : Array Value} {s : State} (hts : ∀ w ∈ lw_tbl, w.before args s = true) (hgv : st_all.before args s = true) : th_P (fun q => s.heap.size ≤ q) s s.heap := by
  have hf := flat_of_before _ hgv
  have hA : ∀ a : Nat, a < s.heap.size → ¬ (s.heap.size ≤ a) := fun a h => by omega
  refine ⟨fun w hw => ?_, th_Z.of (hts _ st_444) (hf _ st_m6) hA, th_Z.of (hts _ st_446) (hf _ st_m7) hA⟩
  have h1 := hts w (of_decide_eq_true (List.all_eq_true.mp st_dc w hw))
  unfold th_dc at hw
  simp only [List.mem_cons, List.not_mem_nil, or_false] at hw
  rcases hw with rfl | rfl | rfl | rfl | rfl <;> exact va_Nw.of rfl h1
set_option maxRecDepth 20000 in
theorem st_23 : (Jvm.Cond.instantiable "ListSpeaker" (9 : Nat)) ∈ lw_tbl := List.mem_append_right _ (List.mem_of_getElem? (i := 23) (by decide +kernel))
set_option maxRecDepth 20000 in
theorem st_31 : (Jvm.Cond.instantiable "ListSpeaker$Symbols" (3 : Nat)) ∈ lw_tbl := List.mem_append_right _ (List.mem_of_getElem? (i := 31) (by decide +kernel))
set_option maxRecDepth 20000 in
theorem st_112 : (Jvm.Cond.instantiable "ListSpeaker$Pairs" (12 : Nat)) ∈ lw_tbl := List.mem_append_right _ (List.mem_of_getElem? (i := 112) (by decide +kernel))
set_option maxRecDepth 20000 in
theorem st_162 : (Jvm.Cond.instantiable "ListSpeaker$Reader" (5 : Nat)) ∈ lw_tbl := List.mem_append_right _ (List.mem_of_getElem? (i := 162) (by decide +kernel))
set_option maxRecDepth 20000 in
theorem st_184 : (Jvm.Cond.instantiable "ListSpeaker$Code" (4 : Nat)) ∈ lw_tbl := List.mem_append_right _ (List.mem_of_getElem? (i := 184) (by decide +kernel))
set_option maxRecDepth 20000 in
theorem st_203 : (Jvm.Cond.instantiable "ListSpeaker$Maker" (5 : Nat)) ∈ lw_tbl := List.mem_append_right _ (List.mem_of_getElem? (i := 203) (by decide +kernel))
set_option maxRecDepth 20000 in
theorem st_225 : (Jvm.Cond.instantiable "ListSpeaker$Functions" (7 : Nat)) ∈ lw_tbl := List.mem_append_right _ (List.mem_of_getElem? (i := 225) (by decide +kernel))
set_option maxRecDepth 20000 in
theorem st_253 : (Jvm.Cond.instantiable "ListSpeaker$Machine" (14 : Nat)) ∈ lw_tbl := List.mem_append_right _ (List.mem_of_getElem? (i := 253) (by decide +kernel))
set_option maxRecDepth 20000 in
theorem st_302 : (Jvm.Cond.instantiable "ListSpeaker$Paper" (6 : Nat)) ∈ lw_tbl := List.mem_append_right _ (List.mem_of_getElem? (i := 302) (by decide +kernel))
set_option maxRecDepth 20000 in
theorem st_966 : (Jvm.Cond.instantiable "ListSpeakerModel" (46 : Nat)) ∈ lw_tbl := List.mem_append_right _ (List.mem_of_getElem? (i := 966) (by decide +kernel))
set_option maxRecDepth 20000 in
theorem st_109 : (Jvm.Cond.arrayClass Jvm.ClassFile.FieldType.int) ∈ lw_tbl := List.mem_append_right _ (List.mem_of_getElem? (i := 109) (by decide +kernel))
set_option maxRecDepth 20000 in
theorem st_108 : (Jvm.Cond.arrayClass Jvm.ClassFile.FieldType.char) ∈ lw_tbl := List.mem_append_right _ (List.mem_of_getElem? (i := 108) (by decide +kernel))
set_option maxRecDepth 20000 in
theorem st_160 : (Jvm.Cond.arrayClass Jvm.ClassFile.FieldType.boolean) ∈ lw_tbl := List.mem_append_right _ (List.mem_of_getElem? (i := 160) (by decide +kernel))
theorem st_A {args : Array Value} {s : State} {t : FieldType} (ht : ∀ C, t ≠ .object C) (h : (Jvm.Cond.arrayClass t).before args s = true) : ∃ cA, ArrOfT s cA t ∧ va_RA s cA t := by
  obtain ⟨c, k, comp, h1, h2, h3⟩ := Cond.arrayClass_spec h
  refine ⟨c, fun n z => ⟨fun k h => (by cases h), k, h2, comp, h3⟩, ?_⟩
  cases t with
  | object C => exact absurd rfl (ht C)
  | _ => exact h1
theorem st_K {args : Array Value} {s : State} (hts : ∀ w ∈ lw_tbl, w.before args s = true) : ∃ (D : va_G) (cA : FieldType → ClassId), va_K D mj_kl (mj_tys cA) s := by
  have hts2 : ∀ w ∈ mj_WS, w.before args s = true := fun w hw => hts w (List.mem_filter.mp hw).1
  obtain ⟨c0, i0, k0⟩ := u_known hts2 mjw0 (hts _ st_23)
  obtain ⟨c1, i1, k1⟩ := u_known hts2 mjw1 (hts _ st_31)
  obtain ⟨c2, i2, k2⟩ := u_known hts2 mjw2 (hts _ st_112)
  obtain ⟨c3, i3, k3⟩ := u_known hts2 mjw3 (hts _ st_162)
  obtain ⟨c4, i4, k4⟩ := u_known hts2 mjw4 (hts _ st_184)
  obtain ⟨c5, i5, k5⟩ := u_known hts2 mjw5 (hts _ st_203)
  obtain ⟨c6, i6, k6⟩ := u_known hts2 mjw6 (hts _ st_225)
  obtain ⟨c7, i7, k7⟩ := u_known hts2 mjw7 (hts _ st_253)
  obtain ⟨c8, i8, k8⟩ := u_known hts2 mjw8 (hts _ st_302)
  obtain ⟨c9, i9, k9⟩ := u_known hts2 mjw9 (hts _ st_966)
  obtain ⟨a_int, x_int, y_int⟩ := st_A (t := .int) (fun _ h => by cases h) (hts _ st_109)
  obtain ⟨a_char, x_char, y_char⟩ := st_A (t := .char) (fun _ h => by cases h) (hts _ st_108)
  obtain ⟨a_boolean, x_boolean, y_boolean⟩ := st_A (t := .boolean) (fun _ h => by cases h) (hts _ st_160)
  refine ⟨((fun c => [c0, c1, c2, c3, c4, c5, c6, c7, c8, c9].getD c 0), (fun c => [i0, i1, i2, i3, i4, i5, i6, i7, i8, i9].getD c (fun _ => 0))), (fun t => match t with | .int => a_int | .char => a_char | .boolean => a_boolean | _ => 0), ?_, ?_⟩
  · intro c q hq
    match c, hq with
    | 0, hq => cases hq; exact k0
    | 1, hq => cases hq; exact k1
    | 2, hq => cases hq; exact k2
    | 3, hq => cases hq; exact k3
    | 4, hq => cases hq; exact k4
    | 5, hq => cases hq; exact k5
    | 6, hq => cases hq; exact k6
    | 7, hq => cases hq; exact k7
    | 8, hq => cases hq; exact k8
    | 9, hq => cases hq; exact k9
    | _ + 10, hq => cases hq
  · intro k q hq
    match k, hq with
    | 0, hq => cases hq; exact ⟨x_int, y_int⟩
    | 1, hq => cases hq; exact ⟨x_char, y_char⟩
    | 2, hq => cases hq; exact ⟨x_boolean, y_boolean⟩
    | _ + 3, hq => cases hq
