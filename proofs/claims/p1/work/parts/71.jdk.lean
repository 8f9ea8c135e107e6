/-! String.toCharArray of a text of one byte a char -/
theorem jw_37 : (Jvm.Cond.methodLink "ListSpeaker$Symbols" (21 : Nat) ({ cls := "java/lang/String", name := "toCharArray", desc := "()[C" } : Jvm.MethodName)) ∈ mj_WS := mj_mem 37 (by decide +kernel) (by decide)
theorem jw_38 : (Jvm.Cond.instanceMethod ({ cls := "java/lang/String", name := "toCharArray", desc := "()[C" } : Jvm.MethodName)) ∈ mj_WS := mj_mem 38 (by decide +kernel) (by decide)
theorem jw_39 : (Jvm.Cond.selects "java/lang/String" ({ cls := "java/lang/String", name := "toCharArray", desc := "()[C" } : Jvm.MethodName) ({ cls := "java/lang/String", name := "toCharArray", desc := "()[C" } : Jvm.MethodName)) ∈ mj_WS := mj_mem 39 (by decide +kernel) (by decide)
theorem jw_41 : (Jvm.Cond.methodLink "java/lang/String" (492 : Nat) ({ cls := "java/lang/String", name := "isLatin1", desc := "()Z" } : Jvm.MethodName)) ∈ mj_WS := mj_mem 41 (by decide +kernel) (by decide)
theorem jw_42 : (Jvm.Cond.instanceMethod ({ cls := "java/lang/String", name := "isLatin1", desc := "()Z" } : Jvm.MethodName)) ∈ mj_WS := mj_mem 42 (by decide +kernel) (by decide)
theorem jw_43 : (Jvm.Cond.selects "java/lang/String" ({ cls := "java/lang/String", name := "isLatin1", desc := "()Z" } : Jvm.MethodName) ({ cls := "java/lang/String", name := "isLatin1", desc := "()Z" } : Jvm.MethodName)) ∈ mj_WS := mj_mem 43 (by decide +kernel) (by decide)
theorem jw_45 : (Jvm.Cond.fieldLink "java/lang/String" (38 : Nat) "java/lang/String" "COMPACT_STRINGS" "Z") ∈ mj_WS := mj_mem 45 (by decide +kernel) (by decide)
theorem jw_47 : (Jvm.Cond.methodLink "java/lang/String" (299 : Nat) ({ cls := "java/lang/StringLatin1", name := "toChars", desc := "([B)[C" } : Jvm.MethodName)) ∈ mj_WS := mj_mem 47 (by decide +kernel) (by decide)
theorem jw_48 : (Jvm.Cond.static ({ cls := "java/lang/StringLatin1", name := "toChars", desc := "([B)[C" } : Jvm.MethodName)) ∈ mj_WS := mj_mem 48 (by decide +kernel) (by decide)
theorem jw_50 : (Jvm.Cond.methodLink "java/lang/StringLatin1" (13 : Nat) ({ cls := "java/lang/StringLatin1", name := "inflate", desc := "([BI[CII)V" } : Jvm.MethodName)) ∈ mj_WS := mj_mem 50 (by decide +kernel) (by decide)
theorem jw_51 : (Jvm.Cond.static ({ cls := "java/lang/StringLatin1", name := "inflate", desc := "([BI[CII)V" } : Jvm.MethodName)) ∈ mj_WS := mj_mem 51 (by decide +kernel) (by decide)
theorem jw_1369 : (Jvm.Cond.fieldLink "java/lang/String" (15 : Nat) "java/lang/String" "coder" "B") ∈ mj_WS := mj_mem 1369 (by decide +kernel) (by decide)
theorem jw_1370 : (Jvm.Cond.fieldLink "java/lang/String" (9 : Nat) "java/lang/String" "value" "[B") ∈ mj_WS := mj_mem 1370 (by decide +kernel) (by decide)
theorem jwi_String : (Jvm.Cond.initialized "java/lang/String") ∈ mj_WS := mj_mem 3 (by decide +kernel) (by decide)
theorem jwi_StringLatin1 : (Jvm.Cond.initialized "java/lang/StringLatin1") ∈ mj_WS := mj_mem 4 (by decide +kernel) (by decide)
theorem jwa_char : (Jvm.Cond.arrayClass Jvm.ClassFile.FieldType.char) ∈ mj_WS := mj_mem 108 (by decide +kernel) (by decide)
def y_isLatin1 : MethodName := ({ cls := "java/lang/String", name := "isLatin1", desc := "()Z" } : Jvm.MethodName)
set_option maxRecDepth 20000 in
theorem cwc_isLatin1 : Jvm.Cond.code y_isLatin1 prog_17_method_154_code 1 (Option.some Jvm.ClassFile.FieldType.boolean) ∈ mj_WS := mj_mem 44 rfl rfl
abbrev ws_isLatin1 : List Jvm.Cond := Jvm.Cond.code y_isLatin1 prog_17_method_154_code 1 (Option.some Jvm.ClassFile.FieldType.boolean) :: mj_WS
theorem gi_isLatin1 : GoodIn mj_WS ws_isLatin1 := fun w hw => (List.mem_cons.mp hw).elim (fun e => by rw [e]; exact ⟨cwc_isLatin1, good_of_word (List.mem_filter.mp cwc_isLatin1).2⟩) (fun e => ⟨e, good_of_word (List.mem_filter.mp e).2⟩)
def y_toCharArray : MethodName := ({ cls := "java/lang/String", name := "toCharArray", desc := "()[C" } : Jvm.MethodName)
set_option maxRecDepth 20000 in
theorem cwc_toCharArray : Jvm.Cond.code y_toCharArray prog_17_method_129_code 1 (Option.some (Jvm.ClassFile.FieldType.array Jvm.ClassFile.FieldType.char)) ∈ mj_WS := mj_mem 40 rfl rfl
abbrev ws_toCharArray : List Jvm.Cond := Jvm.Cond.code y_toCharArray prog_17_method_129_code 1 (Option.some (Jvm.ClassFile.FieldType.array Jvm.ClassFile.FieldType.char)) :: mj_WS
theorem gi_toCharArray : GoodIn mj_WS ws_toCharArray := fun w hw => (List.mem_cons.mp hw).elim (fun e => by rw [e]; exact ⟨cwc_toCharArray, good_of_word (List.mem_filter.mp cwc_toCharArray).2⟩) (fun e => ⟨e, good_of_word (List.mem_filter.mp e).2⟩)
def y_toChars : MethodName := ({ cls := "java/lang/StringLatin1", name := "toChars", desc := "([B)[C" } : Jvm.MethodName)
set_option maxRecDepth 20000 in
theorem cwc_toChars : Jvm.Cond.code y_toChars prog_18_method_9_code 2 (Option.some (Jvm.ClassFile.FieldType.array Jvm.ClassFile.FieldType.char)) ∈ mj_WS := mj_mem 49 rfl rfl
abbrev ws_toChars : List Jvm.Cond := Jvm.Cond.code y_toChars prog_18_method_9_code 2 (Option.some (Jvm.ClassFile.FieldType.array Jvm.ClassFile.FieldType.char)) :: mj_WS
theorem gi_toChars : GoodIn mj_WS ws_toChars := fun w hw => (List.mem_cons.mp hw).elim (fun e => by rw [e]; exact ⟨cwc_toChars, good_of_word (List.mem_filter.mp cwc_toChars).2⟩) (fun e => ⟨e, good_of_word (List.mem_filter.mp e).2⟩)
def y_inflate : MethodName := ({ cls := "java/lang/StringLatin1", name := "inflate", desc := "([BI[CII)V" } : Jvm.MethodName)
set_option maxRecDepth 20000 in
theorem cwc_inflate : Jvm.Cond.code y_inflate prog_18_method_49_code 6 (Option.none : Option Jvm.ClassFile.FieldType) ∈ mj_WS := mj_mem 52 rfl rfl
abbrev ws_inflate : List Jvm.Cond := Jvm.Cond.code y_inflate prog_18_method_49_code 6 (Option.none : Option Jvm.ClassFile.FieldType) :: mj_WS
theorem gi_inflate : GoodIn mj_WS ws_inflate := fun w hw => (List.mem_cons.mp hw).elim (fun e => by rw [e]; exact ⟨cwc_inflate, good_of_word (List.mem_filter.mp cwc_inflate).2⟩) (fun e => ⟨e, good_of_word (List.mem_filter.mp e).2⟩)
set_option maxHeartbeats 4000000 in
set_option maxRecDepth 100000 in
theorem c_isLatin1 (l : Launch) (a : Nat) : Met l y_isLatin1 ws_isLatin1 ({ frames := 0, cells := 0, slots := 0, locals := 0 }) (va_Pc [.ref a] (fun U => va_Z "java/lang/String" "COMPACT_STRINGS" "Z" (.int 1) (fun _ => False) U U.heap ∧ va_OF "java/lang/String" "coder" "B" (.int 0) a (fun _ => False) U U.heap)) (va_Qi (fun (r : Int32) (_ : Unit) => r = 1) (fun _ _ => True) (fun _ => False)) 0 0 (fun _ => False) := by
  refine Met.ofW (cc := prog_17_method_154_code) (maxL := 1) (ret := some .boolean) (by decide) rfl ?_
  intro p e s m args below meth c s₁ B hml hv
  have hx := B.exec
  have hb := B.bytes
  have hr := B.returns
  have hlocks := B.notSynchronized
  have hts0 := atoms_spec (ws := ws_isLatin1) B.pre
  have hts : ∀ w ∈ mj_WS, w.before args s = true := fun w hw => hts0 w (List.mem_cons_of_mem _ hw)
  have hown : s.vm.findClass "java/lang/String" = some m.cls := findClass_of_methodNamed B.named
  obtain ⟨rfl, hZ, hC⟩ := hv
  have hS : va_S (fun _ => False) s.heap s.heap [] := va_S.rf
  have hl := lv_entry ([.ref a]) (n := 1) (Nat.le_of_ble_eq_true rfl)
  rw [lg_entry_eq]
  generalize (lg_sl ([.ref a]) ++ List.replicate (1 - (lg_sl ([.ref a])).length) Slot.unset).toArray = ls at hl ⊢
  have hl : lv_has ls 1 [(0, .ref a)] := hl
  refine va_gets hx hb hZ hS hown (hts _ jw_45) (fun _ h => h) (show decode prog_17_method_154_code 0 = .ok (.getstatic 38, 3) from by decide +kernel) ?_
  refine lv_if_eq (tgt := 17) hx hb (show decode prog_17_method_154_code 3 = .ok (.ifCond .eq 14, 3) from by decide +kernel) (by decide) (fun h => absurd h (by decide)) (fun _ => ?_)
  refine lv_aload_n hx hb (show decode prog_17_method_154_code 6 = .ok (.aload_n 0, 1) from by decide +kernel) rfl (lv_at hl 0 rfl) ?_
  refine vk_getf hx hb hC hS hown (hts _ jw_1369) (fun _ h => h) (show decode prog_17_method_154_code 7 = .ok (.getfield 15, 3) from by decide +kernel) ?_
  refine lv_if_ne (tgt := 17) hx hb (show decode prog_17_method_154_code 10 = .ok (.ifCond .ne 7, 3) from by decide +kernel) (by decide) (fun h => absurd rfl h) (fun _ => ?_)
  refine lv_iconst (v := 1) hx hb (show decode prog_17_method_154_code 13 = .ok (.iconst 1, 1) from by decide +kernel) (by decide) ?_
  refine lv_goto (tgt := 18) hx hb (show decode prog_17_method_154_code 14 = .ok (.goto 4, 3) from by decide +kernel) (by decide) ?_
  exact W.zret (v := 1) (ty := .boolean) hx hb hr rfl (fun t ht hW => ⟨⟨1, (), rfl, rfl, trivial⟩, hS.F ht⟩) hS.2.2 (show decode prog_17_method_154_code 18 = .ok (.ireturn, 1) from by decide +kernel)
set_option maxHeartbeats 4000000 in
set_option maxRecDepth 100000 in
theorem c_inflate (l : Launch) (D : va_G) (cA : FieldType → ClassId) (t q N : Nat) (b : Nat → Int32) (hN : N < 1000) (hbb : ∀ j, j < N → ((b j &&& 255).toUInt32 % 65536).toInt32 = b j ∧ vp_nar .char (b j) = b j) (g0 : Nat → Int32) : Met l y_inflate ws_inflate ({ frames := 0, cells := 0, slots := 0, locals := 0 }) (va_Pc [.ref t, .int 0, .ref q, .int 0, .int (nI N)] (fun U => va_T .byte t N (fun j => .int (b j)) (fun x => x = q) U U.heap ∧ va_P D mj_kl [(q, .inl (cA .char, N, .inl g0))] U.heap ∧ va_K D mj_kl (mj_tys cA) U)) (va_Qv (fun g : Nat → Int32 => ∀ j, j < N → g j = b j) (fun g u => va_P D mj_kl [(q, .inl (cA .char, N, .inl g))] u.heap) (fun x => x = q)) 0 0 (fun x => x = q) := by
  refine Met.ofW (cc := prog_18_method_49_code) (maxL := 6) (ret := none) (by decide) rfl ?_
  intro p e s m args below meth c s₁ B hml hv
  have hx := B.exec
  have hb := B.bytes
  have hr := B.returns
  have hlocks := B.notSynchronized
  have hts0 := atoms_spec (ws := ws_inflate) B.pre
  have hts : ∀ w ∈ mj_WS, w.before args s = true := fun w hw => hts0 w (List.mem_cons_of_mem _ hw)
  have hown : s.vm.findClass "java/lang/StringLatin1" = some m.cls := findClass_of_methodNamed B.named
  obtain ⟨rfl, hT, hP, hK⟩ := hv
  have hS : va_S (fun x => x = q) s.heap s.heap [] := va_S.rf
  have hD : ∀ g : Nat → Int32, va_D (fun x => x = q) [(q, .inl (cA .char, N, .inl g))] := fun g => ⟨fun i j x y hi hj _ => by
    have h1 : i < 1 := (List.getElem?_eq_some_iff.mp hi).1
    have h2 : j < 1 := (List.getElem?_eq_some_iff.mp hj).1
    omega, fun k x hk => by
    have h1 : k < 1 := (List.getElem?_eq_some_iff.mp hk).1
    have h2 : k = 0 := by omega
    subst h2
    cases hk
    rfl⟩
  have hl := lv_entry ([.ref t, .int 0, .ref q, .int 0, .int (nI N)]) (n := 6) (Nat.le_of_ble_eq_true rfl)
  rw [lg_entry_eq]
  generalize (lg_sl ([.ref t, .int 0, .ref q, .int 0, .int (nI N)]) ++ List.replicate (6 - (lg_sl ([.ref t, .int 0, .ref q, .int 0, .int (nI N)])).length) Slot.unset).toArray = ls at hl ⊢
  have hl : lv_has ls 6 [(0, .ref t), (1, .int 0), (2, .ref q), (3, .int 0), (4, .int (nI N))] := hl
  have loop : ∀ (n k : Nat) (g : Nat → Int32) (H : Heap) (locs : List Loc) (ls : Array Slot), N - k = n → k ≤ N → (∀ j, j < k → g j = b j) → lv_has ls 6 [(0, .ref t), (1, .int (nI k)), (2, .ref q), (3, .int (nI k)), (4, .int (nI N)), (5, .int (nI k))] → va_P D mj_kl [(q, .inl (cA .char, N, .inl g))] H → va_S (fun x => x = q) s.heap H locs → W p l e (headSpec ws_inflate { frames := 0, cells := 0, slots := 0, locals := 0 }).room s m ([Value.ref t, .int 0, .ref q, .int 0, .int (nI N)] : List Value).toArray below meth c H locs 0 0 (MQ below (va_Qv (fun g : Nat → Int32 => ∀ j, j < N → g j = b j) (fun g u => va_P D mj_kl [(q, .inl (cA .char, N, .inl g))] u.heap) (fun x => x = q)) ([Value.ref t, .int 0, .ref q, .int 0, .int (nI N)] : List Value).toArray s 0 0 (fun x => x = q)) (F0 m 3 ls []) := by
    intro n
    induction n with
    | zero =>
      intro k g H locs ls hn hk hg hl hP hS
      have e : k = N := by omega
      subst e
      refine lv_iload hx hb (show decode prog_18_method_49_code 3 = .ok (.iload 5, 2) from by decide +kernel) (lv_at hl 5 rfl) ?_
      refine lv_iload hx hb (show decode prog_18_method_49_code 5 = .ok (.iload 4, 2) from by decide +kernel) (lv_at hl 4 rfl) ?_
      refine lv_icmp_ge (tgt := 33) hx hb (show decode prog_18_method_49_code 7 = .ok (.if_icmp .ge 26, 3) from by decide +kernel) (by decide) (fun _ => ?_) (fun h => absurd (nI_le (Nat.le_refl k) (by omega)) h)
      exact W.vret hx hb hr (fun t ht hW => ⟨⟨g, rfl, hg, by show va_P _ _ _ t.heap; rw [ht]; exact hP⟩, hS.F ht⟩) hS.2.2 (show decode prog_18_method_49_code 33 = .ok (.return_, 1) from by decide +kernel)
    | succ n ih =>
      intro k g H locs ls hn hk hg hl hP hS
      have hkN : k < N := by omega
      refine lv_iload hx hb (show decode prog_18_method_49_code 3 = .ok (.iload 5, 2) from by decide +kernel) (lv_at hl 5 rfl) ?_
      refine lv_iload hx hb (show decode prog_18_method_49_code 5 = .ok (.iload 4, 2) from by decide +kernel) (lv_at hl 4 rfl) ?_
      refine lv_icmp_ge (tgt := 33) hx hb (show decode prog_18_method_49_code 7 = .ok (.if_icmp .ge 26, 3) from by decide +kernel) (by decide) (fun h => absurd h (nI_ge hkN (by omega))) (fun _ => ?_)
      refine lv_aload_n hx hb (show decode prog_18_method_49_code 10 = .ok (.aload_n 2, 1) from by decide +kernel) rfl (lv_at hl 2 rfl) ?_
      refine lv_iload_n hx hb (show decode prog_18_method_49_code 11 = .ok (.iload_n 3, 1) from by decide +kernel) rfl (lv_at hl 3 rfl) ?_
      refine lv_iinc (k := 3) (v := nI (k + 1)) hx hb (show decode prog_18_method_49_code 12 = .ok (.iinc 3 1, 3) from by decide +kernel) hl rfl (by rw [nI_succ]; rfl) (by decide) rfl (fun ls hl => ?_)
      have hl : lv_has ls 6 [(3, .int (nI (k + 1))), (0, .ref t), (1, .int (nI k)), (2, .ref q), (4, .int (nI N)), (5, .int (nI k))] := hl
      refine lv_aload_n hx hb (show decode prog_18_method_49_code 15 = .ok (.aload_n 0, 1) from by decide +kernel) rfl (lv_at hl 1 rfl) ?_
      refine lv_iload_n hx hb (show decode prog_18_method_49_code 16 = .ok (.iload_n 1, 1) from by decide +kernel) rfl (lv_at hl 2 rfl) ?_
      refine lv_iinc (k := 2) (v := nI (k + 1)) hx hb (show decode prog_18_method_49_code 17 = .ok (.iinc 1 1, 3) from by decide +kernel) hl rfl (by rw [nI_succ]; rfl) (by decide) rfl (fun ls hl => ?_)
      have hl : lv_has ls 6 [(1, .int (nI (k + 1))), (3, .int (nI (k + 1))), (0, .ref t), (2, .ref q), (4, .int (nI N)), (5, .int (nI k))] := hl
      refine va_tb hx hb hT hS (vp_in_nI hkN (by omega)) (v := .int (b k)) (by rw [nI_clamp (by omega)]) (show decode prog_18_method_49_code 20 = .ok (.baload, 1) from by decide +kernel) ?_
      refine lv_sipush (v := 255) hx hb (show decode prog_18_method_49_code 21 = .ok (.sipush 255, 3) from by decide +kernel) (by decide) ?_
      refine lv_iand hx hb (show decode prog_18_method_49_code 24 = .ok (.iand, 1) from by decide +kernel) ?_
      refine lv_i2c hx hb (show decode prog_18_method_49_code 25 = .ok (.i2c, 1) from by decide +kernel) (hbb k hkN).1 ?_
      refine va_cast hx hb hK hP (hD g) hS 0 1 rfl rfl (vp_in_nI hkN (by omega)) (show decode prog_18_method_49_code 26 = .ok (.castore, 1) from by decide +kernel) (fun H locs hP _ hS => ?_)
      rw [nI_clamp (by omega), (hbb k hkN).2] at hP
      have hP : va_P D mj_kl [(q, .inl (cA .char, N, .inl (upd g k (b k))))] H := hP
      refine lv_iinc (k := 5) (v := nI (k + 1)) hx hb (show decode prog_18_method_49_code 27 = .ok (.iinc 5 1, 3) from by decide +kernel) hl rfl (by rw [nI_succ]; rfl) (by decide) rfl (fun ls hl => ?_)
      refine lv_goto (tgt := 3) hx hb (show decode prog_18_method_49_code 30 = .ok (.goto (-27), 3) from by decide +kernel) (by decide) ?_
      refine ih (k + 1) (upd g k (b k)) H locs ls (by omega) (by omega) (fun j hj => ?_) (lv_sub hl [3, 1, 4, 2, 5, 0] rfl) hP hS
      by_cases hjk : j = k
      · subst hjk; exact pk_us
      · rw [pk_un hjk]; exact hg j (by omega)
  refine lv_iconst (v := 0) hx hb (show decode prog_18_method_49_code 0 = .ok (.iconst 0, 1) from by decide +kernel) (by decide) ?_
  refine lv_istore hx hb (show decode prog_18_method_49_code 1 = .ok (.istore 5, 2) from by decide +kernel) hl (by decide) rfl (fun ls hl => ?_)
  exact loop N 0 g0 s.heap [] ls (by omega) (by omega) (fun j hj => by omega) (lv_sub hl [1, 2, 3, 4, 5, 0] rfl) hP hS
def jd_S (a t N : Nat) (b : Nat → Int32) (A : Nat → Prop) (U : State) (H : Heap) : Prop := va_Z "java/lang/String" "COMPACT_STRINGS" "Z" (.int 1) A U H ∧ va_O "java/lang/String" a A U H ∧ va_OF "java/lang/String" "coder" "B" (.int 0) a A U H ∧ va_OF "java/lang/String" "value" "[B" (.ref t) a A U H ∧ va_T .byte t N (fun j => .int (b j)) A U H
theorem jd_S.moved {a t N : Nat} {b : Nat → Int32} {A : Nat → Prop} {u U : State} {H : Heap} (hvm : u.vm.Alike U.vm) (h : jd_S a t N b A u H) : jd_S a t N b A U H := ⟨h.1.moved hvm, h.2.1.moved hvm, h.2.2.1.moved hvm, h.2.2.2.1.moved hvm, h.2.2.2.2.moved hvm⟩
theorem jd_S.kept {a t N : Nat} {b : Nat → Int32} {A : Nat → Prop} {U : State} {H H1 : Heap} (h : jd_S a t N b A U H) (hq : ∀ a : Nat, a < H.size → ¬ A a → H1[a]? = H[a]?) : jd_S a t N b A U H1 := ⟨h.1.kept hq, h.2.1.kept hq, h.2.2.1.kept hq, h.2.2.2.1.kept hq, h.2.2.2.2.kept hq⟩
theorem jd_S.narrow {a t N : Nat} {b : Nat → Int32} {A B : Nat → Prop} {U : State} {H : Heap} (h : jd_S a t N b A U H) (hAB : ∀ q, B q → A q) : jd_S a t N b B U H := ⟨h.1.narrow hAB, h.2.1.narrow hAB, h.2.2.1.narrow hAB, h.2.2.2.1.narrow hAB, h.2.2.2.2.narrow hAB⟩
theorem va_P0 {D : va_G} {cl : List vw_C} {H : Heap} : va_P D cl [] H := fun k q h => by cases h
theorem va_D0 {A : Nat → Prop} : va_D A [] := ⟨fun i j p q h => (by cases h), fun k q h => (by cases h)⟩
set_option maxHeartbeats 4000000 in
set_option maxRecDepth 100000 in
theorem c_toChars (l : Launch) (D : va_G) (cA : FieldType → ClassId) (t N sz : Nat) (b : Nat → Int32) (hN : N < 1000) (hbb : ∀ j, j < N → ((b j &&& 255).toUInt32 % 65536).toInt32 = b j ∧ vp_nar .char (b j) = b j) : Met l y_toChars ws_toChars ({ frames := 1, cells := 1, slots := N, locals := 25 }) (va_Pc [.ref t] (fun U => U.heap.size = sz ∧ va_T .byte t N (fun j => .int (b j)) (fun x => sz ≤ x) U U.heap ∧ va_K D mj_kl (mj_tys cA) U)) (va_Qr (fun g : Nat → Int32 => ∀ j, j < N → g j = b j) (fun g a u => va_P D mj_kl [(a, .inl (cA .char, N, .inl g))] u.heap ∧ sz ≤ a) (fun x => sz ≤ x)) 1 N (fun x => sz ≤ x) := by
  refine Met.ofW (cc := prog_18_method_9_code) (maxL := 2) (ret := some (.array .char)) (by decide) rfl ?_
  intro p e s m args below meth c s₁ B hml hv
  have hx := B.exec
  have hb := B.bytes
  have hr := B.returns
  have hlocks := B.notSynchronized
  have hts0 := atoms_spec (ws := ws_toChars) B.pre
  have hts : ∀ w ∈ mj_WS, w.before args s = true := fun w hw => hts0 w (List.mem_cons_of_mem _ hw)
  have hown : s.vm.findClass "java/lang/StringLatin1" = some m.cls := findClass_of_methodNamed B.named
  obtain ⟨rfl, hsz, hT, hK⟩ := hv
  subst hsz
  have hS : va_S (fun x => s.heap.size ≤ x) s.heap s.heap [] := va_S.rf
  have hl := lv_entry ([.ref t]) (n := 2) (Nat.le_of_ble_eq_true rfl)
  rw [lg_entry_eq]
  generalize (lg_sl ([.ref t]) ++ List.replicate (2 - (lg_sl ([.ref t])).length) Slot.unset).toArray = ls at hl ⊢
  have hl : lv_has ls 2 [(0, .ref t)] := hl
  refine lv_aload_n hx hb (show decode prog_18_method_9_code 0 = .ok (.aload_n 0, 1) from by decide +kernel) rfl (lv_at hl 0 rfl) ?_
  refine va_tlen hx hb hT hS (v := nI N) rfl (show decode prog_18_method_9_code 1 = .ok (.arraylength, 1) from by decide +kernel) ?_
  refine va_newa (atype := .char) hx hb (hts _ jwa_char) (ty := .char) rfl hK va_P0 va_D0 hS (fun q h => h) (N' := N) (a0 := (N, .inl (fun _ => 0))) (fun _ => rfl) (nI_pos (by omega)) (nI_clamp (by omega)) (by show N * 2 ≤ _; omega) (show 0 + 1 ≤ 1 from by decide) (show 0 + N ≤ N from by omega) (show decode prog_18_method_9_code 2 = .ok (.newarray .char, 2) from by decide +kernel) (fun q c1 H hK1 hP hD hS => ?_)
  obtain rfl := mj_sameA (ty := .char) hK1 hK (by decide)
  have hq : s.heap.size ≤ q := hD.2 0 _ rfl
  have hP : va_P D mj_kl [(q, .inl (cA .char, N, .inl (fun _ => 0)))] H := hP
  refine W.widen (k := 1) (n := N) (by decide) (by omega) ?_
  refine lv_astore_n hx hb (show decode prog_18_method_9_code 4 = .ok (.astore_n 1, 1) from by decide +kernel) rfl hl (by decide) rfl (fun ls hl => ?_)
  have hl : lv_has ls 2 [(1, .ref q), (0, .ref t)] := hl
  refine lv_aload_n hx hb (show decode prog_18_method_9_code 5 = .ok (.aload_n 0, 1) from by decide +kernel) rfl (lv_at hl 1 rfl) ?_
  refine lv_iconst (v := 0) hx hb (show decode prog_18_method_9_code 6 = .ok (.iconst 0, 1) from by decide +kernel) (by decide) ?_
  refine lv_aload_n hx hb (show decode prog_18_method_9_code 7 = .ok (.aload_n 1, 1) from by decide +kernel) rfl (lv_at hl 0 rfl) ?_
  refine lv_iconst (v := 0) hx hb (show decode prog_18_method_9_code 8 = .ok (.iconst 0, 1) from by decide +kernel) (by decide) ?_
  refine lv_aload_n hx hb (show decode prog_18_method_9_code 9 = .ok (.aload_n 0, 1) from by decide +kernel) rfl (lv_at hl 1 rfl) ?_
  refine va_tlen hx hb hT hS (v := nI N) rfl (show decode prog_18_method_9_code 10 = .ok (.arraylength, 1) from by decide +kernel) ?_
  refine va_callv (va_runS (As := [.ref t, .int 0, .ref q, .int 0, .int (nI N)]) (rest := []) ⟨hx, hb, hml, hown, hts⟩ (c_inflate l D cA t q N b hN hbb (fun _ => 0)) ⟨callB_of 5 hts gi_inflate rfl rfl rfl (hts _ jwi_StringLatin1) (hts _ jw_50) ⟨by decide, by decide, by decide +kernel⟩ ⟨Nat.le_of_ble_eq_true rfl, Nat.le_of_ble_eq_true rfl⟩, hts _ jw_51⟩ ⟨fun a U g mk z => ⟨z.1, z.2.1.moved (u := U) (U := U.calling g mk a) (Vm.Alike.refl U.vm), z.2.2.1, va_K.moved (u := U) (U := U.calling g mk a) (Vm.Alike.refl U.vm) z.2.2.2⟩, fun U hU hW => ⟨rfl, by rw [hU]; exact ((hT.kept hS.2.1).narrow (fun x e => by rw [e]; exact hq)).moved hW.alike, by rw [hU]; exact hP, va_K.moved hW.alike hK⟩⟩ rfl rfl hl.1 rfl (lv_room (Nat.le_of_ble_eq_true rfl)) (show decode prog_18_method_9_code 11 = .ok (.invokestatic 13, 3) from by decide +kernel) ⟨show 1 + 0 ≤ 1 from by decide, show N + 0 ≤ N from by omega⟩) hS (fun x _ h => by rw [h]; exact hq) (fun x h => by rw [h]; exact hq) (fun g u H1 locs ht hvm hg hB hz1 hk1 hS => ?_)
  rw [ht] at hB
  refine lv_aload_n hx hb (show decode prog_18_method_9_code 14 = .ok (.aload_n 1, 1) from by decide +kernel) rfl (lv_at hl 0 rfl) ?_
  exact W.aret (v := .ref q) hx hb hr (Or.inr ⟨_, rfl⟩) (Or.inr ⟨_, rfl⟩) (fun u hu hW => ⟨⟨g, q, rfl, hg, by rw [hu]; exact hB, hq⟩, hS.F hu⟩) hS.2.2 (show decode prog_18_method_9_code 15 = .ok (.areturn, 1) from by decide +kernel)
set_option maxHeartbeats 4000000 in
set_option maxRecDepth 100000 in
theorem c_toCharArray (l : Launch) (D : va_G) (cA : FieldType → ClassId) (a t N sz : Nat) (b : Nat → Int32) (hN : N < 1000) (hbb : ∀ j, j < N → ((b j &&& 255).toUInt32 % 65536).toInt32 = b j ∧ vp_nar .char (b j) = b j) : Met l y_toCharArray ws_toCharArray ({ frames := 2, cells := 1, slots := N, locals := 50 }) (va_Pc [.ref a] (fun U => U.heap.size = sz ∧ jd_S a t N b (fun x => sz ≤ x) U U.heap ∧ va_K D mj_kl (mj_tys cA) U)) (va_Qr (fun g : Nat → Int32 => ∀ j, j < N → g j = b j) (fun g q u => va_P D mj_kl [(q, .inl (cA .char, N, .inl g))] u.heap ∧ sz ≤ q) (fun x => sz ≤ x)) 1 N (fun x => sz ≤ x) := by
  refine Met.ofW (cc := prog_17_method_129_code) (maxL := 1) (ret := some (.array .char)) (by decide) rfl ?_
  intro p e s m args below meth c s₁ B hml hv
  have hx := B.exec
  have hb := B.bytes
  have hr := B.returns
  have hlocks := B.notSynchronized
  have hts0 := atoms_spec (ws := ws_toCharArray) B.pre
  have hts : ∀ w ∈ mj_WS, w.before args s = true := fun w hw => hts0 w (List.mem_cons_of_mem _ hw)
  have hown : s.vm.findClass "java/lang/String" = some m.cls := findClass_of_methodNamed B.named
  obtain ⟨rfl, hsz, hJ, hK⟩ := hv
  subst hsz
  have hS : va_S (fun x => s.heap.size ≤ x) s.heap s.heap [] := va_S.rf
  have hl := lv_entry ([.ref a]) (n := 1) (Nat.le_of_ble_eq_true rfl)
  rw [lg_entry_eq]
  generalize (lg_sl ([.ref a]) ++ List.replicate (1 - (lg_sl ([.ref a])).length) Slot.unset).toArray = ls at hl ⊢
  have hl : lv_has ls 1 [(0, .ref a)] := hl
  refine lv_aload_n hx hb (show decode prog_17_method_129_code 0 = .ok (.aload_n 0, 1) from by decide +kernel) rfl (lv_at hl 0 rfl) ?_
  refine va_calli (va_runV (As := []) (rest := []) (b := a) (C := "java/lang/String") ⟨hx, hb, hml, hown, hts⟩ (c_isLatin1 l a) ⟨callB_of 0 hts gi_isLatin1 rfl rfl rfl (hts _ jwi_String) (hts _ jw_41) ⟨by decide, by decide, by decide +kernel⟩ ⟨Nat.le_of_ble_eq_true rfl, Nat.le_of_ble_eq_true rfl⟩, hts _ jw_42, hts _ jw_43⟩ ⟨fun a U g mk z => ⟨z.1, z.2.1.moved (u := U) (U := U.calling g mk a) (Vm.Alike.refl U.vm), z.2.2.moved (u := U) (U := U.calling g mk a) (Vm.Alike.refl U.vm)⟩, va_Orecv hJ.2.1 hS, fun U hU hW => ⟨rfl, by rw [hU]; exact (hJ.1.narrow (fun x e => e.elim)).moved hW.alike, by rw [hU]; exact (hJ.2.2.1.narrow (fun x e => e.elim)).moved hW.alike⟩⟩ rfl rfl hl.1 rfl (lv_room (Nat.le_of_ble_eq_true rfl)) (show decode prog_17_method_129_code 1 = .ok (.invokevirtual 492, 3) from by decide +kernel) ⟨Nat.zero_le _, Nat.zero_le _⟩) hS (fun x _ h => h.elim) (fun x h => h.elim) (fun r u t1 H1 locs ht hvm hr1 hB hz1 hk1 hS => ?_)
  subst hr1
  have hJ1 : jd_S a t N b (fun x => s.heap.size ≤ x) s H1 := hJ.kept hS.2.1
  refine lv_if_eq (tgt := 17) hx hb (show decode prog_17_method_129_code 4 = .ok (.ifCond .eq 13, 3) from by decide +kernel) (by decide) (fun h => absurd h (by decide)) (fun _ => ?_)
  refine lv_aload_n hx hb (show decode prog_17_method_129_code 7 = .ok (.aload_n 0, 1) from by decide +kernel) rfl (lv_at hl 0 rfl) ?_
  refine vk_getf hx hb hJ.2.2.2.1 hS hown (hts _ jw_1370) (fun _ h => h) (show decode prog_17_method_129_code 8 = .ok (.getfield 9, 3) from by decide +kernel) ?_
  have hle : s.heap.size ≤ H1.size := hS.1
  refine va_callr (va_runS (As := [.ref t]) (rest := []) ⟨hx, hb, hml, hown, hts⟩ (c_toChars l D cA t N H1.size b hN hbb) ⟨callB_of 1 hts gi_toChars rfl rfl rfl (hts _ jwi_StringLatin1) (hts _ jw_47) ⟨by decide, by decide, by decide +kernel⟩ ⟨Nat.le_of_ble_eq_true rfl, Nat.le_of_ble_eq_true rfl⟩, hts _ jw_48⟩ ⟨fun a U g mk z => ⟨z.1, z.2.1, z.2.2.1.moved (u := U) (U := U.calling g mk a) (Vm.Alike.refl U.vm), va_K.moved (u := U) (U := U.calling g mk a) (Vm.Alike.refl U.vm) z.2.2.2⟩, fun U hU hW => ⟨rfl, by rw [hU], by rw [hU]; exact (hJ1.2.2.2.2.narrow (fun x e => Nat.le_trans hle e)).moved hW.alike, va_K.moved hW.alike hK⟩⟩ rfl rfl hl.1 rfl (lv_room (Nat.le_of_ble_eq_true rfl)) (show decode prog_17_method_129_code 11 = .ok (.invokestatic 299, 3) from by decide +kernel) ⟨show 0 + 0 + 1 ≤ 1 from by decide, show 0 + 0 + N ≤ N from by omega⟩) hS (fun x _ h => Nat.le_trans hle h) (fun x h => Nat.le_trans hle h) (fun g ra t2 H2 locs ht2 hvm2 hg hB2 hz2 hk2 hS => ?_)
  rw [ht2] at hB2
  refine lv_goto (tgt := 24) hx hb (show decode prog_17_method_129_code 14 = .ok (.goto 10, 3) from by decide +kernel) (by decide) ?_
  refine W.widen (k := 1) (n := N) (by decide) (by omega) ?_
  exact W.aret (v := .ref ra) hx hb hr (Or.inr ⟨_, rfl⟩) (Or.inr ⟨_, rfl⟩) (fun u hu hW => ⟨⟨g, ra, rfl, hg, by rw [hu]; exact hB2.1, Nat.le_trans hle hB2.2⟩, hS.F hu⟩) hS.2.2 (show decode prog_17_method_129_code 24 = .ok (.areturn, 1) from by decide +kernel)
