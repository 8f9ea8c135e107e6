/-! the constructor of Pairs: arrays, then a loop in the small machine -/
theorem mj_Wq {p : Program} {l : Launch} {e : Env} {R : Room} {s : State} {m : MethodId} {args : Array Value} {below : List Frame} {meth : Method} {c : Code} {H : Heap} {locs : List Loc} {cells slots : Nat} {Q1 Q2 : State → Prop} {g : JFrame} (h : W p l e R s m args below meth c H locs cells slots Q1 g) (hq : ∀ t, Q1 t → Q2 t) : W p l e R s m args below meth c H locs cells slots Q2 g := fun T hT X => by
  obtain ⟨t, a, b⟩ := h T hT X
  exact ⟨t, a, hq t b⟩
theorem mj_MQ {below : List Frame} {a : Array Value} {s : State} {mc ms : Nat} {Qc1 Qc2 : Array Value → State → Outcome → State → Prop} {f1 f2 : Addr → Prop} (hQ : ∀ o t, Qc1 a s o t → s.WarmedH t.vm → Qc2 a s o t) (hf : ∀ q, f1 q → f2 q) : ∀ t, MQ below Qc1 a s mc ms f1 t → MQ below Qc2 a s mc ms f2 t := by
  rintro t ⟨o, h1, h2, h3, L, h4, h5⟩
  exact ⟨o, h1, h2, hQ o t h3 h4.2.1, L, h4, fun q hq => hf _ (h5 q hq)⟩
theorem mj_LR_of {nL : Nat} {ad : Nat → Nat} {ls : List (Option mj_V)} {real : Array Slot} (h : lv_has real nL (mj_ps ad ls)) (hl : ls.length = nL) : mj_LR nL ad ls real := ⟨hl, h.1, h.2.1, fun i v hi => h.2.2 (i, mj_v ad v) (mj_ps_mem.mpr ⟨v, hi, rfl⟩)⟩
theorem mj_D_of {D : va_G} {A : Nat → Prop} {cA : FieldType → ClassId} {ad : Nat → Nat} {L : List mj_C} {σ : mj_S} (h : va_D A (mj_w cA ad L σ)) : mj_D ad L ∧ ∀ q, mj_A ad L q → A q := by
  have hg : ∀ i, i < L.length → ∃ e, (mj_w cA ad L σ)[i]? = some (ad i, e) := fun i hi => ⟨_, mj_w_some (List.getElem?_eq_getElem hi)⟩
  refine ⟨fun i j hi hj hij => ?_, fun q hq => ?_⟩
  · obtain ⟨e1, h1⟩ := hg i hi
    obtain ⟨e2, h2⟩ := hg j hj
    exact h.1 i j _ _ h1 h2 hij
  · obtain ⟨i, hi, rfl⟩ := hq
    obtain ⟨e1, h1⟩ := hg i hi
    exact h.2 i _ h1
def lh_p0_72 (d : Nat) (Q : mj_Q) (y1 : Int) (σ : mj_S) : Prop := mj_P mjp_L mjp_Ms d mjpo0 ((Option.none : Option Jvm.ClassFile.FieldType)) Q 72 [some (.inr (.inl 0)), some (.inl y1), none] [] σ
def lh_p0_74 (d : Nat) (Q : mj_Q) (y1 y2 : Int) (σ : mj_S) : Prop := mj_P mjp_L mjp_Ms d mjpo0 ((Option.none : Option Jvm.ClassFile.FieldType)) Q 74 [some (.inr (.inl 0)), some (.inl y1), some (.inl y2)] [] σ
set_option maxRecDepth 20000 in
theorem lw_p0_72 {d : Nat} {Q : mj_Q} {y1 : Int} {σ : mj_S} (h : lh_p0_74 d Q y1 0 σ) : lh_p0_72 d Q y1 σ := by
  show mj_P mjp_L mjp_Ms d mjpo0 ((Option.none : Option Jvm.ClassFile.FieldType)) Q 72 [some (.inr (.inl 0)), some (.inl y1), none] [] σ
  refine mr_const (pc' := 73) rfl rfl (by unfold mj_r; decide) ?_
  refine mr_istore (pc' := 74) rfl rfl trivial (Nat.le_of_ble_eq_true rfl) rfl ?_
  exact mj_W_ls (mj_B_mono d) (mj_lev_of _ _ (by simp [mj_levb])) h
set_option maxRecDepth 20000 in
theorem lw_p0_74 {d : Nat} {Q : mj_Q} {y1 y2 : Int} {σ : mj_S} (h : (y1 ≤ y2 → Q none σ) ∧ (y2 < y1 → (200 ≤ y2 → Q none σ) ∧ (y2 < 200 → 0 ≤ y2 ∧ y2 < 200 ∧ ∀ σ1, σ1 = mj_up σ 3 y2.toNat y2 → mj_r ((σ1 0 9) + 1) ∧ ∀ σ2, σ2 = mj_up σ1 0 9 ((σ1 0 9) + 1) → mj_r (y2 + 1) ∧ lh_p0_74 d Q y1 (y2 + 1) σ2))) : lh_p0_74 d Q y1 y2 σ := by
  show mj_P mjp_L mjp_Ms d mjpo0 ((Option.none : Option Jvm.ClassFile.FieldType)) Q 74 [some (.inr (.inl 0)), some (.inl y1), some (.inl y2)] [] σ
  refine mr_iload (pc' := 75) rfl rfl rfl ?_
  refine mr_iload (pc' := 76) rfl rfl rfl ?_
  refine mr_ic_ge (pc' := 79) rfl rfl (fun c => ?_) (fun c => ?_)
  · replace h := h.1 c
    exact mr_ret rfl rfl h
  · replace h := h.2 c
    refine mr_iload (pc' := 80) rfl rfl rfl ?_
    refine mr_const (pc' := 83) rfl rfl (by unfold mj_r; decide) ?_
    refine mr_ic_ge (pc' := 86) rfl rfl (fun c => ?_) (fun c => ?_)
    · replace h := h.1 c
      exact mr_ret rfl rfl h
    · replace h := h.2 c
      refine mr_aload (pc' := 87) rfl rfl rfl ?_
      refine mr_getr (ci := 0) (pc' := 90) rfl rfl rfl rfl ?_
      refine mr_iload (pc' := 91) rfl rfl rfl ?_
      refine mr_iload (pc' := 92) rfl rfl rfl ?_
      obtain ⟨h0, h1, h⟩ := h
      refine mr_iast (pc' := 93) rfl rfl rfl h0 h1 (fun σ1 e9 => ?_)
      replace h := h σ1 e9
      refine mr_aload (pc' := 94) rfl rfl rfl ?_
      refine mr_dup (pc' := 95) rfl rfl trivial ?_
      refine mr_get (ci := 0) (pc' := 98) rfl rfl rfl rfl ?_
      refine mr_const (pc' := 99) rfl rfl (by unfold mj_r; decide) ?_
      obtain ⟨h0, h⟩ := h
      refine mr_iadd (pc' := 100) rfl rfl h0 ?_
      refine mr_put (pc' := 103) rfl rfl rfl rfl (fun σ2 e9 => ?_)
      replace h := h σ2 e9
      obtain ⟨h0, h⟩ := h
      refine mr_iinc (pc' := 106) rfl rfl rfl trivial h0 rfl ?_
      refine mr_goto rfl ?_
      exact mj_W_ls (mj_B_mono d) (mj_lev_of _ _ (by simp [mj_levb])) h
/-- the pairs' state: the size x, and i free places -/
def fP (x i : Int) : mj_S := fun q k => if q = 0 then (if k = 0 then x else if k = 9 then i else 0) else if q = 3 then (if (k : Int) < i then (k : Int) else 0) else 0
theorem fP_ok {x i : Int} (hx : mj_r x) (hi : mj_r i) : mj_okS (fP x i) := by
  intro q k
  unfold fP
  by_cases h1 : q = 0
  · rw [if_pos h1]
    by_cases h2 : k = 0
    · rw [if_pos h2]; exact hx
    · rw [if_neg h2]
      by_cases h3 : k = 9
      · rw [if_pos h3]; exact hi
      · rw [if_neg h3]; exact mj_0
  · rw [if_neg h1]
    by_cases h2 : q = 3
    · rw [if_pos h2]
      by_cases h3 : (k : Int) < i
      · rw [if_pos h3]; exact ⟨by omega, by have := hi.2; omega⟩
      · rw [if_neg h3]; exact mj_0
    · rw [if_neg h2]; exact mj_0
theorem fP_up {x i : Int} (h0 : 0 ≤ i) : mj_up (mj_up (fP x i) 3 i.toNat i) 0 9 (i + 1) = fP x (i + 1) := by
  funext q k
  unfold mj_up fP
  by_cases h1 : q = 0
  · subst h1
    by_cases h2 : k = 9
    · subst h2; simp
    · simp [h2]
  · by_cases h3 : q = 3
    · subst h3
      by_cases h4 : k = i.toNat
      · subst h4
        have : ((i.toNat : Nat) : Int) < i + 1 := by omega
        have e : ((i.toNat : Nat) : Int) = i := by omega
        simp [e]; omega
      · simp only [if_neg h1, if_true, if_neg h4]
        by_cases h5 : (k : Int) < i
        · rw [if_pos h5, if_pos (by omega)]
        · rw [if_neg h5, if_neg (by omega)]
    · simp [h1, h3]
theorem fP_loop {d : Nat} {Q : mj_Q} {x : Int} (hx : x ≤ 200) (hQ : Q none (fP x x)) : ∀ (n : Nat) (i : Int), 0 ≤ i → i ≤ x → (x - i).toNat = n → lh_p0_74 d Q x i (fP x i) := by
  intro n
  induction n with
  | zero =>
    intro i h0 h1 hn
    have e : i = x := by omega
    subst e
    refine lw_p0_74 ⟨fun _ => hQ, fun h => absurd h (by omega)⟩
  | succ n ih =>
    intro i h0 h1 hn
    refine lw_p0_74 ⟨fun h => absurd h (by omega), fun _ => ⟨fun h => absurd h (by omega), fun _ => ⟨h0, by omega, fun σ1 e1 => ?_⟩⟩⟩
    have e2 : σ1 0 9 = i := by rw [e1]; simp [mj_up, fP]
    refine ⟨by rw [e2]; exact ⟨by omega, by omega⟩, fun σ2 e3 => ⟨⟨by omega, by omega⟩, ?_⟩⟩
    rw [e2, e1, fP_up h0] at e3
    rw [e3]
    exact ih (i + 1) (by omega) (by omega) (by omega)
set_option maxRecDepth 20000 in
theorem cw_122 : (Jvm.Cond.methodLink "ListSpeaker$Pairs" (3 : Nat) ({ cls := "java/lang/Object", name := "<init>", desc := "()V" } : Jvm.MethodName)) ∈ mj_WS := mj_mem 122 (by decide +kernel) (by decide)
set_option maxRecDepth 20000 in
theorem cw_123 : (Jvm.Cond.fieldLink "ListSpeaker$Pairs" (34 : Nat) "ListSpeaker$Pairs" "size" "I") ∈ mj_WS := mj_mem 123 (by decide +kernel) (by decide)
set_option maxRecDepth 20000 in
theorem cw_124 : (Jvm.Cond.fieldLink "ListSpeaker$Pairs" (9 : Nat) "ListSpeaker$Pairs" "cars" "[I") ∈ mj_WS := mj_mem 124 (by decide +kernel) (by decide)
set_option maxRecDepth 20000 in
theorem cw_125 : (Jvm.Cond.fieldLink "ListSpeaker$Pairs" (15 : Nat) "ListSpeaker$Pairs" "cdrs" "[I") ∈ mj_WS := mj_mem 125 (by decide +kernel) (by decide)
set_option maxRecDepth 20000 in
theorem cw_126 : (Jvm.Cond.fieldLink "ListSpeaker$Pairs" (18 : Nat) "ListSpeaker$Pairs" "free" "[I") ∈ mj_WS := mj_mem 126 (by decide +kernel) (by decide)
set_option maxRecDepth 20000 in
theorem cw_127 : (Jvm.Cond.fieldLink "ListSpeaker$Pairs" (21 : Nat) "ListSpeaker$Pairs" "reached" "[Z") ∈ mj_WS := mj_mem 127 (by decide +kernel) (by decide)
set_option maxRecDepth 20000 in
theorem cw_128 : (Jvm.Cond.fieldLink "ListSpeaker$Pairs" (25 : Nat) "ListSpeaker$Pairs" "waiting" "[I") ∈ mj_WS := mj_mem 128 (by decide +kernel) (by decide)
set_option maxRecDepth 20000 in
theorem cw_129 : (Jvm.Cond.fieldLink "ListSpeaker$Pairs" (28 : Nat) "ListSpeaker$Pairs" "left" "[I") ∈ mj_WS := mj_mem 129 (by decide +kernel) (by decide)
set_option maxRecDepth 20000 in
theorem cw_130 : (Jvm.Cond.fieldLink "ListSpeaker$Pairs" (31 : Nat) "ListSpeaker$Pairs" "right" "[I") ∈ mj_WS := mj_mem 130 (by decide +kernel) (by decide)
def y_Pairs : MethodName := ({ cls := "ListSpeaker$Pairs", name := "<init>", desc := "(I)V" } : Jvm.MethodName)
set_option maxRecDepth 20000 in
theorem cwc_Pairs : Jvm.Cond.code y_Pairs prog_6_method_1_code 3 none ∈ mj_WS := mj_mem 121 rfl rfl
set_option maxHeartbeats 4000000 in
set_option maxRecDepth 100000 in
theorem c_Pairs (l : Launch) (D : va_G) (cA : FieldType → ClassId) (h0 sz : Nat) (x : Int) (hx0 : 4 ≤ x) (hx1 : x ≤ 200) : Met l y_Pairs (Jvm.Cond.code y_Pairs prog_6_method_1_code 3 none :: mj_WS) ({ frames := 2, cells := 7, slots := 3004, locals := 150 }) (va_Pc [.ref h0, .int (Int32.ofInt x)] (fun U => U.heap.size = sz ∧ va_P D mj_kl [(h0, .inr (2, [.int 0, .null, .null, .null, .null, .null, .null, .null, .int 0, .int 0, .int 0, .int 0]))] U.heap ∧ va_K D mj_kl (mj_tys cA) U ∧ va_D (fun _ => True) [(h0, .inr (2, [.int 0, .null, .null, .null, .null, .null, .null, .null, .int 0, .int 0, .int 0, .int 0]))] ∧ ∀ w ∈ mj_NWs, va_Nw w U)) (va_Qv (fun u : (Nat → Nat) × mj_S => u.1 0 = h0 ∧ u.2 = fP x x) (fun u t => va_P D mj_kl (mj_w cA u.1 mjp_L u.2) t.heap ∧ va_K D mj_kl (mj_tys cA) t ∧ va_D (va_A [(h0, .inr (2, [.int 0, .null, .null, .null, .null, .null, .null, .null, .int 0, .int 0, .int 0, .int 0]))] sz) (mj_w cA u.1 mjp_L u.2)) (va_A [(h0, .inr (2, [.int 0, .null, .null, .null, .null, .null, .null, .null, .int 0, .int 0, .int 0, .int 0]))] sz)) 7 3004 (va_A [(h0, .inr (2, [.int 0, .null, .null, .null, .null, .null, .null, .null, .int 0, .int 0, .int 0, .int 0]))] sz) := by
  refine Met.ofW (cc := prog_6_method_1_code) (maxL := 3) (ret := none) (by decide) rfl ?_
  intro p e s m args below meth c s₁ B hml hv
  obtain ⟨rfl, hsz, hP, hK, hD0, hNs⟩ := hv
  have hx := B.exec
  have hb := B.bytes
  have hr := B.returns
  have hts0 := atoms_spec (ws := Jvm.Cond.code y_Pairs prog_6_method_1_code 3 none :: mj_WS) B.pre
  have hts : ∀ w ∈ mj_WS, w.before _ s = true := fun w hw => hts0 w (List.mem_cons_of_mem _ hw)
  have hown : s.vm.findClass "ListSpeaker$Pairs" = some m.cls := findClass_of_methodNamed B.named
  have hlocks := B.notSynchronized
  have hin : meth.name = "<init>" := (name_of_methodNamed B.named B.method).1
  subst hsz
  have hD := hD0.self (sz := s.heap.size)
  generalize hAe : va_A [(h0, .inr (2, [.int 0, .null, .null, .null, .null, .null, .null, .null, .int 0, .int 0, .int 0, .int 0]))] s.heap.size = A at hD ⊢
  have hA : ∀ q : Nat, s.heap.size ≤ q → A q := fun q h => by rw [← hAe]; exact Or.inr h
  have hS : va_S A s.heap s.heap [] := va_S.rf
  have hP : va_P D mj_kl [(h0, .inr (2, [.int 0, .null, .null, .null, .null, .null, .null, .null, .int 0, .int 0, .int 0, .int 0]))] s.heap := hP
  have hl := lv_entry ([.ref h0, .int (Int32.ofInt x)]) (n := 3) (Nat.le_of_ble_eq_true rfl)
  rw [lg_entry_eq]
  generalize (lg_sl ([.ref h0, .int (Int32.ofInt x)]) ++ List.replicate (3 - (lg_sl ([.ref h0, .int (Int32.ofInt x)])).length) Slot.unset).toArray = ls at hl ⊢
  have hl : lv_has ls 3 [(0, .ref h0), (1, .int (Int32.ofInt x))] := hl
  refine lv_aload_n hx hb (show decode prog_6_method_1_code 0 = .ok (.aload_n 0, 1) from by decide +kernel) rfl (lv_at hl 0 rfl) ?_
  refine W.objInit hx hb hown (hts _ cw_122) (hts _ cw_28) (hts _ cw_29) rfl (by rw [hml]; exact hl.1) rfl (show decode prog_6_method_1_code 1 = .ok (.invokespecial 3, 3) from by decide +kernel) (Nat.le_of_ble_eq_true rfl) (Nat.le_of_ble_eq_true rfl) ?_
  refine W.eq (g2 := F0 m 4 ls []) rfl ?_
  refine lv_aload_n hx hb (show decode prog_6_method_1_code 4 = .ok (.aload_n 0, 1) from by decide +kernel) rfl (lv_at hl 0 rfl) ?_
  refine lv_sipush (v := 600) hx hb (show decode prog_6_method_1_code 5 = .ok (.sipush 600, 3) from by decide +kernel) (by decide) ?_
  refine va_newa (atype := .int) hx hb (hts _ cw_109) (ty := .int) rfl hK hP hD hS hA (N' := 600) (a0 := (600, .inl (fun _ => 0))) (fun _ => rfl) (by decide) (by decide) (by decide) (show 0 + 1 ≤ 7 from by decide) (show 0 + 600 ≤ 3004 from by decide) (show decode prog_6_method_1_code 8 = .ok (.newarray .int, 2) from by decide +kernel) (fun q8 c8 H hK1 hP hD hS => ?_)
  obtain rfl := mj_sameA (ty := .int) hK1 hK (by decide)
  refine W.widen (k := 1) (n := 600) (by decide) (by decide) ?_
  have hP : va_P D mj_kl [(h0, .inr (2, [.int 0, .null, .null, .null, .null, .null, .null, .null, .int 0, .int 0, .int 0, .int 0])), (q8, .inl (cA .int, 600, .inl (fun _ => 0)))] H := hP
  have hD : va_D A [(h0, .inr (2, [.int 0, .null, .null, .null, .null, .null, .null, .null, .int 0, .int 0, .int 0, .int 0])), (q8, .inl (cA .int, 600, .inl (fun _ => 0)))] := hD
  refine va_putF (D := D) (ci := 2) (v := .ref q8) (ty := .array .int) (C := "ListSpeaker$Pairs") (T := mjF2) (N := 12) hx hb hts mjw2 mjt2 mjk2 mjn2 hown hK hP hD hS 0 rfl rfl 1 (by decide) (hts _ cw_124) (fun _ h9 => h9) rfl hin rfl (by decide +kernel) rfl rfl (Nat.le_of_ble_eq_true rfl) (show decode prog_6_method_1_code 10 = .ok (.putfield 9, 3) from by decide +kernel) (fun H locs hP hD hS => ?_)
  have hP : va_P D mj_kl [(h0, .inr (2, [.int 0, .ref q8, .null, .null, .null, .null, .null, .null, .int 0, .int 0, .int 0, .int 0])), (q8, .inl (cA .int, 600, .inl (fun _ => 0)))] H := hP
  have hD : va_D A [(h0, .inr (2, [.int 0, .ref q8, .null, .null, .null, .null, .null, .null, .int 0, .int 0, .int 0, .int 0])), (q8, .inl (cA .int, 600, .inl (fun _ => 0)))] := hD
  refine lv_aload_n hx hb (show decode prog_6_method_1_code 13 = .ok (.aload_n 0, 1) from by decide +kernel) rfl (lv_at hl 0 rfl) ?_
  refine lv_sipush (v := 600) hx hb (show decode prog_6_method_1_code 14 = .ok (.sipush 600, 3) from by decide +kernel) (by decide) ?_
  refine va_newa (atype := .int) hx hb (hts _ cw_109) (ty := .int) rfl hK hP hD hS hA (N' := 600) (a0 := (600, .inl (fun _ => 0))) (fun _ => rfl) (by decide) (by decide) (by decide) (show 1 + 1 ≤ 7 from by decide) (show 600 + 600 ≤ 3004 from by decide) (show decode prog_6_method_1_code 17 = .ok (.newarray .int, 2) from by decide +kernel) (fun q17 c17 H hK1 hP hD hS => ?_)
  obtain rfl := mj_sameA (ty := .int) hK1 hK (by decide)
  refine W.widen (k := 2) (n := 1200) (by decide) (by decide) ?_
  have hP : va_P D mj_kl [(h0, .inr (2, [.int 0, .ref q8, .null, .null, .null, .null, .null, .null, .int 0, .int 0, .int 0, .int 0])), (q8, .inl (cA .int, 600, .inl (fun _ => 0))), (q17, .inl (cA .int, 600, .inl (fun _ => 0)))] H := hP
  have hD : va_D A [(h0, .inr (2, [.int 0, .ref q8, .null, .null, .null, .null, .null, .null, .int 0, .int 0, .int 0, .int 0])), (q8, .inl (cA .int, 600, .inl (fun _ => 0))), (q17, .inl (cA .int, 600, .inl (fun _ => 0)))] := hD
  refine va_putF (D := D) (ci := 2) (v := .ref q17) (ty := .array .int) (C := "ListSpeaker$Pairs") (T := mjF2) (N := 12) hx hb hts mjw2 mjt2 mjk2 mjn2 hown hK hP hD hS 0 rfl rfl 2 (by decide) (hts _ cw_125) (fun _ h9 => h9) rfl hin rfl (by decide +kernel) rfl rfl (Nat.le_of_ble_eq_true rfl) (show decode prog_6_method_1_code 19 = .ok (.putfield 15, 3) from by decide +kernel) (fun H locs hP hD hS => ?_)
  have hP : va_P D mj_kl [(h0, .inr (2, [.int 0, .ref q8, .ref q17, .null, .null, .null, .null, .null, .int 0, .int 0, .int 0, .int 0])), (q8, .inl (cA .int, 600, .inl (fun _ => 0))), (q17, .inl (cA .int, 600, .inl (fun _ => 0)))] H := hP
  have hD : va_D A [(h0, .inr (2, [.int 0, .ref q8, .ref q17, .null, .null, .null, .null, .null, .int 0, .int 0, .int 0, .int 0])), (q8, .inl (cA .int, 600, .inl (fun _ => 0))), (q17, .inl (cA .int, 600, .inl (fun _ => 0)))] := hD
  refine lv_aload_n hx hb (show decode prog_6_method_1_code 22 = .ok (.aload_n 0, 1) from by decide +kernel) rfl (lv_at hl 0 rfl) ?_
  refine lv_sipush (v := 200) hx hb (show decode prog_6_method_1_code 23 = .ok (.sipush 200, 3) from by decide +kernel) (by decide) ?_
  refine va_newa (atype := .int) hx hb (hts _ cw_109) (ty := .int) rfl hK hP hD hS hA (N' := 200) (a0 := (200, .inl (fun _ => 0))) (fun _ => rfl) (by decide) (by decide) (by decide) (show 2 + 1 ≤ 7 from by decide) (show 1200 + 200 ≤ 3004 from by decide) (show decode prog_6_method_1_code 26 = .ok (.newarray .int, 2) from by decide +kernel) (fun q26 c26 H hK1 hP hD hS => ?_)
  obtain rfl := mj_sameA (ty := .int) hK1 hK (by decide)
  refine W.widen (k := 3) (n := 1400) (by decide) (by decide) ?_
  have hP : va_P D mj_kl [(h0, .inr (2, [.int 0, .ref q8, .ref q17, .null, .null, .null, .null, .null, .int 0, .int 0, .int 0, .int 0])), (q8, .inl (cA .int, 600, .inl (fun _ => 0))), (q17, .inl (cA .int, 600, .inl (fun _ => 0))), (q26, .inl (cA .int, 200, .inl (fun _ => 0)))] H := hP
  have hD : va_D A [(h0, .inr (2, [.int 0, .ref q8, .ref q17, .null, .null, .null, .null, .null, .int 0, .int 0, .int 0, .int 0])), (q8, .inl (cA .int, 600, .inl (fun _ => 0))), (q17, .inl (cA .int, 600, .inl (fun _ => 0))), (q26, .inl (cA .int, 200, .inl (fun _ => 0)))] := hD
  refine va_putF (D := D) (ci := 2) (v := .ref q26) (ty := .array .int) (C := "ListSpeaker$Pairs") (T := mjF2) (N := 12) hx hb hts mjw2 mjt2 mjk2 mjn2 hown hK hP hD hS 0 rfl rfl 3 (by decide) (hts _ cw_126) (fun _ h9 => h9) rfl hin rfl (by decide +kernel) rfl rfl (Nat.le_of_ble_eq_true rfl) (show decode prog_6_method_1_code 28 = .ok (.putfield 18, 3) from by decide +kernel) (fun H locs hP hD hS => ?_)
  have hP : va_P D mj_kl [(h0, .inr (2, [.int 0, .ref q8, .ref q17, .ref q26, .null, .null, .null, .null, .int 0, .int 0, .int 0, .int 0])), (q8, .inl (cA .int, 600, .inl (fun _ => 0))), (q17, .inl (cA .int, 600, .inl (fun _ => 0))), (q26, .inl (cA .int, 200, .inl (fun _ => 0)))] H := hP
  have hD : va_D A [(h0, .inr (2, [.int 0, .ref q8, .ref q17, .ref q26, .null, .null, .null, .null, .int 0, .int 0, .int 0, .int 0])), (q8, .inl (cA .int, 600, .inl (fun _ => 0))), (q17, .inl (cA .int, 600, .inl (fun _ => 0))), (q26, .inl (cA .int, 200, .inl (fun _ => 0)))] := hD
  refine lv_aload_n hx hb (show decode prog_6_method_1_code 31 = .ok (.aload_n 0, 1) from by decide +kernel) rfl (lv_at hl 0 rfl) ?_
  refine lv_sipush (v := 200) hx hb (show decode prog_6_method_1_code 32 = .ok (.sipush 200, 3) from by decide +kernel) (by decide) ?_
  refine va_newa (atype := .boolean) hx hb (hts _ cw_160) (ty := .boolean) rfl hK hP hD hS hA (N' := 200) (a0 := (200, .inl (fun _ => 0))) (fun _ => rfl) (by decide) (by decide) (by decide) (show 3 + 1 ≤ 7 from by decide) (show 1400 + 200 ≤ 3004 from by decide) (show decode prog_6_method_1_code 35 = .ok (.newarray .boolean, 2) from by decide +kernel) (fun q35 c35 H hK1 hP hD hS => ?_)
  obtain rfl := mj_sameA (ty := .boolean) hK1 hK (by decide)
  refine W.widen (k := 4) (n := 1600) (by decide) (by decide) ?_
  have hP : va_P D mj_kl [(h0, .inr (2, [.int 0, .ref q8, .ref q17, .ref q26, .null, .null, .null, .null, .int 0, .int 0, .int 0, .int 0])), (q8, .inl (cA .int, 600, .inl (fun _ => 0))), (q17, .inl (cA .int, 600, .inl (fun _ => 0))), (q26, .inl (cA .int, 200, .inl (fun _ => 0))), (q35, .inl (cA .boolean, 200, .inl (fun _ => 0)))] H := hP
  have hD : va_D A [(h0, .inr (2, [.int 0, .ref q8, .ref q17, .ref q26, .null, .null, .null, .null, .int 0, .int 0, .int 0, .int 0])), (q8, .inl (cA .int, 600, .inl (fun _ => 0))), (q17, .inl (cA .int, 600, .inl (fun _ => 0))), (q26, .inl (cA .int, 200, .inl (fun _ => 0))), (q35, .inl (cA .boolean, 200, .inl (fun _ => 0)))] := hD
  refine va_putF (D := D) (ci := 2) (v := .ref q35) (ty := .array .boolean) (C := "ListSpeaker$Pairs") (T := mjF2) (N := 12) hx hb hts mjw2 mjt2 mjk2 mjn2 hown hK hP hD hS 0 rfl rfl 4 (by decide) (hts _ cw_127) (fun _ h9 => h9) rfl hin rfl (by decide +kernel) rfl rfl (Nat.le_of_ble_eq_true rfl) (show decode prog_6_method_1_code 37 = .ok (.putfield 21, 3) from by decide +kernel) (fun H locs hP hD hS => ?_)
  have hP : va_P D mj_kl [(h0, .inr (2, [.int 0, .ref q8, .ref q17, .ref q26, .ref q35, .null, .null, .null, .int 0, .int 0, .int 0, .int 0])), (q8, .inl (cA .int, 600, .inl (fun _ => 0))), (q17, .inl (cA .int, 600, .inl (fun _ => 0))), (q26, .inl (cA .int, 200, .inl (fun _ => 0))), (q35, .inl (cA .boolean, 200, .inl (fun _ => 0)))] H := hP
  have hD : va_D A [(h0, .inr (2, [.int 0, .ref q8, .ref q17, .ref q26, .ref q35, .null, .null, .null, .int 0, .int 0, .int 0, .int 0])), (q8, .inl (cA .int, 600, .inl (fun _ => 0))), (q17, .inl (cA .int, 600, .inl (fun _ => 0))), (q26, .inl (cA .int, 200, .inl (fun _ => 0))), (q35, .inl (cA .boolean, 200, .inl (fun _ => 0)))] := hD
  refine lv_aload_n hx hb (show decode prog_6_method_1_code 40 = .ok (.aload_n 0, 1) from by decide +kernel) rfl (lv_at hl 0 rfl) ?_
  refine lv_sipush (v := 200) hx hb (show decode prog_6_method_1_code 41 = .ok (.sipush 200, 3) from by decide +kernel) (by decide) ?_
  refine va_newa (atype := .int) hx hb (hts _ cw_109) (ty := .int) rfl hK hP hD hS hA (N' := 200) (a0 := (200, .inl (fun _ => 0))) (fun _ => rfl) (by decide) (by decide) (by decide) (show 4 + 1 ≤ 7 from by decide) (show 1600 + 200 ≤ 3004 from by decide) (show decode prog_6_method_1_code 44 = .ok (.newarray .int, 2) from by decide +kernel) (fun q44 c44 H hK1 hP hD hS => ?_)
  obtain rfl := mj_sameA (ty := .int) hK1 hK (by decide)
  refine W.widen (k := 5) (n := 1800) (by decide) (by decide) ?_
  have hP : va_P D mj_kl [(h0, .inr (2, [.int 0, .ref q8, .ref q17, .ref q26, .ref q35, .null, .null, .null, .int 0, .int 0, .int 0, .int 0])), (q8, .inl (cA .int, 600, .inl (fun _ => 0))), (q17, .inl (cA .int, 600, .inl (fun _ => 0))), (q26, .inl (cA .int, 200, .inl (fun _ => 0))), (q35, .inl (cA .boolean, 200, .inl (fun _ => 0))), (q44, .inl (cA .int, 200, .inl (fun _ => 0)))] H := hP
  have hD : va_D A [(h0, .inr (2, [.int 0, .ref q8, .ref q17, .ref q26, .ref q35, .null, .null, .null, .int 0, .int 0, .int 0, .int 0])), (q8, .inl (cA .int, 600, .inl (fun _ => 0))), (q17, .inl (cA .int, 600, .inl (fun _ => 0))), (q26, .inl (cA .int, 200, .inl (fun _ => 0))), (q35, .inl (cA .boolean, 200, .inl (fun _ => 0))), (q44, .inl (cA .int, 200, .inl (fun _ => 0)))] := hD
  refine va_putF (D := D) (ci := 2) (v := .ref q44) (ty := .array .int) (C := "ListSpeaker$Pairs") (T := mjF2) (N := 12) hx hb hts mjw2 mjt2 mjk2 mjn2 hown hK hP hD hS 0 rfl rfl 5 (by decide) (hts _ cw_128) (fun _ h9 => h9) rfl hin rfl (by decide +kernel) rfl rfl (Nat.le_of_ble_eq_true rfl) (show decode prog_6_method_1_code 46 = .ok (.putfield 25, 3) from by decide +kernel) (fun H locs hP hD hS => ?_)
  have hP : va_P D mj_kl [(h0, .inr (2, [.int 0, .ref q8, .ref q17, .ref q26, .ref q35, .ref q44, .null, .null, .int 0, .int 0, .int 0, .int 0])), (q8, .inl (cA .int, 600, .inl (fun _ => 0))), (q17, .inl (cA .int, 600, .inl (fun _ => 0))), (q26, .inl (cA .int, 200, .inl (fun _ => 0))), (q35, .inl (cA .boolean, 200, .inl (fun _ => 0))), (q44, .inl (cA .int, 200, .inl (fun _ => 0)))] H := hP
  have hD : va_D A [(h0, .inr (2, [.int 0, .ref q8, .ref q17, .ref q26, .ref q35, .ref q44, .null, .null, .int 0, .int 0, .int 0, .int 0])), (q8, .inl (cA .int, 600, .inl (fun _ => 0))), (q17, .inl (cA .int, 600, .inl (fun _ => 0))), (q26, .inl (cA .int, 200, .inl (fun _ => 0))), (q35, .inl (cA .boolean, 200, .inl (fun _ => 0))), (q44, .inl (cA .int, 200, .inl (fun _ => 0)))] := hD
  refine lv_aload_n hx hb (show decode prog_6_method_1_code 49 = .ok (.aload_n 0, 1) from by decide +kernel) rfl (lv_at hl 0 rfl) ?_
  refine lv_sipush (v := 602) hx hb (show decode prog_6_method_1_code 50 = .ok (.sipush 602, 3) from by decide +kernel) (by decide) ?_
  refine va_newa (atype := .int) hx hb (hts _ cw_109) (ty := .int) rfl hK hP hD hS hA (N' := 602) (a0 := (602, .inl (fun _ => 0))) (fun _ => rfl) (by decide) (by decide) (by decide) (show 5 + 1 ≤ 7 from by decide) (show 1800 + 602 ≤ 3004 from by decide) (show decode prog_6_method_1_code 53 = .ok (.newarray .int, 2) from by decide +kernel) (fun q53 c53 H hK1 hP hD hS => ?_)
  obtain rfl := mj_sameA (ty := .int) hK1 hK (by decide)
  refine W.widen (k := 6) (n := 2402) (by decide) (by decide) ?_
  have hP : va_P D mj_kl [(h0, .inr (2, [.int 0, .ref q8, .ref q17, .ref q26, .ref q35, .ref q44, .null, .null, .int 0, .int 0, .int 0, .int 0])), (q8, .inl (cA .int, 600, .inl (fun _ => 0))), (q17, .inl (cA .int, 600, .inl (fun _ => 0))), (q26, .inl (cA .int, 200, .inl (fun _ => 0))), (q35, .inl (cA .boolean, 200, .inl (fun _ => 0))), (q44, .inl (cA .int, 200, .inl (fun _ => 0))), (q53, .inl (cA .int, 602, .inl (fun _ => 0)))] H := hP
  have hD : va_D A [(h0, .inr (2, [.int 0, .ref q8, .ref q17, .ref q26, .ref q35, .ref q44, .null, .null, .int 0, .int 0, .int 0, .int 0])), (q8, .inl (cA .int, 600, .inl (fun _ => 0))), (q17, .inl (cA .int, 600, .inl (fun _ => 0))), (q26, .inl (cA .int, 200, .inl (fun _ => 0))), (q35, .inl (cA .boolean, 200, .inl (fun _ => 0))), (q44, .inl (cA .int, 200, .inl (fun _ => 0))), (q53, .inl (cA .int, 602, .inl (fun _ => 0)))] := hD
  refine va_putF (D := D) (ci := 2) (v := .ref q53) (ty := .array .int) (C := "ListSpeaker$Pairs") (T := mjF2) (N := 12) hx hb hts mjw2 mjt2 mjk2 mjn2 hown hK hP hD hS 0 rfl rfl 6 (by decide) (hts _ cw_129) (fun _ h9 => h9) rfl hin rfl (by decide +kernel) rfl rfl (Nat.le_of_ble_eq_true rfl) (show decode prog_6_method_1_code 55 = .ok (.putfield 28, 3) from by decide +kernel) (fun H locs hP hD hS => ?_)
  have hP : va_P D mj_kl [(h0, .inr (2, [.int 0, .ref q8, .ref q17, .ref q26, .ref q35, .ref q44, .ref q53, .null, .int 0, .int 0, .int 0, .int 0])), (q8, .inl (cA .int, 600, .inl (fun _ => 0))), (q17, .inl (cA .int, 600, .inl (fun _ => 0))), (q26, .inl (cA .int, 200, .inl (fun _ => 0))), (q35, .inl (cA .boolean, 200, .inl (fun _ => 0))), (q44, .inl (cA .int, 200, .inl (fun _ => 0))), (q53, .inl (cA .int, 602, .inl (fun _ => 0)))] H := hP
  have hD : va_D A [(h0, .inr (2, [.int 0, .ref q8, .ref q17, .ref q26, .ref q35, .ref q44, .ref q53, .null, .int 0, .int 0, .int 0, .int 0])), (q8, .inl (cA .int, 600, .inl (fun _ => 0))), (q17, .inl (cA .int, 600, .inl (fun _ => 0))), (q26, .inl (cA .int, 200, .inl (fun _ => 0))), (q35, .inl (cA .boolean, 200, .inl (fun _ => 0))), (q44, .inl (cA .int, 200, .inl (fun _ => 0))), (q53, .inl (cA .int, 602, .inl (fun _ => 0)))] := hD
  refine lv_aload_n hx hb (show decode prog_6_method_1_code 58 = .ok (.aload_n 0, 1) from by decide +kernel) rfl (lv_at hl 0 rfl) ?_
  refine lv_sipush (v := 602) hx hb (show decode prog_6_method_1_code 59 = .ok (.sipush 602, 3) from by decide +kernel) (by decide) ?_
  refine va_newa (atype := .int) hx hb (hts _ cw_109) (ty := .int) rfl hK hP hD hS hA (N' := 602) (a0 := (602, .inl (fun _ => 0))) (fun _ => rfl) (by decide) (by decide) (by decide) (show 6 + 1 ≤ 7 from by decide) (show 2402 + 602 ≤ 3004 from by decide) (show decode prog_6_method_1_code 62 = .ok (.newarray .int, 2) from by decide +kernel) (fun q62 c62 H hK1 hP hD hS => ?_)
  obtain rfl := mj_sameA (ty := .int) hK1 hK (by decide)
  refine W.widen (k := 7) (n := 3004) (by decide) (by decide) ?_
  have hP : va_P D mj_kl [(h0, .inr (2, [.int 0, .ref q8, .ref q17, .ref q26, .ref q35, .ref q44, .ref q53, .null, .int 0, .int 0, .int 0, .int 0])), (q8, .inl (cA .int, 600, .inl (fun _ => 0))), (q17, .inl (cA .int, 600, .inl (fun _ => 0))), (q26, .inl (cA .int, 200, .inl (fun _ => 0))), (q35, .inl (cA .boolean, 200, .inl (fun _ => 0))), (q44, .inl (cA .int, 200, .inl (fun _ => 0))), (q53, .inl (cA .int, 602, .inl (fun _ => 0))), (q62, .inl (cA .int, 602, .inl (fun _ => 0)))] H := hP
  have hD : va_D A [(h0, .inr (2, [.int 0, .ref q8, .ref q17, .ref q26, .ref q35, .ref q44, .ref q53, .null, .int 0, .int 0, .int 0, .int 0])), (q8, .inl (cA .int, 600, .inl (fun _ => 0))), (q17, .inl (cA .int, 600, .inl (fun _ => 0))), (q26, .inl (cA .int, 200, .inl (fun _ => 0))), (q35, .inl (cA .boolean, 200, .inl (fun _ => 0))), (q44, .inl (cA .int, 200, .inl (fun _ => 0))), (q53, .inl (cA .int, 602, .inl (fun _ => 0))), (q62, .inl (cA .int, 602, .inl (fun _ => 0)))] := hD
  refine va_putF (D := D) (ci := 2) (v := .ref q62) (ty := .array .int) (C := "ListSpeaker$Pairs") (T := mjF2) (N := 12) hx hb hts mjw2 mjt2 mjk2 mjn2 hown hK hP hD hS 0 rfl rfl 7 (by decide) (hts _ cw_130) (fun _ h9 => h9) rfl hin rfl (by decide +kernel) rfl rfl (Nat.le_of_ble_eq_true rfl) (show decode prog_6_method_1_code 64 = .ok (.putfield 31, 3) from by decide +kernel) (fun H locs hP hD hS => ?_)
  have hP : va_P D mj_kl [(h0, .inr (2, [.int 0, .ref q8, .ref q17, .ref q26, .ref q35, .ref q44, .ref q53, .ref q62, .int 0, .int 0, .int 0, .int 0])), (q8, .inl (cA .int, 600, .inl (fun _ => 0))), (q17, .inl (cA .int, 600, .inl (fun _ => 0))), (q26, .inl (cA .int, 200, .inl (fun _ => 0))), (q35, .inl (cA .boolean, 200, .inl (fun _ => 0))), (q44, .inl (cA .int, 200, .inl (fun _ => 0))), (q53, .inl (cA .int, 602, .inl (fun _ => 0))), (q62, .inl (cA .int, 602, .inl (fun _ => 0)))] H := hP
  have hD : va_D A [(h0, .inr (2, [.int 0, .ref q8, .ref q17, .ref q26, .ref q35, .ref q44, .ref q53, .ref q62, .int 0, .int 0, .int 0, .int 0])), (q8, .inl (cA .int, 600, .inl (fun _ => 0))), (q17, .inl (cA .int, 600, .inl (fun _ => 0))), (q26, .inl (cA .int, 200, .inl (fun _ => 0))), (q35, .inl (cA .boolean, 200, .inl (fun _ => 0))), (q44, .inl (cA .int, 200, .inl (fun _ => 0))), (q53, .inl (cA .int, 602, .inl (fun _ => 0))), (q62, .inl (cA .int, 602, .inl (fun _ => 0)))] := hD
  refine lv_aload_n hx hb (show decode prog_6_method_1_code 67 = .ok (.aload_n 0, 1) from by decide +kernel) rfl (lv_at hl 0 rfl) ?_
  refine lv_iload_n hx hb (show decode prog_6_method_1_code 68 = .ok (.iload_n 1, 1) from by decide +kernel) rfl (lv_at hl 1 rfl) ?_
  refine va_putF (D := D) (ci := 2) (v := .int (Int32.ofInt x)) (ty := .int) (C := "ListSpeaker$Pairs") (T := mjF2) (N := 12) hx hb hts mjw2 mjt2 mjk2 mjn2 hown hK hP hD hS 0 rfl rfl 0 (by decide) (hts _ cw_123) (fun _ h9 => h9) rfl hin rfl (by decide +kernel) rfl rfl (Nat.le_of_ble_eq_true rfl) (show decode prog_6_method_1_code 69 = .ok (.putfield 34, 3) from by decide +kernel) (fun H locs hP hD hS => ?_)
  have hP : va_P D mj_kl [(h0, .inr (2, [.int (Int32.ofInt x), .ref q8, .ref q17, .ref q26, .ref q35, .ref q44, .ref q53, .ref q62, .int 0, .int 0, .int 0, .int 0])), (q8, .inl (cA .int, 600, .inl (fun _ => 0))), (q17, .inl (cA .int, 600, .inl (fun _ => 0))), (q26, .inl (cA .int, 200, .inl (fun _ => 0))), (q35, .inl (cA .boolean, 200, .inl (fun _ => 0))), (q44, .inl (cA .int, 200, .inl (fun _ => 0))), (q53, .inl (cA .int, 602, .inl (fun _ => 0))), (q62, .inl (cA .int, 602, .inl (fun _ => 0)))] H := hP
  have hD : va_D A [(h0, .inr (2, [.int (Int32.ofInt x), .ref q8, .ref q17, .ref q26, .ref q35, .ref q44, .ref q53, .ref q62, .int 0, .int 0, .int 0, .int 0])), (q8, .inl (cA .int, 600, .inl (fun _ => 0))), (q17, .inl (cA .int, 600, .inl (fun _ => 0))), (q26, .inl (cA .int, 200, .inl (fun _ => 0))), (q35, .inl (cA .boolean, 200, .inl (fun _ => 0))), (q44, .inl (cA .int, 200, .inl (fun _ => 0))), (q53, .inl (cA .int, 602, .inl (fun _ => 0))), (q62, .inl (cA .int, 602, .inl (fun _ => 0)))] := hD
  have hw : mj_w cA (fun i => [h0, q8, q17, q26, q35, q44, q53, q62].getD i 0) mjp_L (fP x 0) = [(h0, .inr (2, [.int (Int32.ofInt x), .ref q8, .ref q17, .ref q26, .ref q35, .ref q44, .ref q53, .ref q62, .int 0, .int 0, .int 0, .int 0])), (q8, .inl (cA .int, 600, .inl (fun _ => 0))), (q17, .inl (cA .int, 600, .inl (fun _ => 0))), (q26, .inl (cA .int, 200, .inl (fun _ => 0))), (q35, .inl (cA .boolean, 200, .inl (fun _ => 0))), (q44, .inl (cA .int, 200, .inl (fun _ => 0))), (q53, .inl (cA .int, 602, .inl (fun _ => 0))), (q62, .inl (cA .int, 602, .inl (fun _ => 0)))] := by
    unfold mj_w mjp_L
    simp only [List.mapIdx_cons, List.mapIdx_nil, mj_e, mj_slot, fP]
    simp
    all_goals first | rfl | trivial
  rw [← hw] at hP hD
  obtain ⟨hDD, hAf⟩ := mj_D_of (D := D) hD
  have hxr : mj_r x := ⟨by omega, by omega⟩
  have X : mj_X p s m ([Value.ref h0, .int (Int32.ofInt x)] : List Value).toArray meth c prog_6_method_1_code 3 "ListSpeaker$Pairs" mj_WS none D mj_kl cA (fun i => [h0, q8, q17, q26, q35, q44, q53, q62].getD i 0) mjp_L A := ⟨hx, hb, hml, hown, hts, hr, hlocks, hK, hDD, hAf⟩
  refine mj_Wq (mj_sim (C := mj_B mjp_L mjp_Ms 0) (rm := { frames := 0, cells := 0, slots := 0, locals := 0 }) (Q := fun r σ => r = none ∧ σ = fP x x) X (fun _ _ _ _ h => h.elim) mjp_G ⟨rfl, rfl, Nat.le_of_ble_eq_true rfl, Nat.le_of_ble_eq_true rfl⟩ (Nat.le_of_ble_eq_true rfl) mj_NWs_ok hNs (Nat.le_of_ble_eq_true rfl) (Nat.le_of_ble_eq_true rfl) mjpi0 (lw_p0_72 (d := 0) (y1 := x) (σ := fP x 0) (fP_loop hx1 ⟨rfl, rfl⟩ _ 0 (by omega) (by omega) rfl)) (fP_ok hxr mj_0) (fun i v hi => ?_) (fun v hv => by cases hv) H locs ls (mj_LR_of hl rfl) hP hS) (mj_MQ (fun oc t hq hW => ?_) (fun _ z => z))
  · match i, hi with
    | 0, hi => cases hi; trivial
    | 1, hi => cases hi; exact hxr
    | 2, hi => cases hi
    | _ + 3, hi => cases hi
  · obtain ⟨⟨r, σ', h1, ⟨rfl, rfl⟩, h3, h4, h5⟩, h6⟩ := hq
    exact ⟨⟨((fun i => [h0, q8, q17, q26, q35, q44, q53, q62].getD i 0), fP x x), h1, ⟨rfl, rfl⟩, h5, va_K.moved hW.alike hK, mj_va_D2 hDD hAf _⟩, h6⟩
