/-! the law's loop -/
section LWC
variable {p : Program} {l : Launch} {e : Env} {R : Room} {s : State} {m : MethodId} {args : Array Value} {below : List Frame} {meth : Method} {c : Code} {H : Heap} {cells slots d : Nat} {Z : State → Prop}
variable {D : va_G} {cA : FieldType → ClassId} {adc adm : Nat → Nat} {cL : ClassId} {ao : Nat} {σ τ : mj_S} {f : Nat → Value} {pc : Nat} {ls : Array Slot} {rest : List Value}
theorem lw_cc {k idx n : Nat} {M : mj_M} {as : List mj_V} {Q : mj_Q} (S : CallFix p m c code 7 s args mj_WS "ListSpeakerLaw") (hRf : d + 40 ≤ R.frames) (hRl : 64 * d + 2000 ≤ R.locals) (hf : cells ≤ R.cells ∧ slots ≤ R.slots) (F : lw_F s D cA adc adm cL ao) (hW : lw_Wd s D cA adc adm cL ao σ τ f H)
    (hM : mjc_Ms[k]? = some M) (hcl : M.1.cls = "ListSpeaker") (wl : Jvm.Cond.methodLink "ListSpeakerLaw" idx M.1 ∈ mj_WS) (wi : Jvm.Cond.instanceMethod M.1 ∈ mj_WS) (wse : Jvm.Cond.selects "ListSpeaker" M.1 M.1 ∈ mj_WS) (wini : Jvm.Cond.initialized "ListSpeaker" ∈ mj_WS) (hdd : (parseMethodDescriptor M.1.desc).map (fun d => d.parameters.length) = some n) (hmL : M.2.2.1 ≤ 40)
    (hB : mj_B mjc_L mjc_Ms d k (.inr (.inl 0) :: as) σ Q) (hok : mj_okS σ) (hoT : mj_okT as) (hn : as.length = n) (hls : ls.size = 7) (hr : (rest.map fun v => v.category).sum ≤ 8) (hdg : decode code pc = .ok (.invokevirtual idx, 3))
    (kk : ∀ (r : Option mj_V) (σ' : mj_S) (H1 : Heap), Q r σ' → (∀ v, r = some v → mj_okV v) → mj_okS σ' → lw_Wd s D cA adc adm cL ao σ' τ f H1 → W p l e R s m args below meth c H1 [] cells slots Z (F0 m (pc + 3) ls ((r.map (mj_v adc)).toList ++ rest))) : W p l e R s m args below meth c H [] cells slots Z (F0 m pc ls ((as.map (mj_v adc)).reverse ++ .ref (adc 0) :: rest)) := by
  obtain ⟨hx, hb, hml, hown, hts⟩ := S
  obtain ⟨f1, f2, f3, f4, f5, f6, f7, f8, f9, hKK, hNs, hth⟩ := id F
  have hP := hW.1
  have hMet := mjc_met (l := l) (D := D) (cA := cA) f1 d k (.inr (.inl 0) :: as) σ Q hB hok (mj_okT_cons (v := .inr (.inl 0)) trivial hoT) M hM
  exact lc_call (va_runV (As := as.map (mj_v adc)) (rest := rest) (b := adc 0) (C := "ListSpeaker") ⟨hx, hb, hml, hown, hts⟩ hMet ⟨callB_of n hts (mjc_G k M hM) rfl rfl rfl (by rw [hcl]; exact hts _ wini) (hts _ wl) ⟨by rw [hcl]; decide, by rw [hcl]; decide, hdd⟩ ⟨by show d + 1 + 1 ≤ R.frames; omega, by show 8 + (M.2.2.1 + 11) + 64 * (d + 1) ≤ R.locals; omega⟩, hts _ wi, hts _ wse⟩ ⟨mj_blind mj_NWs_ok, va_recv hKK hP (show mj_kl[0]? = some _ from rfl) (mj_w_some (show mjc_L[0]? = some _ from rfl)), mj_pre mj_NWs_ok hNs hKK hP⟩ rfl (by rw [List.length_map]; exact hn) hls rfl (lv_room hr) hdg hf) f3 (fun r σ' H1 hq hok hoS hP1 hz hk => kk r σ' H1 hq hok hoS (lw_Wd.c F hW hP1 hz hk))
theorem lw_mm {k idx n : Nat} {M : mj_M} {as : List mj_V} {Q : mj_Q} (S : CallFix p m c code 7 s args mj_WS "ListSpeakerLaw") (hRf : d + 40 ≤ R.frames) (hRl : 64 * d + 2000 ≤ R.locals) (hf : cells ≤ R.cells ∧ slots ≤ R.slots) (F : lw_F s D cA adc adm cL ao) (hW : lw_Wd s D cA adc adm cL ao σ τ f H)
    (hM : mjm_Ms[k]? = some M) (hcl : M.1.cls = "ListSpeakerModel") (wl : Jvm.Cond.methodLink "ListSpeakerLaw" idx M.1 ∈ mj_WS) (wi : Jvm.Cond.instanceMethod M.1 ∈ mj_WS) (wse : Jvm.Cond.selects "ListSpeakerModel" M.1 M.1 ∈ mj_WS) (wini : Jvm.Cond.initialized "ListSpeakerModel" ∈ mj_WS) (hdd : (parseMethodDescriptor M.1.desc).map (fun d => d.parameters.length) = some n) (hmL : M.2.2.1 ≤ 40)
    (hB : mj_B mjm_L mjm_Ms d k (.inr (.inl 0) :: as) τ Q) (hok : mj_okS τ) (hoT : mj_okT as) (hn : as.length = n) (hls : ls.size = 7) (hr : (rest.map fun v => v.category).sum ≤ 8) (hdg : decode code pc = .ok (.invokevirtual idx, 3))
    (kk : ∀ (r : Option mj_V) (τ' : mj_S) (H1 : Heap), Q r τ' → (∀ v, r = some v → mj_okV v) → mj_okS τ' → lw_Wd s D cA adc adm cL ao σ τ' f H1 → W p l e R s m args below meth c H1 [] cells slots Z (F0 m (pc + 3) ls ((r.map (mj_v adm)).toList ++ rest))) : W p l e R s m args below meth c H [] cells slots Z (F0 m pc ls ((as.map (mj_v adm)).reverse ++ .ref (adm 0) :: rest)) := by
  obtain ⟨hx, hb, hml, hown, hts⟩ := S
  obtain ⟨f1, f2, f3, f4, f5, f6, f7, f8, f9, hKK, hNs, hth⟩ := id F
  have hP := hW.2.1
  have hMet := mjm_met (l := l) (D := D) (cA := cA) f2 d k (.inr (.inl 0) :: as) τ Q hB hok (mj_okT_cons (v := .inr (.inl 0)) trivial hoT) M hM
  exact lc_call (va_runV (As := as.map (mj_v adm)) (rest := rest) (b := adm 0) (C := "ListSpeakerModel") ⟨hx, hb, hml, hown, hts⟩ hMet ⟨callB_of n hts (mjm_G k M hM) rfl rfl rfl (by rw [hcl]; exact hts _ wini) (hts _ wl) ⟨by rw [hcl]; decide, by rw [hcl]; decide, hdd⟩ ⟨by show d + 1 + 1 ≤ R.frames; omega, by show 8 + (M.2.2.1 + 11) + 64 * (d + 1) ≤ R.locals; omega⟩, hts _ wi, hts _ wse⟩ ⟨mj_blind mj_NWs_ok, va_recv hKK hP (show mj_kl[9]? = some _ from rfl) (mj_w_some (show mjm_L[0]? = some _ from rfl)), mj_pre mj_NWs_ok hNs hKK hP⟩ rfl (by rw [List.length_map]; exact hn) hls rfl (lv_room hr) hdg hf) f4 (fun r τ' H1 hq hok hoS hP1 hz hk => kk r τ' H1 hq hok hoS (lw_Wd.m F hW hP1 hz hk))
theorem lw_arg {b L j : Nat} {xs : Nat → Int32} {x : Int} {lv : List (Nat × Value)} {k0 k4 : Nat} (hx : p.tables.exec = Jvm.exec) (hb : c.code = code) (hl : lv_has ls 7 lv) (h0 : lv[k0]? = some (0, .ref b)) (h4 : lv[k4]? = some (4, .int (nI (2 * j + 1)))) (hX : va_X b L xs s s.heap) (hbl : b < s.heap.size) (hS : va_S (fun q => s.heap.size ≤ q) s.heap H []) (hj : 2 * j + 2 < L) (hL : L ≤ 1025) (hxe : Int32.ofInt x = xs (2 * j + 2))
    (d1 : decode code pc = .ok (.aload_n 0, 1)) (d2 : decode code (pc + 1) = .ok (.iload 4, 2)) (d3 : decode code (pc + 3) = .ok (.iconst 1, 1)) (d4 : decode code (pc + 4) = .ok (.iadd, 1)) (d5 : decode code (pc + 5) = .ok (.iaload, 1))
    (kk : W p l e R s m args below meth c H [] cells slots Z (F0 m (pc + 6) ls (.int (Int32.ofInt x) :: rest))) : W p l e R s m args below meth c H [] cells slots Z (F0 m pc ls rest) := by
  refine lv_aload_n hx hb d1 rfl (lv_at hl k0 h0) ?_
  refine lv_iload hx hb d2 (lv_at hl k4 h4) ?_
  refine lv_iconst (v := 1) hx hb d3 (by decide) ?_
  refine lv_iadd hx hb d4 ?_
  rw [show nI (2 * j + 1) + 1 = nI (2 * j + 2) from (nI_succ (2 * j + 1)).symm]
  refine va_sld hx hb hX hbl (by show ¬ _ ≤ _; omega) hS (vp_in_nI hj (by omega)) d5 ?_
  rw [nI_clamp (by omega), ← hxe]
  exact kk
end LWC
theorem lw_int (y : Int32) : ∃ x : Int, mj_r x ∧ Int32.ofInt x = y := ⟨y.toInt, ⟨by have := Int32.le_toInt y; show -2147483648 ≤ y.toInt; simpa using this, by have := Int32.toInt_lt y; omega⟩, Int32.ofInt_toInt y⟩
/-- what one call does to both, and that both answer alike -/
def lw_step (d : Nat) (P Q : mj_S → mj_S → Prop) : Prop :=
  (∀ σ τ, P σ τ → Q σ τ) ∧
  (∀ σ τ c, P σ τ → mj_okS σ → mj_okS τ → 0 ≤ c → c ≤ 65535 → mj_B mjc_L mjc_Ms d 0 [.inr (.inl 0), .inl c] σ (fun r σ' => ∃ v, r = some (.inl v) ∧ mj_B mjm_L mjm_Ms d 9 [.inr (.inl 0), .inl c] τ (fun r' τ' => r' = some (.inl v) ∧ Q σ' τ'))) ∧
  (∀ σ τ, P σ τ → mj_okS σ → mj_okS τ → mj_B mjc_L mjc_Ms d 1 [.inr (.inl 0)] σ (fun r σ' => ∃ v, r = some (.inl v) ∧ mj_B mjm_L mjm_Ms d 10 [.inr (.inl 0)] τ (fun r' τ' => r' = some (.inl v) ∧ Q σ' τ'))) ∧
  (∀ σ τ x, P σ τ → mj_okS σ → mj_okS τ → mj_r x → 0 ≤ x → x ≤ 20000 → mj_B mjc_L mjc_Ms d 2 [.inr (.inl 0), .inl x] σ (fun r σ' => ∃ v, r = some (.inl v) ∧ mj_B mjm_L mjm_Ms d 59 [.inr (.inl 0), .inl x] τ (fun r' τ' => r' = some (.inl v) ∧ τ' 0 1 = 0 ∧ Q σ' τ'))) ∧
  (∀ σ τ x, P σ τ → mj_okS σ → mj_okS τ → mj_r x → (x < 0 ∨ 20000 < x) → mj_B mjm_L mjm_Ms d 59 [.inr (.inl 0), .inl x] τ (fun r' τ' => (∃ v, r' = some (.inl v)) ∧ τ' 0 1 = 1 ∧ Q σ τ')) ∧
  (∀ σ τ x, P σ τ → mj_okS σ → mj_okS τ → mj_r x → 0 ≤ x → x < σ 8 4 → mj_B mjc_L mjc_Ms d 3 [.inr (.inl 0), .inl x] σ (fun r σ' => ∃ v, r = some (.inl v) ∧ mj_B mjm_L mjm_Ms d 61 [.inr (.inl 0), .inl x] τ (fun r' τ' => r' = some (.inl v) ∧ τ' 0 1 = 0 ∧ Q σ' τ'))) ∧
  (∀ σ τ x, P σ τ → mj_okS σ → mj_okS τ → mj_r x → (x < 0 ∨ σ 8 4 ≤ x) → mj_B mjm_L mjm_Ms d 61 [.inr (.inl 0), .inl x] τ (fun r' τ' => (∃ v, r' = some (.inl v)) ∧ τ' 0 1 = 1 ∧ Q σ τ')) ∧
  (∀ σ τ x, P σ τ → mj_okS σ → mj_okS τ → mj_r x → mj_B mjc_L mjc_Ms d 4 [.inr (.inl 0), .inl x] σ (fun r σ' => ∃ v, r = some (.inl v) ∧ mj_B mjm_L mjm_Ms d 62 [.inr (.inl 0), .inl x] τ (fun r' τ' => r' = some (.inl v) ∧ Q σ' τ')))
set_option maxRecDepth 20000 in
theorem ly_354 : (Jvm.Cond.methodLink "ListSpeakerLaw" (33 : Nat) ({ cls := "ListSpeaker", name := "type", desc := "(C)Z" } : Jvm.MethodName)) ∈ mj_WS := mj_mem 354 (by decide +kernel) (by decide)
set_option maxRecDepth 20000 in
theorem ly_355 : (Jvm.Cond.instanceMethod ({ cls := "ListSpeaker", name := "type", desc := "(C)Z" } : Jvm.MethodName)) ∈ mj_WS := mj_mem 355 (by decide +kernel) (by decide)
set_option maxRecDepth 20000 in
theorem ly_356 : (Jvm.Cond.selects "ListSpeaker" ({ cls := "ListSpeaker", name := "type", desc := "(C)Z" } : Jvm.MethodName) ({ cls := "ListSpeaker", name := "type", desc := "(C)Z" } : Jvm.MethodName)) ∈ mj_WS := mj_mem 356 (by decide +kernel) (by decide)
set_option maxRecDepth 20000 in
theorem ly_1 : (Jvm.Cond.initialized "ListSpeaker") ∈ mj_WS := mj_mem 1 (by decide +kernel) (by decide)
set_option maxRecDepth 20000 in
theorem ly_362 : (Jvm.Cond.methodLink "ListSpeakerLaw" (38 : Nat) ({ cls := "ListSpeaker", name := "clear", desc := "()I" } : Jvm.MethodName)) ∈ mj_WS := mj_mem 362 (by decide +kernel) (by decide)
set_option maxRecDepth 20000 in
theorem ly_363 : (Jvm.Cond.instanceMethod ({ cls := "ListSpeaker", name := "clear", desc := "()I" } : Jvm.MethodName)) ∈ mj_WS := mj_mem 363 (by decide +kernel) (by decide)
set_option maxRecDepth 20000 in
theorem ly_364 : (Jvm.Cond.selects "ListSpeaker" ({ cls := "ListSpeaker", name := "clear", desc := "()I" } : Jvm.MethodName) ({ cls := "ListSpeaker", name := "clear", desc := "()I" } : Jvm.MethodName)) ∈ mj_WS := mj_mem 364 (by decide +kernel) (by decide)
set_option maxRecDepth 20000 in
theorem ly_370 : (Jvm.Cond.methodLink "ListSpeakerLaw" (53 : Nat) ({ cls := "ListSpeaker", name := "count", desc := "(I)I" } : Jvm.MethodName)) ∈ mj_WS := mj_mem 370 (by decide +kernel) (by decide)
set_option maxRecDepth 20000 in
theorem ly_371 : (Jvm.Cond.instanceMethod ({ cls := "ListSpeaker", name := "count", desc := "(I)I" } : Jvm.MethodName)) ∈ mj_WS := mj_mem 371 (by decide +kernel) (by decide)
set_option maxRecDepth 20000 in
theorem ly_372 : (Jvm.Cond.selects "ListSpeaker" ({ cls := "ListSpeaker", name := "count", desc := "(I)I" } : Jvm.MethodName) ({ cls := "ListSpeaker", name := "count", desc := "(I)I" } : Jvm.MethodName)) ∈ mj_WS := mj_mem 372 (by decide +kernel) (by decide)
set_option maxRecDepth 20000 in
theorem ly_1118 : (Jvm.Cond.methodLink "ListSpeakerLaw" (37 : Nat) ({ cls := "ListSpeakerModel", name := "type", desc := "(C)Z" } : Jvm.MethodName)) ∈ mj_WS := mj_mem 1118 (by decide +kernel) (by decide)
set_option maxRecDepth 20000 in
theorem ly_1119 : (Jvm.Cond.instanceMethod ({ cls := "ListSpeakerModel", name := "type", desc := "(C)Z" } : Jvm.MethodName)) ∈ mj_WS := mj_mem 1119 (by decide +kernel) (by decide)
set_option maxRecDepth 20000 in
theorem ly_1120 : (Jvm.Cond.selects "ListSpeakerModel" ({ cls := "ListSpeakerModel", name := "type", desc := "(C)Z" } : Jvm.MethodName) ({ cls := "ListSpeakerModel", name := "type", desc := "(C)Z" } : Jvm.MethodName)) ∈ mj_WS := mj_mem 1120 (by decide +kernel) (by decide)
set_option maxRecDepth 20000 in
theorem ly_16 : (Jvm.Cond.initialized "ListSpeakerModel") ∈ mj_WS := mj_mem 16 (by decide +kernel) (by decide)
set_option maxRecDepth 20000 in
theorem ly_1122 : (Jvm.Cond.methodLink "ListSpeakerLaw" (42 : Nat) ({ cls := "ListSpeakerModel", name := "clear", desc := "()I" } : Jvm.MethodName)) ∈ mj_WS := mj_mem 1122 (by decide +kernel) (by decide)
set_option maxRecDepth 20000 in
theorem ly_1123 : (Jvm.Cond.instanceMethod ({ cls := "ListSpeakerModel", name := "clear", desc := "()I" } : Jvm.MethodName)) ∈ mj_WS := mj_mem 1123 (by decide +kernel) (by decide)
set_option maxRecDepth 20000 in
theorem ly_1124 : (Jvm.Cond.selects "ListSpeakerModel" ({ cls := "ListSpeakerModel", name := "clear", desc := "()I" } : Jvm.MethodName) ({ cls := "ListSpeakerModel", name := "clear", desc := "()I" } : Jvm.MethodName)) ∈ mj_WS := mj_mem 1124 (by decide +kernel) (by decide)
set_option maxRecDepth 20000 in
theorem ly_1126 : (Jvm.Cond.methodLink "ListSpeakerLaw" (46 : Nat) ({ cls := "ListSpeakerModel", name := "run", desc := "(I)I" } : Jvm.MethodName)) ∈ mj_WS := mj_mem 1126 (by decide +kernel) (by decide)
set_option maxRecDepth 20000 in
theorem ly_1127 : (Jvm.Cond.instanceMethod ({ cls := "ListSpeakerModel", name := "run", desc := "(I)I" } : Jvm.MethodName)) ∈ mj_WS := mj_mem 1127 (by decide +kernel) (by decide)
set_option maxRecDepth 20000 in
theorem ly_1128 : (Jvm.Cond.selects "ListSpeakerModel" ({ cls := "ListSpeakerModel", name := "run", desc := "(I)I" } : Jvm.MethodName) ({ cls := "ListSpeakerModel", name := "run", desc := "(I)I" } : Jvm.MethodName)) ∈ mj_WS := mj_mem 1128 (by decide +kernel) (by decide)
set_option maxRecDepth 20000 in
theorem ly_1114 : (Jvm.Cond.methodLink "ListSpeakerLaw" (47 : Nat) ({ cls := "ListSpeakerModel", name := "thrown", desc := "()I" } : Jvm.MethodName)) ∈ mj_WS := mj_mem 1114 (by decide +kernel) (by decide)
set_option maxRecDepth 20000 in
theorem ly_1115 : (Jvm.Cond.instanceMethod ({ cls := "ListSpeakerModel", name := "thrown", desc := "()I" } : Jvm.MethodName)) ∈ mj_WS := mj_mem 1115 (by decide +kernel) (by decide)
set_option maxRecDepth 20000 in
theorem ly_1116 : (Jvm.Cond.selects "ListSpeakerModel" ({ cls := "ListSpeakerModel", name := "thrown", desc := "()I" } : Jvm.MethodName) ({ cls := "ListSpeakerModel", name := "thrown", desc := "()I" } : Jvm.MethodName)) ∈ mj_WS := mj_mem 1116 (by decide +kernel) (by decide)
set_option maxRecDepth 20000 in
theorem ly_1359 : (Jvm.Cond.methodLink "ListSpeakerLaw" (52 : Nat) ({ cls := "ListSpeakerModel", name := "output", desc := "(I)C" } : Jvm.MethodName)) ∈ mj_WS := mj_mem 1359 (by decide +kernel) (by decide)
set_option maxRecDepth 20000 in
theorem ly_1360 : (Jvm.Cond.instanceMethod ({ cls := "ListSpeakerModel", name := "output", desc := "(I)C" } : Jvm.MethodName)) ∈ mj_WS := mj_mem 1360 (by decide +kernel) (by decide)
set_option maxRecDepth 20000 in
theorem ly_1361 : (Jvm.Cond.selects "ListSpeakerModel" ({ cls := "ListSpeakerModel", name := "output", desc := "(I)C" } : Jvm.MethodName) ({ cls := "ListSpeakerModel", name := "output", desc := "(I)C" } : Jvm.MethodName)) ∈ mj_WS := mj_mem 1361 (by decide +kernel) (by decide)
set_option maxRecDepth 20000 in
theorem ly_1363 : (Jvm.Cond.methodLink "ListSpeakerLaw" (56 : Nat) ({ cls := "ListSpeakerModel", name := "count", desc := "(I)I" } : Jvm.MethodName)) ∈ mj_WS := mj_mem 1363 (by decide +kernel) (by decide)
set_option maxRecDepth 20000 in
theorem ly_1364 : (Jvm.Cond.instanceMethod ({ cls := "ListSpeakerModel", name := "count", desc := "(I)I" } : Jvm.MethodName)) ∈ mj_WS := mj_mem 1364 (by decide +kernel) (by decide)
set_option maxRecDepth 20000 in
theorem ly_1365 : (Jvm.Cond.selects "ListSpeakerModel" ({ cls := "ListSpeakerModel", name := "count", desc := "(I)I" } : Jvm.MethodName) ({ cls := "ListSpeakerModel", name := "count", desc := "(I)I" } : Jvm.MethodName)) ∈ mj_WS := mj_mem 1365 (by decide +kernel) (by decide)
set_option maxRecDepth 20000 in
theorem ly_409 : (Jvm.Cond.methodLink "ListSpeakerLaw" (43 : Nat) ({ cls := "ListSpeakerLaw", name := "run", desc := "(LListSpeaker;I[J)I" } : Jvm.MethodName)) ∈ mj_WS := mj_mem 409 (by decide +kernel) (by decide)
set_option maxRecDepth 20000 in
theorem ly_410 : (Jvm.Cond.static ({ cls := "ListSpeakerLaw", name := "run", desc := "(LListSpeaker;I[J)I" } : Jvm.MethodName)) ∈ mj_WS := mj_mem 410 (by decide +kernel) (by decide)
set_option maxRecDepth 20000 in
theorem ly_937 : (Jvm.Cond.methodLink "ListSpeakerLaw" (50 : Nat) ({ cls := "ListSpeakerLaw", name := "output", desc := "(LListSpeaker;I[J)I" } : Jvm.MethodName)) ∈ mj_WS := mj_mem 937 (by decide +kernel) (by decide)
set_option maxRecDepth 20000 in
theorem ly_938 : (Jvm.Cond.static ({ cls := "ListSpeakerLaw", name := "output", desc := "(LListSpeaker;I[J)I" } : Jvm.MethodName)) ∈ mj_WS := mj_mem 938 (by decide +kernel) (by decide)
set_option maxRecDepth 20000 in
theorem ly_0 : (Jvm.Cond.initialized "ListSpeakerLaw") ∈ mj_WS := mj_mem 0 (by decide +kernel) (by decide)
theorem lw_good {ws : List Jvm.Cond} (h : ∀ w ∈ ws, w ∈ mj_WS) : GoodIn mj_WS ws := fun w hw => ⟨h w hw, good_of_word (List.mem_filter.mp (h w hw)).2⟩
theorem ww_good {w0 : Jvm.Cond} (h0 : w0 ∈ mj_WS) : GoodIn mj_WS (w0 :: mj_WS) := lw_good (fun w hw => by
  rcases List.mem_cons.mp hw with rfl | h
  · exact h0
  · exact h)
set_option maxRecDepth 100000 in
theorem law_last {p : Program} {l : Launch} {e : Env} {R : Room} {s : State} {m : MethodId} {args : Array Value} {below : List Frame} {meth : Method} {c : Code} {Z : State → Prop} {b L j k1 k2 : Nat} {xs : Nat → Int32} {H : Heap} {ls : Array Slot} {lv : List (Nat × Value)} {cells slots : Nat} (hx : p.tables.exec = Jvm.exec) (hb : c.code = code) (hX : va_X b L xs s s.heap) (hbl : b < s.heap.size) (hsl : va_S (fun q => s.heap.size ≤ q) s.heap H []) (hL : L ≤ 1025) (hj : L < 2 * j + 3) (hjJ : j ≤ 512) (hl : lv_has ls 7 lv) (h0 : lv[0]? = some (0, .ref b)) (h4 : lv[4]? = some (4, .int (nI (2 * j + 1)))) (hc : cells ≤ k1) (hs : slots ≤ k2)
    (hend : ∀ (H : Heap) (ls : Array Slot), W p l e R s m args below meth c H [] k1 k2 Z (F0 m 268 ls [.int 1])) : W p l e R s m args below meth c H [] cells slots Z (F0 m 33 ls []) := by
  refine W.widen hc hs ?_
  refine lv_iload hx hb (show decode code 33 = .ok (.iload 4, 2) from by decide +kernel) (lv_at hl 4 h4) ?_
  refine lv_aload_n hx hb (show decode code 35 = .ok (.aload_n 0, 1) from by decide +kernel) rfl (lv_at hl 0 h0) ?_
  refine va_slen hx hb hX hbl (by show ¬ _ ≤ _; omega) hsl (show decode code 36 = .ok (.arraylength, 1) from by decide +kernel) ?_
  refine lv_iconst (v := 2) hx hb (show decode code 37 = .ok (.iconst 2, 1) from by decide +kernel) (by decide) ?_
  refine lv_isub hx hb (show decode code 38 = .ok (.isub, 1) from by decide +kernel) ?_
  have eS : Int32.ofNat L - 2 = Int32.ofInt ((L : Int) - 2) := by
    rw [Int32.ofInt_sub]
    rw [Int32.ofInt_eq_ofNat]
    rfl
  refine lv_icmp_gt (tgt := 267) hx hb (show decode code 39 = .ok (.if_icmp .gt 228, 3) from by decide +kernel) (by decide) (fun _ => ?_) (fun h => ?_)
  · refine lv_iconst (v := 1) hx hb (show decode code 267 = .ok (.iconst 1, 1) from by decide +kernel) (by decide) ?_
    exact hend H ls
  · exfalso
    apply h
    rw [eS, show nI (2 * j + 1) = Int32.ofInt ((2 * j + 1 : Nat) : Int) from Int32.ofInt_eq_ofNat.symm]
    exact (mj_lt ⟨by omega, by omega⟩ ⟨by omega, by omega⟩).mpr (by omega)
theorem lw_len {y : MethodName} {n : Nat} (h : (parseMethodDescriptor y.desc).map (fun d => d.parameters.length) = some n) : ∀ sig, parseMethodDescriptor y.desc = some sig → n = sig.parameters.length := fun sig h2 => by
  rw [h2] at h
  exact (Option.some.inj h).symm
theorem lw_nI2 (k : Nat) : nI k + Int32.ofInt 2 = nI (k + 2) := by
  rw [nI_succ (k + 1), nI_succ k, Int32.add_assoc]
  rfl
theorem mk_thr {d : Nat} (hd : 1 ≤ d) {τ : mj_S} : mj_B mjm_L mjm_Ms d 1 [.inr (.inl 0)] τ (fun r τ' => r = some (.inl (τ 0 1)) ∧ τ' = τ) := by
  obtain ⟨k, rfl⟩ : ∃ k, d = k + 1 := ⟨d - 1, by omega⟩
  exact sm_thrown ⟨rfl, rfl⟩
theorem lw_out {y : Int32} (h0 : ¬ y = 0) (h1 : ¬ y = 1) (h2 : ¬ y = 2) (h3 : ¬ y = 3) (h4 : ¬ y = 4) : y.toInt < 0 ∨ 4 < y.toInt := by
  have g : ∀ k : Int32, ¬ y = k → y.toInt ≠ k.toInt := fun k h z => h (Int32.toInt_inj.mp z)
  have e0 := g 0 h0
  have e1 := g 1 h1
  have e2 := g 2 h2
  have e3 := g 3 h3
  have e4 := g 4 h4
  rw [show (0 : Int32).toInt = 0 from rfl] at e0
  rw [show (1 : Int32).toInt = 1 from rfl] at e1
  rw [show (2 : Int32).toInt = 2 from rfl] at e2
  rw [show (3 : Int32).toInt = 3 from rfl] at e3
  rw [show (4 : Int32).toInt = 4 from rfl] at e4
  omega
theorem lw_lcmp (x : Int64) : lg_cmp x x = 0 := by simp [lg_cmp]
set_option maxHeartbeats 4000000 in
set_option maxRecDepth 100000 in
theorem law_loop {p : Program} {l : Launch} {e : Env} {R : Room} {s : State} {m : MethodId} {args : Array Value} {below : List Frame} {meth : Method} {c : Code} {Z : State → Prop} {d b L J : Nat} {xs : Nat → Int32} {D : va_G} {cA : FieldType → ClassId} {adc adm : Nat → Nat} {cL : ClassId} {ao a1 a2 : Nat} (S : CallFix p m c code 7 s args mj_WS "ListSpeakerLaw") (hfl : l.flags = flags0) (hd : 1 ≤ d) (hRf : d + 40 ≤ R.frames) (hRl : 64 * d + 2000 ≤ R.locals) (hRc : 1000 ≤ R.cells) (hRs : 40000 ≤ R.slots) (F : lw_F s D cA adc adm cL ao) (hV1 : vk_R "ListSpeaker" 94 "fuel is not 0 .. 20000" a1 s) (hV2 : vk_R "ListSpeaker" 120 "no such character of output" a2 s) (hX : va_X b L xs s s.heap) (hbl : b < s.heap.size) (hLJ : L ≤ 2 * J + 1) (hJ : J ≤ 512) {Rel : Nat → mj_S → mj_S → Prop} (hstep : ∀ j, j < J → lw_step d (Rel j) (Rel (j + 1)))
    (hend : ∀ (H : Heap) (ls : Array Slot), W p l e R s m args below meth c H [] (62 + J) (30513 + 6 * J) Z (F0 m 268 ls [.int 1])) :
    ∀ (n j : Nat) (σ τ : mj_S) (f : Nat → Value) (H : Heap) (ls : Array Slot), L ≤ n + 2 * j → j ≤ J → Rel j σ τ → mj_okS σ → mj_okS τ → lw_Wd s D cA adc adm cL ao σ τ f H → lv_has ls 7 [(0, .ref b), (1, .ref (adc 0)), (2, .ref (adm 0)), (3, .ref ao), (4, .int (nI (2 * j + 1)))] → W p l e R s m args below meth c H [] (62 + j) (30513 + 6 * j) Z (F0 m 33 ls []) := by
  have hL5 : L ≤ 1025 := by omega
  obtain ⟨hx, hb, hml, hown, hts⟩ := id S
  obtain ⟨f1, f2, f3, f4, f5, f6, f7, f8, f9, hKK, hNs, hth⟩ := id F
  intro n
  induction n with
  | zero => exact fun j σ τ f H ls h1 h2 hR hoσ hoτ hW hl => law_last hx hb hX hbl hW.2.2.2 hL5 (by omega) (by omega) hl rfl rfl (by omega) (by omega) hend
  | succ n ih =>
    intro j σ τ f H ls h1 h2 hR hoσ hoτ hW hl
    by_cases hj : L < 2 * j + 3
    · exact law_last hx hb hX hbl hW.2.2.2 hL5 (by omega) (by omega) hl rfl rfl (by omega) (by omega) hend
    have hj2 : 2 * j + 2 < L := by omega
    have hjJ : j < J := by omega
    have hsl := hW.2.2.2
    -- the next round
    have next : ∀ (σ' τ' : mj_S) (f' : Nat → Value) (H' : Heap) (ls' : Array Slot), Rel (j + 1) σ' τ' → mj_okS σ' → mj_okS τ' → lw_Wd s D cA adc adm cL ao σ' τ' f' H' → lv_has ls' 7 [(0, .ref b), (1, .ref (adc 0)), (2, .ref (adm 0)), (3, .ref ao), (4, .int (nI (2 * j + 1)))] → W p l e R s m args below meth c H' [] (62 + (j + 1)) (30513 + 6 * (j + 1)) Z (F0 m 261 ls' []) := by
      intro σ' τ' f' H' ls' hR' ho1 ho2 hW' hl'
      refine lv_iinc (k := 4) (v := nI (2 * (j + 1) + 1)) hx hb (show decode code 261 = .ok (.iinc 4 2, 3) from by decide +kernel) hl' rfl (lw_nI2 (2 * j + 1)) (by decide) rfl (fun ls2 hl2 => ?_)
      refine lv_goto (tgt := 33) hx hb (show decode code 264 = .ok (.goto (-231), 3) from by decide +kernel) (by decide) ?_
      exact ih (j + 1) σ' τ' f' H' ls2 (by omega) (by omega) hR' ho1 ho2 hW' (lv_sub hl2 [1, 2, 3, 4, 0] rfl)
    obtain ⟨st0, stT, stC, stR, stRt, stO, stOt, stN⟩ := hstep j hjJ
    obtain ⟨x, hxr, hxe⟩ := lw_int (xs (2 * j + 2))
    refine lv_iload hx hb (show decode code 33 = .ok (.iload 4, 2) from by decide +kernel) (lv_at hl 4 rfl) ?_
    refine lv_aload_n hx hb (show decode code 35 = .ok (.aload_n 0, 1) from by decide +kernel) rfl (lv_at hl 0 rfl) ?_
    refine va_slen hx hb hX hbl (by show ¬ _ ≤ _; omega) hsl (show decode code 36 = .ok (.arraylength, 1) from by decide +kernel) ?_
    refine lv_iconst (v := 2) hx hb (show decode code 37 = .ok (.iconst 2, 1) from by decide +kernel) (by decide) ?_
    refine lv_isub hx hb (show decode code 38 = .ok (.isub, 1) from by decide +kernel) ?_
    have eS : Int32.ofNat L - 2 = Int32.ofInt ((L : Int) - 2) := by
      rw [Int32.ofInt_sub, Int32.ofInt_eq_ofNat]
      rfl
    refine lv_icmp_gt (tgt := 267) hx hb (show decode code 39 = .ok (.if_icmp .gt 228, 3) from by decide +kernel) (by decide) (fun h => ?_) (fun _ => ?_)
    · exfalso
      rw [eS, show nI (2 * j + 1) = Int32.ofInt ((2 * j + 1 : Nat) : Int) from Int32.ofInt_eq_ofNat.symm] at h
      have := (mj_lt ⟨by omega, by omega⟩ ⟨by omega, by omega⟩).mp h
      omega
    refine lv_aload_n hx hb (show decode code 42 = .ok (.aload_n 0, 1) from by decide +kernel) rfl (lv_at hl 0 rfl) ?_
    refine lv_iload hx hb (show decode code 43 = .ok (.iload 4, 2) from by decide +kernel) (lv_at hl 4 rfl) ?_
    refine va_sld hx hb hX hbl (by show ¬ _ ≤ _; omega) hsl (vp_in_nI (n := 2 * j + 1) (by omega) (by omega)) (show decode code 45 = .ok (.iaload, 1) from by decide +kernel) ?_
    refine lv_bipush (v := 7) hx hb (show decode code 46 = .ok (.bipush 7, 2) from by decide +kernel) (by decide) ?_
    refine lv_iand hx hb (show decode code 48 = .ok (.iand, 1) from by decide +kernel) ?_
    refine lv_topi (fun y hy => ?_)
    by_cases y0 : y = 0
    · subst y0
      refine lv_tableIn (off := 35) (tgt := 84) hx hb (show decode code 49 = .ok (.tableswitch 212 0 4 #[35, 62, 75, 131, 187], 35) from by decide +kernel) (by decide) (by decide) (by decide) (by decide) ?_
      refine lv_aload_n hx hb (show decode code 84 = .ok (.aload_n 1, 1) from by decide +kernel) rfl (lv_at hl 1 rfl) ?_
      refine lw_arg (k0 := 0) (k4 := 4) hx hb hl rfl rfl hX hbl hW.2.2.2 hj2 hL5 hxe (show decode code 85 = .ok (.aload_n 0, 1) from by decide +kernel) (show decode code 86 = .ok (.iload 4, 2) from by decide +kernel) (show decode code 88 = .ok (.iconst 1, 1) from by decide +kernel) (show decode code 89 = .ok (.iadd, 1) from by decide +kernel) (show decode code 90 = .ok (.iaload, 1) from by decide +kernel) ?_
      refine lv_i2c hx hb (show decode code 91 = .ok (.i2c, 1) from by decide +kernel) (mj_i2c hxr) ?_
      have hc0 : 0 ≤ x % 65536 := by omega
      have hc1 : x % 65536 ≤ 65535 := by omega
      refine lw_cc (d := d) (as := [.inl (x % 65536)]) (rest := []) S hRf hRl ⟨by omega, by omega⟩ F hW (k := 0) (n := 1) rfl rfl ly_354 ly_355 ly_356 ly_1 (by decide +kernel) (by decide) (stT σ τ (x % 65536) hR hoσ hoτ hc0 hc1) hoσ (mj_okT_cons (v := .inl (x % 65536)) (show mj_r _ from ⟨by omega, by omega⟩) (fun v hv => by cases hv)) rfl hl.1 (Nat.le_of_ble_eq_true rfl) (show decode code 92 = .ok (.invokevirtual 33, 3) from by decide +kernel) (fun r σ' H1 hq hov hoσ' hW => ?_)
      obtain ⟨v, rfl, hq⟩ := hq
      refine W.eq (g2 := F0 m 95 ls [.int (Int32.ofInt v)]) rfl ?_
      refine lv_aload_n hx hb (show decode code 95 = .ok (.aload_n 2, 1) from by decide +kernel) rfl (lv_at hl 2 rfl) ?_
      refine lw_arg (k0 := 0) (k4 := 4) hx hb hl rfl rfl hX hbl hW.2.2.2 hj2 hL5 hxe (show decode code 96 = .ok (.aload_n 0, 1) from by decide +kernel) (show decode code 97 = .ok (.iload 4, 2) from by decide +kernel) (show decode code 99 = .ok (.iconst 1, 1) from by decide +kernel) (show decode code 100 = .ok (.iadd, 1) from by decide +kernel) (show decode code 101 = .ok (.iaload, 1) from by decide +kernel) ?_
      refine lv_i2c hx hb (show decode code 102 = .ok (.i2c, 1) from by decide +kernel) (mj_i2c hxr) ?_
      refine lw_mm (d := d) (as := [.inl (x % 65536)]) (rest := [.int (Int32.ofInt v)]) S hRf hRl ⟨by omega, by omega⟩ F hW (k := 9) (n := 1) rfl rfl ly_1118 ly_1119 ly_1120 ly_16 (by decide +kernel) (by decide) hq hoτ (mj_okT_cons (v := .inl (x % 65536)) (show mj_r _ from ⟨by omega, by omega⟩) (fun v hv => by cases hv)) rfl hl.1 (Nat.le_of_ble_eq_true rfl) (show decode code 103 = .ok (.invokevirtual 37, 3) from by decide +kernel) (fun r' τ' H2 hq2 hov2 hoτ' hW => ?_)
      obtain ⟨rfl, hR2⟩ := hq2
      refine W.eq (g2 := F0 m 106 ls [.int (Int32.ofInt v), .int (Int32.ofInt v)]) rfl ?_
      refine lv_icmp_eq (tgt := 261) hx hb (show decode code 106 = .ok (.if_icmp .eq 155, 3) from by decide +kernel) (by decide) (fun _ => W.widen (by omega) (by omega) (next _ _ _ _ ls hR2 hoσ' hoτ' hW hl)) (fun h => absurd rfl h)
    by_cases y1 : y = 1
    · subst y1
      refine lv_tableIn (off := 62) (tgt := 111) hx hb (show decode code 49 = .ok (.tableswitch 212 0 4 #[35, 62, 75, 131, 187], 35) from by decide +kernel) (by decide) (by decide) (by decide) (by decide) ?_
      refine lv_aload_n hx hb (show decode code 111 = .ok (.aload_n 1, 1) from by decide +kernel) rfl (lv_at hl 1 rfl) ?_
      refine lw_cc (d := d) (as := []) (rest := []) S hRf hRl ⟨by omega, by omega⟩ F hW (k := 1) (n := 0) rfl rfl ly_362 ly_363 ly_364 ly_1 (by decide +kernel) (by decide) (stC σ τ hR hoσ hoτ) hoσ (fun v hv => by cases hv) rfl hl.1 (Nat.le_of_ble_eq_true rfl) (show decode code 112 = .ok (.invokevirtual 38, 3) from by decide +kernel) (fun r σ' H1 hq hov hoσ' hW => ?_)
      obtain ⟨v, rfl, hq⟩ := hq
      refine W.eq (g2 := F0 m 115 ls [.int (Int32.ofInt v)]) rfl ?_
      refine lv_aload_n hx hb (show decode code 115 = .ok (.aload_n 2, 1) from by decide +kernel) rfl (lv_at hl 2 rfl) ?_
      refine lw_mm (d := d) (as := []) (rest := [.int (Int32.ofInt v)]) S hRf hRl ⟨by omega, by omega⟩ F hW (k := 10) (n := 0) rfl rfl ly_1122 ly_1123 ly_1124 ly_16 (by decide +kernel) (by decide) hq hoτ (fun v hv => by cases hv) rfl hl.1 (Nat.le_of_ble_eq_true rfl) (show decode code 116 = .ok (.invokevirtual 42, 3) from by decide +kernel) (fun r' τ' H2 hq2 hov2 hoτ' hW => ?_)
      obtain ⟨rfl, hR2⟩ := hq2
      refine W.eq (g2 := F0 m 119 ls [.int (Int32.ofInt v), .int (Int32.ofInt v)]) rfl ?_
      refine lv_icmp_eq (tgt := 261) hx hb (show decode code 119 = .ok (.if_icmp .eq 142, 3) from by decide +kernel) (by decide) (fun _ => W.widen (by omega) (by omega) (next _ _ _ _ ls hR2 hoσ' hoτ' hW hl)) (fun h => absurd rfl h)
    by_cases y2 : y = 2
    · subst y2
      refine lv_tableIn (off := 75) (tgt := 124) hx hb (show decode code 49 = .ok (.tableswitch 212 0 4 #[35, 62, 75, 131, 187], 35) from by decide +kernel) (by decide) (by decide) (by decide) (by decide) ?_
      refine lv_aload_n hx hb (show decode code 124 = .ok (.aload_n 1, 1) from by decide +kernel) rfl (lv_at hl 1 rfl) ?_
      refine lw_arg (k0 := 0) (k4 := 4) hx hb hl rfl rfl hX hbl hW.2.2.2 hj2 hL5 hxe (show decode code 125 = .ok (.aload_n 0, 1) from by decide +kernel) (show decode code 126 = .ok (.iload 4, 2) from by decide +kernel) (show decode code 128 = .ok (.iconst 1, 1) from by decide +kernel) (show decode code 129 = .ok (.iadd, 1) from by decide +kernel) (show decode code 130 = .ok (.iaload, 1) from by decide +kernel) ?_
      refine lv_aload_n hx hb (show decode code 131 = .ok (.aload_n 3, 1) from by decide +kernel) rfl (lv_at hl 3 rfl) ?_
      by_cases hin : 0 ≤ x ∧ x ≤ 20000
      · refine lc_any (A := fun q => mj_A adc mjc_L q ∨ q = ao) (lc_runSW (As := [.ref (adc 0), .int (Int32.ofInt x), .ref ao]) (rest := []) (n := 3) S (lr_run (l := l) (D := D) (cA := cA) f1 (stR σ τ x hR hoσ hoτ hxr hin.1 hin.2) hoσ hxr (cL := cL) (f := f) f7 (fun r σ1 h => by obtain ⟨v, hv, -⟩ := h; exact ⟨v, hv⟩)) rfl rfl (by show d + 3 + 1 ≤ R.frames; omega) (by show 8 + (4 + 11) + 64 * (d + 3) ≤ R.locals; omega) (ww_good lx_411) List.mem_cons_self (hts _ ly_0) ⟨by decide, by decide⟩ (lw_len (by decide +kernel)) (hts _ ly_409) (hts _ ly_410) ⟨fun a U g mk z => ⟨z.1, z.2.1, va_K.moved (u := U) (U := U.calling g mk a) (Vm.Alike.refl U.vm) z.2.2.1, nw_calling z.2.2.2.1, z.2.2.2.2.1, arrOfT_moved (u := U) (E := U.calling g mk a) (Vm.Alike.refl U.vm) z.2.2.2.2.2⟩, fun U hU hWm => ⟨rfl, by rw [hU]; exact hW.1, va_K.moved hWm.alike hKK, nw_warm hWm hNs, by rw [hU]; exact hW.2.2.1, arrOfT_moved hWm.alike f9⟩⟩ rfl rfl hl.1 rfl (lv_room (Nat.le_of_ble_eq_true rfl)) (show decode code 132 = .ok (.invokestatic 43, 3) from by decide +kernel) ⟨by omega, by omega⟩) (fun q h => h.elim (f3 q) (fun z => z ▸ f6)) (fun st oc t h => h.2) (fun v9 st t H1 hq ht1 hz hk => ?_)
        obtain ⟨⟨v, σ', f', e9, ⟨v2, hv2, hq⟩, hvr, hoσ', hP1, hO1, hf0⟩, -⟩ := hq
        cases hv2
        cases e9
        rw [ht1] at hP1 hO1
        have hW := lw_Wd.cf F hW hP1 hO1 hz hk
        refine W.eq (g2 := F0 m 135 ls [.int 0]) rfl ?_
        refine lv_istore hx hb (show decode code 135 = .ok (.istore 5, 2) from by decide +kernel) hl (by decide) rfl (fun ls hl => ?_)
        have hl : lv_has ls 7 [(5, .int 0), (0, .ref b), (1, .ref (adc 0)), (2, .ref (adm 0)), (3, .ref ao), (4, .int (nI (2 * j + 1)))] := hl
        refine lv_aload_n hx hb (show decode code 137 = .ok (.aload_n 2, 1) from by decide +kernel) rfl (lv_at hl 3 rfl) ?_
        refine lw_arg (k0 := 1) (k4 := 5) hx hb hl rfl rfl hX hbl hW.2.2.2 hj2 hL5 hxe (show decode code 138 = .ok (.aload_n 0, 1) from by decide +kernel) (show decode code 139 = .ok (.iload 4, 2) from by decide +kernel) (show decode code 141 = .ok (.iconst 1, 1) from by decide +kernel) (show decode code 142 = .ok (.iadd, 1) from by decide +kernel) (show decode code 143 = .ok (.iaload, 1) from by decide +kernel) ?_
        refine lw_mm (d := d) (as := [.inl (x)]) (rest := []) S hRf hRl ⟨by omega, by omega⟩ F hW (k := 59) (n := 1) rfl rfl ly_1126 ly_1127 ly_1128 ly_16 (by decide +kernel) (by decide) hq hoτ (mj_okT_cons (v := .inl (x)) hxr (fun v hv => by cases hv)) rfl hl.1 (Nat.le_of_ble_eq_true rfl) (show decode code 144 = .ok (.invokevirtual 46, 3) from by decide +kernel) (fun r' τ' H2 hq2 hov2 hoτ' hW => ?_)
        obtain ⟨rfl, ht, hR2⟩ := hq2
        refine W.eq (g2 := F0 m 147 ls [.int (Int32.ofInt v)]) rfl ?_
        refine lv_istore hx hb (show decode code 147 = .ok (.istore 6, 2) from by decide +kernel) hl (by decide) rfl (fun ls hl => ?_)
        have hl : lv_has ls 7 [(6, .int (Int32.ofInt v)), (5, .int 0), (0, .ref b), (1, .ref (adc 0)), (2, .ref (adm 0)), (3, .ref ao), (4, .int (nI (2 * j + 1)))] := hl
        refine lv_aload_n hx hb (show decode code 149 = .ok (.aload_n 2, 1) from by decide +kernel) rfl (lv_at hl 4 rfl) ?_
        have hoτ := hoτ'
        refine lw_mm (d := d) (as := []) (rest := []) S hRf hRl ⟨by omega, by omega⟩ F hW (k := 1) (n := 0) rfl rfl ly_1114 ly_1115 ly_1116 ly_16 (by decide +kernel) (by decide) (mk_thr (d := d) (by omega) (τ := τ')) hoτ (fun v hv => by cases hv) rfl hl.1 (Nat.le_of_ble_eq_true rfl) (show decode code 150 = .ok (.invokevirtual 47, 3) from by decide +kernel) (fun r' τ2 H3 hq3 hov3 hoτ' hW3 => ?_)
        obtain ⟨rfl, rfl⟩ := hq3
        have ht2 := ht
        refine W.eq (g2 := F0 m 153 ls [.int 0]) (by rw [ht]; rfl) ?_
        refine lv_iload hx hb (show decode code 153 = .ok (.iload 5, 2) from by decide +kernel) (lv_at hl 1 rfl) ?_
        refine lv_icmp_eq (tgt := 160) hx hb (show decode code 155 = .ok (.if_icmp .eq 5, 3) from by decide +kernel) (by decide) (fun _ => ?_) (fun h => absurd rfl h)
        refine lv_iload hx hb (show decode code 160 = .ok (.iload 5, 2) from by decide +kernel) (lv_at hl 1 rfl) ?_
        refine lv_if_ne (tgt := 177) hx hb (show decode code 162 = .ok (.ifCond .ne 15, 3) from by decide +kernel) (by decide) (fun h => absurd rfl h) (fun _ => ?_)
        refine lv_aload_n hx hb (show decode code 165 = .ok (.aload_n 3, 1) from by decide +kernel) rfl (lv_at hl 5 rfl) ?_
        refine lv_iconst (v := 0) hx hb (show decode code 166 = .ok (.iconst 0, 1) from by decide +kernel) (by decide) ?_
        refine W.lald (v := .long (Int32.ofInt v).toInt64) hx hb hW3.2.2.1 (f9 1 f') (fun z => by cases z) (by rw [arrV_size]; decide) (by rw [show (0 : Int32).toNatClampNeg = 0 from rfl, arrV_read _ _ (by decide), hf0]) rfl rfl (g := F0 m 167 ls [.int 0, .ref ao]) (show decode code 167 = .ok (.laload, 1) from by decide +kernel) ?_
        refine W.eq (g2 := F0 m 168 ls [.long (Int32.ofInt v).toInt64]) rfl ?_
        refine lv_iload hx hb (show decode code 168 = .ok (.iload 6, 2) from by decide +kernel) (lv_at hl 0 rfl) ?_
        refine lv_i2l hx hb (show decode code 170 = .ok (.i2l, 1) from by decide +kernel) rfl ?_
        refine W.lcmp hx hb (show decode code 171 = .ok (.lcmp, 1) from by decide +kernel) ?_
        refine lv_if_eq (tgt := 177) hx hb (show decode code 172 = .ok (.ifCond .eq 5, 3) from by decide +kernel) (by decide) (fun _ => ?_) (fun h => absurd (lw_lcmp _) h)
        refine lv_goto (tgt := 261) hx hb (show decode code 177 = .ok (.goto 84, 3) from by decide +kernel) (by decide) ?_
        refine W.widen (by omega) (by omega) (next _ _ _ _ ls hR2 (by assumption) hoτ' hW3 (lv_sub hl [2, 3, 4, 5, 6] rfl))
      · have hout : x < 0 ∨ 20000 < x := by omega
        refine lc_any (A := fun _ => False) (lc_runSW (As := [.ref (adc 0), .int (Int32.ofInt x), .ref ao]) (rest := []) (n := 3) S (lt_run (l := l) hfl (D := D) (cA := cA) f1 hoσ hxr hout (cL := cL) (f := f) (A := fun q => s.heap.size ≤ q)) rfl rfl (by show 10 + 1 ≤ R.frames; omega) (by show 8 + (4 + 11) + 700 ≤ R.locals; omega) (ww_good lx_411) List.mem_cons_self (hts _ ly_0) ⟨by decide, by decide⟩ (lw_len (by decide +kernel)) (hts _ ly_409) (hts _ ly_410) ⟨fun a U g mk z => ⟨z.1, ⟨z.2.1.1, va_K.moved (u := U) (U := U.calling g mk a) (Vm.Alike.refl U.vm) z.2.1.2.1, nw_calling z.2.1.2.2.1, z.2.1.2.2.2.1, arrOfT_moved (u := U) (E := U.calling g mk a) (Vm.Alike.refl U.vm) z.2.1.2.2.2.2⟩, th_P.moved (u := U) (U := U.calling g mk a) (Vm.Alike.refl U.vm) z.2.2.1, vk_R.same (u := U) (U := U.calling g mk a) rfl z.2.2.2⟩, fun U hU hWm => ⟨rfl, ⟨by rw [hU]; exact hW.1, va_K.moved hWm.alike hKK, nw_warm hWm hNs, by rw [hU]; exact hW.2.2.1, arrOfT_moved hWm.alike f9⟩, by rw [hU]; exact th_P.moved hWm.alike (hth.kept hsl.2.1), vk_R.warm hWm hV1⟩⟩ rfl rfl hl.1 rfl (lv_room (Nat.le_of_ble_eq_true rfl)) (show decode code 132 = .ok (.invokestatic 43, 3) from by decide +kernel) ⟨by omega, by omega⟩) (fun q h => h.elim) (fun st oc t h => h.2) (fun v9 st t H1 hq ht1 hz hk => ?_)
        have e9 := hq.1
        cases e9
        have hW := lw_Wd.t hW hz hk
        refine W.eq (g2 := F0 m 135 ls [.int 1]) rfl ?_
        refine lv_istore hx hb (show decode code 135 = .ok (.istore 5, 2) from by decide +kernel) hl (by decide) rfl (fun ls hl => ?_)
        have hl : lv_has ls 7 [(5, .int 1), (0, .ref b), (1, .ref (adc 0)), (2, .ref (adm 0)), (3, .ref ao), (4, .int (nI (2 * j + 1)))] := hl
        refine lv_aload_n hx hb (show decode code 137 = .ok (.aload_n 2, 1) from by decide +kernel) rfl (lv_at hl 3 rfl) ?_
        refine lw_arg (k0 := 1) (k4 := 5) hx hb hl rfl rfl hX hbl hW.2.2.2 hj2 hL5 hxe (show decode code 138 = .ok (.aload_n 0, 1) from by decide +kernel) (show decode code 139 = .ok (.iload 4, 2) from by decide +kernel) (show decode code 141 = .ok (.iconst 1, 1) from by decide +kernel) (show decode code 142 = .ok (.iadd, 1) from by decide +kernel) (show decode code 143 = .ok (.iaload, 1) from by decide +kernel) ?_
        refine lw_mm (d := d) (as := [.inl (x)]) (rest := []) S hRf hRl ⟨by omega, by omega⟩ F hW (k := 59) (n := 1) rfl rfl ly_1126 ly_1127 ly_1128 ly_16 (by decide +kernel) (by decide) (stRt σ τ x hR hoσ hoτ hxr hout) hoτ (mj_okT_cons (v := .inl (x)) hxr (fun v hv => by cases hv)) rfl hl.1 (Nat.le_of_ble_eq_true rfl) (show decode code 144 = .ok (.invokevirtual 46, 3) from by decide +kernel) (fun r' τ' H2 hq2 hov2 hoτ' hW => ?_)
        obtain ⟨⟨v, rfl⟩, ht, hR2⟩ := hq2
        refine W.eq (g2 := F0 m 147 ls [.int (Int32.ofInt v)]) rfl ?_
        refine lv_istore hx hb (show decode code 147 = .ok (.istore 6, 2) from by decide +kernel) hl (by decide) rfl (fun ls hl => ?_)
        have hl : lv_has ls 7 [(6, .int (Int32.ofInt v)), (5, .int 1), (0, .ref b), (1, .ref (adc 0)), (2, .ref (adm 0)), (3, .ref ao), (4, .int (nI (2 * j + 1)))] := hl
        refine lv_aload_n hx hb (show decode code 149 = .ok (.aload_n 2, 1) from by decide +kernel) rfl (lv_at hl 4 rfl) ?_
        have hoτ := hoτ'
        refine lw_mm (d := d) (as := []) (rest := []) S hRf hRl ⟨by omega, by omega⟩ F hW (k := 1) (n := 0) rfl rfl ly_1114 ly_1115 ly_1116 ly_16 (by decide +kernel) (by decide) (mk_thr (d := d) (by omega) (τ := τ')) hoτ (fun v hv => by cases hv) rfl hl.1 (Nat.le_of_ble_eq_true rfl) (show decode code 150 = .ok (.invokevirtual 47, 3) from by decide +kernel) (fun r' τ2 H3 hq3 hov3 hoτ' hW3 => ?_)
        obtain ⟨rfl, rfl⟩ := hq3
        have ht2 := ht
        refine W.eq (g2 := F0 m 153 ls [.int 1]) (by rw [ht]; rfl) ?_
        refine lv_iload hx hb (show decode code 153 = .ok (.iload 5, 2) from by decide +kernel) (lv_at hl 1 rfl) ?_
        refine lv_icmp_eq (tgt := 160) hx hb (show decode code 155 = .ok (.if_icmp .eq 5, 3) from by decide +kernel) (by decide) (fun _ => ?_) (fun h => absurd rfl h)
        refine lv_iload hx hb (show decode code 160 = .ok (.iload 5, 2) from by decide +kernel) (lv_at hl 1 rfl) ?_
        refine lv_if_ne (tgt := 177) hx hb (show decode code 162 = .ok (.ifCond .ne 15, 3) from by decide +kernel) (by decide) (fun _ => ?_) (fun h => absurd h (by decide))
        refine lv_goto (tgt := 261) hx hb (show decode code 177 = .ok (.goto 84, 3) from by decide +kernel) (by decide) ?_
        refine W.widen (by omega) (by omega) (next _ _ _ _ ls hR2 (by assumption) hoτ' hW3 (lv_sub hl [2, 3, 4, 5, 6] rfl))
    by_cases y3 : y = 3
    · subst y3
      refine lv_tableIn (off := 131) (tgt := 180) hx hb (show decode code 49 = .ok (.tableswitch 212 0 4 #[35, 62, 75, 131, 187], 35) from by decide +kernel) (by decide) (by decide) (by decide) (by decide) ?_
      refine lv_aload_n hx hb (show decode code 180 = .ok (.aload_n 1, 1) from by decide +kernel) rfl (lv_at hl 1 rfl) ?_
      refine lw_arg (k0 := 0) (k4 := 4) hx hb hl rfl rfl hX hbl hW.2.2.2 hj2 hL5 hxe (show decode code 181 = .ok (.aload_n 0, 1) from by decide +kernel) (show decode code 182 = .ok (.iload 4, 2) from by decide +kernel) (show decode code 184 = .ok (.iconst 1, 1) from by decide +kernel) (show decode code 185 = .ok (.iadd, 1) from by decide +kernel) (show decode code 186 = .ok (.iaload, 1) from by decide +kernel) ?_
      refine lv_aload_n hx hb (show decode code 187 = .ok (.aload_n 3, 1) from by decide +kernel) rfl (lv_at hl 3 rfl) ?_
      by_cases hin : 0 ≤ x ∧ x < σ 8 4
      · refine lc_any (A := fun q => mj_A adc mjc_L q ∨ q = ao) (lc_runSW (As := [.ref (adc 0), .int (Int32.ofInt x), .ref ao]) (rest := []) (n := 3) S (lr_output (l := l) (D := D) (cA := cA) f1 (stO σ τ x hR hoσ hoτ hxr hin.1 hin.2) hoσ hxr (cL := cL) (f := f) f7 (fun r σ1 h => by obtain ⟨v, hv, -⟩ := h; exact ⟨v, hv⟩)) rfl rfl (by show d + 3 + 1 ≤ R.frames; omega) (by show 8 + (4 + 11) + 64 * (d + 3) ≤ R.locals; omega) (ww_good lx_939) List.mem_cons_self (hts _ ly_0) ⟨by decide, by decide⟩ (lw_len (by decide +kernel)) (hts _ ly_937) (hts _ ly_938) ⟨fun a U g mk z => ⟨z.1, z.2.1, va_K.moved (u := U) (U := U.calling g mk a) (Vm.Alike.refl U.vm) z.2.2.1, nw_calling z.2.2.2.1, z.2.2.2.2.1, arrOfT_moved (u := U) (E := U.calling g mk a) (Vm.Alike.refl U.vm) z.2.2.2.2.2⟩, fun U hU hWm => ⟨rfl, by rw [hU]; exact hW.1, va_K.moved hWm.alike hKK, nw_warm hWm hNs, by rw [hU]; exact hW.2.2.1, arrOfT_moved hWm.alike f9⟩⟩ rfl rfl hl.1 rfl (lv_room (Nat.le_of_ble_eq_true rfl)) (show decode code 188 = .ok (.invokestatic 50, 3) from by decide +kernel) ⟨by omega, by omega⟩) (fun q h => h.elim (f3 q) (fun z => z ▸ f6)) (fun st oc t h => h.2) (fun v9 st t H1 hq ht1 hz hk => ?_)
        obtain ⟨⟨v, σ', f', e9, ⟨v2, hv2, hq⟩, hvr, hoσ', hP1, hO1, hf0⟩, -⟩ := hq
        cases hv2
        cases e9
        rw [ht1] at hP1 hO1
        have hW := lw_Wd.cf F hW hP1 hO1 hz hk
        refine W.eq (g2 := F0 m 191 ls [.int 0]) rfl ?_
        refine lv_istore hx hb (show decode code 191 = .ok (.istore 5, 2) from by decide +kernel) hl (by decide) rfl (fun ls hl => ?_)
        have hl : lv_has ls 7 [(5, .int 0), (0, .ref b), (1, .ref (adc 0)), (2, .ref (adm 0)), (3, .ref ao), (4, .int (nI (2 * j + 1)))] := hl
        refine lv_aload_n hx hb (show decode code 193 = .ok (.aload_n 2, 1) from by decide +kernel) rfl (lv_at hl 3 rfl) ?_
        refine lw_arg (k0 := 1) (k4 := 5) hx hb hl rfl rfl hX hbl hW.2.2.2 hj2 hL5 hxe (show decode code 194 = .ok (.aload_n 0, 1) from by decide +kernel) (show decode code 195 = .ok (.iload 4, 2) from by decide +kernel) (show decode code 197 = .ok (.iconst 1, 1) from by decide +kernel) (show decode code 198 = .ok (.iadd, 1) from by decide +kernel) (show decode code 199 = .ok (.iaload, 1) from by decide +kernel) ?_
        refine lw_mm (d := d) (as := [.inl (x)]) (rest := []) S hRf hRl ⟨by omega, by omega⟩ F hW (k := 61) (n := 1) rfl rfl ly_1359 ly_1360 ly_1361 ly_16 (by decide +kernel) (by decide) hq hoτ (mj_okT_cons (v := .inl (x)) hxr (fun v hv => by cases hv)) rfl hl.1 (Nat.le_of_ble_eq_true rfl) (show decode code 200 = .ok (.invokevirtual 52, 3) from by decide +kernel) (fun r' τ' H2 hq2 hov2 hoτ' hW => ?_)
        obtain ⟨rfl, ht, hR2⟩ := hq2
        refine W.eq (g2 := F0 m 203 ls [.int (Int32.ofInt v)]) rfl ?_
        refine lv_istore hx hb (show decode code 203 = .ok (.istore 6, 2) from by decide +kernel) hl (by decide) rfl (fun ls hl => ?_)
        have hl : lv_has ls 7 [(6, .int (Int32.ofInt v)), (5, .int 0), (0, .ref b), (1, .ref (adc 0)), (2, .ref (adm 0)), (3, .ref ao), (4, .int (nI (2 * j + 1)))] := hl
        refine lv_aload_n hx hb (show decode code 205 = .ok (.aload_n 2, 1) from by decide +kernel) rfl (lv_at hl 4 rfl) ?_
        have hoτ := hoτ'
        refine lw_mm (d := d) (as := []) (rest := []) S hRf hRl ⟨by omega, by omega⟩ F hW (k := 1) (n := 0) rfl rfl ly_1114 ly_1115 ly_1116 ly_16 (by decide +kernel) (by decide) (mk_thr (d := d) (by omega) (τ := τ')) hoτ (fun v hv => by cases hv) rfl hl.1 (Nat.le_of_ble_eq_true rfl) (show decode code 206 = .ok (.invokevirtual 47, 3) from by decide +kernel) (fun r' τ2 H3 hq3 hov3 hoτ' hW3 => ?_)
        obtain ⟨rfl, rfl⟩ := hq3
        have ht2 := ht
        refine W.eq (g2 := F0 m 209 ls [.int 0]) (by rw [ht]; rfl) ?_
        refine lv_iload hx hb (show decode code 209 = .ok (.iload 5, 2) from by decide +kernel) (lv_at hl 1 rfl) ?_
        refine lv_icmp_eq (tgt := 216) hx hb (show decode code 211 = .ok (.if_icmp .eq 5, 3) from by decide +kernel) (by decide) (fun _ => ?_) (fun h => absurd rfl h)
        refine lv_iload hx hb (show decode code 216 = .ok (.iload 5, 2) from by decide +kernel) (lv_at hl 1 rfl) ?_
        refine lv_if_ne (tgt := 233) hx hb (show decode code 218 = .ok (.ifCond .ne 15, 3) from by decide +kernel) (by decide) (fun h => absurd rfl h) (fun _ => ?_)
        refine lv_aload_n hx hb (show decode code 221 = .ok (.aload_n 3, 1) from by decide +kernel) rfl (lv_at hl 5 rfl) ?_
        refine lv_iconst (v := 0) hx hb (show decode code 222 = .ok (.iconst 0, 1) from by decide +kernel) (by decide) ?_
        refine W.lald (v := .long (Int32.ofInt v).toInt64) hx hb hW3.2.2.1 (f9 1 f') (fun z => by cases z) (by rw [arrV_size]; decide) (by rw [show (0 : Int32).toNatClampNeg = 0 from rfl, arrV_read _ _ (by decide), hf0]) rfl rfl (g := F0 m 223 ls [.int 0, .ref ao]) (show decode code 223 = .ok (.laload, 1) from by decide +kernel) ?_
        refine W.eq (g2 := F0 m 224 ls [.long (Int32.ofInt v).toInt64]) rfl ?_
        refine lv_iload hx hb (show decode code 224 = .ok (.iload 6, 2) from by decide +kernel) (lv_at hl 0 rfl) ?_
        refine lv_i2l hx hb (show decode code 226 = .ok (.i2l, 1) from by decide +kernel) rfl ?_
        refine W.lcmp hx hb (show decode code 227 = .ok (.lcmp, 1) from by decide +kernel) ?_
        refine lv_if_eq (tgt := 233) hx hb (show decode code 228 = .ok (.ifCond .eq 5, 3) from by decide +kernel) (by decide) (fun _ => ?_) (fun h => absurd (lw_lcmp _) h)
        refine lv_goto (tgt := 261) hx hb (show decode code 233 = .ok (.goto 28, 3) from by decide +kernel) (by decide) ?_
        refine W.widen (by omega) (by omega) (next _ _ _ _ ls hR2 (by assumption) hoτ' hW3 (lv_sub hl [2, 3, 4, 5, 6] rfl))
      · have hout : x < 0 ∨ σ 8 4 ≤ x := by omega
        refine lc_any (A := fun _ => False) (lc_runSW (As := [.ref (adc 0), .int (Int32.ofInt x), .ref ao]) (rest := []) (n := 3) S (lt_output (l := l) hfl (D := D) (cA := cA) f1 hoσ hxr hout (cL := cL) (f := f) (A := fun q => s.heap.size ≤ q)) rfl rfl (by show 10 + 1 ≤ R.frames; omega) (by show 8 + (4 + 11) + 700 ≤ R.locals; omega) (ww_good lx_939) List.mem_cons_self (hts _ ly_0) ⟨by decide, by decide⟩ (lw_len (by decide +kernel)) (hts _ ly_937) (hts _ ly_938) ⟨fun a U g mk z => ⟨z.1, ⟨z.2.1.1, va_K.moved (u := U) (U := U.calling g mk a) (Vm.Alike.refl U.vm) z.2.1.2.1, nw_calling z.2.1.2.2.1, z.2.1.2.2.2.1, arrOfT_moved (u := U) (E := U.calling g mk a) (Vm.Alike.refl U.vm) z.2.1.2.2.2.2⟩, th_P.moved (u := U) (U := U.calling g mk a) (Vm.Alike.refl U.vm) z.2.2.1, vk_R.same (u := U) (U := U.calling g mk a) rfl z.2.2.2⟩, fun U hU hWm => ⟨rfl, ⟨by rw [hU]; exact hW.1, va_K.moved hWm.alike hKK, nw_warm hWm hNs, by rw [hU]; exact hW.2.2.1, arrOfT_moved hWm.alike f9⟩, by rw [hU]; exact th_P.moved hWm.alike (hth.kept hsl.2.1), vk_R.warm hWm hV2⟩⟩ rfl rfl hl.1 rfl (lv_room (Nat.le_of_ble_eq_true rfl)) (show decode code 188 = .ok (.invokestatic 50, 3) from by decide +kernel) ⟨by omega, by omega⟩) (fun q h => h.elim) (fun st oc t h => h.2) (fun v9 st t H1 hq ht1 hz hk => ?_)
        have e9 := hq.1
        cases e9
        have hW := lw_Wd.t hW hz hk
        refine W.eq (g2 := F0 m 191 ls [.int 1]) rfl ?_
        refine lv_istore hx hb (show decode code 191 = .ok (.istore 5, 2) from by decide +kernel) hl (by decide) rfl (fun ls hl => ?_)
        have hl : lv_has ls 7 [(5, .int 1), (0, .ref b), (1, .ref (adc 0)), (2, .ref (adm 0)), (3, .ref ao), (4, .int (nI (2 * j + 1)))] := hl
        refine lv_aload_n hx hb (show decode code 193 = .ok (.aload_n 2, 1) from by decide +kernel) rfl (lv_at hl 3 rfl) ?_
        refine lw_arg (k0 := 1) (k4 := 5) hx hb hl rfl rfl hX hbl hW.2.2.2 hj2 hL5 hxe (show decode code 194 = .ok (.aload_n 0, 1) from by decide +kernel) (show decode code 195 = .ok (.iload 4, 2) from by decide +kernel) (show decode code 197 = .ok (.iconst 1, 1) from by decide +kernel) (show decode code 198 = .ok (.iadd, 1) from by decide +kernel) (show decode code 199 = .ok (.iaload, 1) from by decide +kernel) ?_
        refine lw_mm (d := d) (as := [.inl (x)]) (rest := []) S hRf hRl ⟨by omega, by omega⟩ F hW (k := 61) (n := 1) rfl rfl ly_1359 ly_1360 ly_1361 ly_16 (by decide +kernel) (by decide) (stOt σ τ x hR hoσ hoτ hxr hout) hoτ (mj_okT_cons (v := .inl (x)) hxr (fun v hv => by cases hv)) rfl hl.1 (Nat.le_of_ble_eq_true rfl) (show decode code 200 = .ok (.invokevirtual 52, 3) from by decide +kernel) (fun r' τ' H2 hq2 hov2 hoτ' hW => ?_)
        obtain ⟨⟨v, rfl⟩, ht, hR2⟩ := hq2
        refine W.eq (g2 := F0 m 203 ls [.int (Int32.ofInt v)]) rfl ?_
        refine lv_istore hx hb (show decode code 203 = .ok (.istore 6, 2) from by decide +kernel) hl (by decide) rfl (fun ls hl => ?_)
        have hl : lv_has ls 7 [(6, .int (Int32.ofInt v)), (5, .int 1), (0, .ref b), (1, .ref (adc 0)), (2, .ref (adm 0)), (3, .ref ao), (4, .int (nI (2 * j + 1)))] := hl
        refine lv_aload_n hx hb (show decode code 205 = .ok (.aload_n 2, 1) from by decide +kernel) rfl (lv_at hl 4 rfl) ?_
        have hoτ := hoτ'
        refine lw_mm (d := d) (as := []) (rest := []) S hRf hRl ⟨by omega, by omega⟩ F hW (k := 1) (n := 0) rfl rfl ly_1114 ly_1115 ly_1116 ly_16 (by decide +kernel) (by decide) (mk_thr (d := d) (by omega) (τ := τ')) hoτ (fun v hv => by cases hv) rfl hl.1 (Nat.le_of_ble_eq_true rfl) (show decode code 206 = .ok (.invokevirtual 47, 3) from by decide +kernel) (fun r' τ2 H3 hq3 hov3 hoτ' hW3 => ?_)
        obtain ⟨rfl, rfl⟩ := hq3
        have ht2 := ht
        refine W.eq (g2 := F0 m 209 ls [.int 1]) (by rw [ht]; rfl) ?_
        refine lv_iload hx hb (show decode code 209 = .ok (.iload 5, 2) from by decide +kernel) (lv_at hl 1 rfl) ?_
        refine lv_icmp_eq (tgt := 216) hx hb (show decode code 211 = .ok (.if_icmp .eq 5, 3) from by decide +kernel) (by decide) (fun _ => ?_) (fun h => absurd rfl h)
        refine lv_iload hx hb (show decode code 216 = .ok (.iload 5, 2) from by decide +kernel) (lv_at hl 1 rfl) ?_
        refine lv_if_ne (tgt := 233) hx hb (show decode code 218 = .ok (.ifCond .ne 15, 3) from by decide +kernel) (by decide) (fun _ => ?_) (fun h => absurd h (by decide))
        refine lv_goto (tgt := 261) hx hb (show decode code 233 = .ok (.goto 28, 3) from by decide +kernel) (by decide) ?_
        refine W.widen (by omega) (by omega) (next _ _ _ _ ls hR2 (by assumption) hoτ' hW3 (lv_sub hl [2, 3, 4, 5, 6] rfl))
    by_cases y4 : y = 4
    · subst y4
      refine lv_tableIn (off := 187) (tgt := 236) hx hb (show decode code 49 = .ok (.tableswitch 212 0 4 #[35, 62, 75, 131, 187], 35) from by decide +kernel) (by decide) (by decide) (by decide) (by decide) ?_
      refine lv_aload_n hx hb (show decode code 236 = .ok (.aload_n 1, 1) from by decide +kernel) rfl (lv_at hl 1 rfl) ?_
      refine lw_arg (k0 := 0) (k4 := 4) hx hb hl rfl rfl hX hbl hW.2.2.2 hj2 hL5 hxe (show decode code 237 = .ok (.aload_n 0, 1) from by decide +kernel) (show decode code 238 = .ok (.iload 4, 2) from by decide +kernel) (show decode code 240 = .ok (.iconst 1, 1) from by decide +kernel) (show decode code 241 = .ok (.iadd, 1) from by decide +kernel) (show decode code 242 = .ok (.iaload, 1) from by decide +kernel) ?_
      refine lw_cc (d := d) (as := [.inl (x)]) (rest := []) S hRf hRl ⟨by omega, by omega⟩ F hW (k := 4) (n := 1) rfl rfl ly_370 ly_371 ly_372 ly_1 (by decide +kernel) (by decide) (stN σ τ x hR hoσ hoτ hxr) hoσ (mj_okT_cons (v := .inl (x)) hxr (fun v hv => by cases hv)) rfl hl.1 (Nat.le_of_ble_eq_true rfl) (show decode code 243 = .ok (.invokevirtual 53, 3) from by decide +kernel) (fun r σ' H1 hq hov hoσ' hW => ?_)
      obtain ⟨v, rfl, hq⟩ := hq
      refine W.eq (g2 := F0 m 246 ls [.int (Int32.ofInt v)]) rfl ?_
      refine lv_aload_n hx hb (show decode code 246 = .ok (.aload_n 2, 1) from by decide +kernel) rfl (lv_at hl 2 rfl) ?_
      refine lw_arg (k0 := 0) (k4 := 4) hx hb hl rfl rfl hX hbl hW.2.2.2 hj2 hL5 hxe (show decode code 247 = .ok (.aload_n 0, 1) from by decide +kernel) (show decode code 248 = .ok (.iload 4, 2) from by decide +kernel) (show decode code 250 = .ok (.iconst 1, 1) from by decide +kernel) (show decode code 251 = .ok (.iadd, 1) from by decide +kernel) (show decode code 252 = .ok (.iaload, 1) from by decide +kernel) ?_
      refine lw_mm (d := d) (as := [.inl (x)]) (rest := [.int (Int32.ofInt v)]) S hRf hRl ⟨by omega, by omega⟩ F hW (k := 62) (n := 1) rfl rfl ly_1363 ly_1364 ly_1365 ly_16 (by decide +kernel) (by decide) hq hoτ (mj_okT_cons (v := .inl (x)) hxr (fun v hv => by cases hv)) rfl hl.1 (Nat.le_of_ble_eq_true rfl) (show decode code 253 = .ok (.invokevirtual 56, 3) from by decide +kernel) (fun r' τ' H2 hq2 hov2 hoτ' hW => ?_)
      obtain ⟨rfl, hR2⟩ := hq2
      refine W.eq (g2 := F0 m 256 ls [.int (Int32.ofInt v), .int (Int32.ofInt v)]) rfl ?_
      refine lv_icmp_eq (tgt := 261) hx hb (show decode code 256 = .ok (.if_icmp .eq 5, 3) from by decide +kernel) (by decide) (fun _ => W.widen (by omega) (by omega) (next _ _ _ _ ls hR2 hoσ' hoτ' hW hl)) (fun h => absurd rfl h)
    refine lv_tableOut (tgt := 261) hx hb (show decode code 49 = .ok (.tableswitch 212 0 4 #[35, 62, 75, 131, 187], 35) from by decide +kernel) (lw_out y0 y1 y2 y3 y4) (by decide) ?_
    exact W.widen (by omega) (by omega) (next _ _ _ _ ls (st0 _ _ hR) hoσ hoτ hW hl)
