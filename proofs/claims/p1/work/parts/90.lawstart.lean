/-! the law's start, up to its loop -/
set_option maxRecDepth 20000 in
theorem lz_406 : (Jvm.Cond.methodLink "ListSpeakerLaw" (21 : Nat) ({ cls := "ListSpeakerLaw", name := "cell", desc := "([II)I" } : Jvm.MethodName)) ∈ mj_WS := mj_mem 406 (by decide +kernel) (by decide)
set_option maxRecDepth 20000 in
theorem lz_407 : (Jvm.Cond.static ({ cls := "ListSpeakerLaw", name := "cell", desc := "([II)I" } : Jvm.MethodName)) ∈ mj_WS := mj_mem 407 (by decide +kernel) (by decide)
set_option maxRecDepth 20000 in
theorem lz_408 : (Jvm.Cond.code ({ cls := "ListSpeakerLaw", name := "cell", desc := "([II)I" } : Jvm.MethodName) method_2_code (2 : Nat) (Option.some Jvm.ClassFile.FieldType.int)) ∈ mj_WS := mj_mem 408 (by decide +kernel) (by decide)
set_option maxRecDepth 20000 in
theorem lz_22 : (Jvm.Cond.classLink "ListSpeakerLaw" (8 : Nat) "ListSpeaker") ∈ mj_WS := mj_mem 22 (by decide +kernel) (by decide)
set_option maxRecDepth 20000 in
theorem lz_23 : (Jvm.Cond.instantiable "ListSpeaker" (9 : Nat)) ∈ mj_WS := mj_mem 23 (by decide +kernel) (by decide)
set_option maxRecDepth 20000 in
theorem lz_24 : (Jvm.Cond.methodLink "ListSpeakerLaw" (27 : Nat) ({ cls := "ListSpeaker", name := "<init>", desc := "(I)V" } : Jvm.MethodName)) ∈ mj_WS := mj_mem 24 (by decide +kernel) (by decide)
set_option maxRecDepth 20000 in
theorem lz_25 : (Jvm.Cond.instanceMethod ({ cls := "ListSpeaker", name := "<init>", desc := "(I)V" } : Jvm.MethodName)) ∈ mj_WS := mj_mem 25 (by decide +kernel) (by decide)
set_option maxRecDepth 20000 in
theorem lz_26 : (Jvm.Cond.code ({ cls := "ListSpeaker", name := "<init>", desc := "(I)V" } : Jvm.MethodName) prog_1_method_1_code (2 : Nat) (Option.none : Option Jvm.ClassFile.FieldType)) ∈ mj_WS := mj_mem 26 (by decide +kernel) (by decide)
set_option maxRecDepth 20000 in
theorem lz_965 : (Jvm.Cond.classLink "ListSpeakerLaw" (30 : Nat) "ListSpeakerModel") ∈ mj_WS := mj_mem 965 (by decide +kernel) (by decide)
set_option maxRecDepth 20000 in
theorem lz_966 : (Jvm.Cond.instantiable "ListSpeakerModel" (46 : Nat)) ∈ mj_WS := mj_mem 966 (by decide +kernel) (by decide)
set_option maxRecDepth 20000 in
theorem lz_967 : (Jvm.Cond.methodLink "ListSpeakerLaw" (32 : Nat) ({ cls := "ListSpeakerModel", name := "<init>", desc := "(I)V" } : Jvm.MethodName)) ∈ mj_WS := mj_mem 967 (by decide +kernel) (by decide)
set_option maxRecDepth 20000 in
theorem lz_968 : (Jvm.Cond.instanceMethod ({ cls := "ListSpeakerModel", name := "<init>", desc := "(I)V" } : Jvm.MethodName)) ∈ mj_WS := mj_mem 968 (by decide +kernel) (by decide)
set_option maxRecDepth 20000 in
theorem lz_969 : (Jvm.Cond.code ({ cls := "ListSpeakerModel", name := "<init>", desc := "(I)V" } : Jvm.MethodName) prog_11_method_1_code (2 : Nat) (Option.none : Option Jvm.ClassFile.FieldType)) ∈ mj_WS := mj_mem 969 (by decide +kernel) (by decide)
set_option maxRecDepth 20000 in
theorem lz_1367 : (Jvm.Cond.arrayClass Jvm.ClassFile.FieldType.long) ∈ mj_WS := mj_mem 1367 (by decide +kernel) (by decide)
theorem lw_Xm {b L : Nat} {xs : Nat → Int32} {s U : State} {H : Heap} (hvm : s.vm.Alike U.vm) (h : va_X b L xs s H) : va_X b L xs U H := by
  obtain ⟨scr, h1, h2, h3⟩ := h
  exact ⟨scr, h1, State.isArrayOf_alike hvm h2, h3⟩
theorem lw_Xk {b L : Nat} {xs : Nat → Int32} {s : State} {H : Heap} (h : va_X b L xs s s.heap) (hS : va_S (fun q => s.heap.size ≤ q) s.heap H []) : va_X b L xs s H := by
  obtain ⟨scr, h1, h2⟩ := h
  have hl := (Array.getElem?_eq_some_iff.mp h1).1
  exact ⟨scr, by rw [hS.2.1 b hl (by show ¬ _ ≤ _; omega)]; exact h1, h2⟩
set_option maxHeartbeats 8000000 in
set_option maxRecDepth 100000 in
theorem law_start {p : Program} {l : Launch} {e : Env} {R : Room} {s : State} {m : MethodId} {below : List Frame} {meth : Method} {c : Code} {Z : State → Prop} {d b L J : Nat} {xs : Nat → Int32} (hx : p.tables.exec = Jvm.exec) (hb : c.code = code) (hml : c.maxLocals = 7) (hown : s.vm.findClass "ListSpeakerLaw" = some m.cls) (htb : ∀ w ∈ lw_tbl, w.before #[Value.ref b] s = true) (hgv : st_all.before #[Value.ref b] s = true) (hfl : l.flags = flags0) (hd : 1 ≤ d) (hRf : d + 40 ≤ R.frames) (hRl : 64 * d + 2000 ≤ R.locals) (hRc : 1000 ≤ R.cells) (hRs : 40000 ≤ R.slots) (hX : va_X b L xs s s.heap) (hbl : b < s.heap.size) (hLJ : L ≤ 2 * J + 1) (hJ : J ≤ 512) {Rel : Nat → mj_S → mj_S → Prop} (hstep : ∀ j, j < J → lw_step d (Rel j) (Rel (j + 1)))
    (hinit : ∀ (x : Int) (σ τ : mj_S), mj_r x → mj_okS σ → mj_okS τ → sy_SP sy_21 σ → mk_SP (cl_sz x) sy_21 τ → Rel 0 (fC (cl_sz x) σ) τ)
    (hend : ∀ (H : Heap) (ls : Array Slot), W p l e R s m #[Value.ref b] below meth c H [] (62 + J) (30513 + 6 * J) Z (F0 m 268 ls [.int 1])) : W p l e R s m #[Value.ref b] below meth c s.heap [] 0 0 Z (entryFrame m ([Value.ref b] : List Value).toArray 7) := by
  have hL5 : L ≤ 1025 := by omega
  have hts : ∀ w ∈ mj_WS, w.before #[Value.ref b] s = true := fun w hw => htb w (List.mem_filter.mp hw).1
  have S : CallFix p m c code 7 s #[Value.ref b] mj_WS "ListSpeakerLaw" := ⟨hx, hb, hml, hown, hts⟩
  obtain ⟨D, cA, hK⟩ := st_K htb
  obtain ⟨a0, t0, hJd, hVR⟩ := st_J htb hgv
  obtain ⟨a1, hV1⟩ := st_R94 htb hgv
  obtain ⟨a2, hV2⟩ := st_R120 htb hgv
  have hNs := st_NW htb
  have hNC := st_NC htb
  have hth := st_TH htb hgv
  have hA : ∀ q : Nat, s.heap.size ≤ q → s.heap.size ≤ q := fun _ h => h
  have hS : va_S (fun q => s.heap.size ≤ q) s.heap s.heap [] := va_S.rf
  have hl := lv_entry ([.ref b]) (n := 7) (Nat.le_of_ble_eq_true rfl)
  rw [lg_entry_eq]
  generalize (lg_sl ([.ref b]) ++ List.replicate (7 - (lg_sl ([.ref b])).length) Slot.unset).toArray = ls at hl ⊢
  have hl : lv_has ls 7 [(0, .ref b)] := hl
  generalize hcx : (if 0 < L then xs 0 else 0) = c0
  obtain ⟨x, hxr, hxe⟩ := lw_int c0
  have cell : ∀ (H : Heap) (cs ss pc : Nat) (rest : List Value) (ls : Array Slot), ls.size = 7 → va_S (fun q => s.heap.size ≤ q) s.heap H [] → cs ≤ R.cells → ss ≤ R.slots → (rest.map fun v => v.category).sum ≤ 8 → decode code pc = .ok (.invokestatic 21, 3) → W p l e R s m #[Value.ref b] below meth c H [] cs ss Z (F0 m (pc + 3) ls (.int (Int32.ofInt x) :: rest)) → W p l e R s m #[Value.ref b] below meth c H [] cs ss Z (F0 m pc ls (.int 0 :: .ref b :: rest)) := by
    intro H cs ss pc rest ls hls hS h1 h2 hr hdg kk
    refine th_csi (va_runS (As := [.ref b, .int 0]) (rest := rest) S (c_cell (l := l) (b := b) (xs := xs) hL5) ⟨callB_of 2 hts (ww_good lz_408) rfl rfl rfl (hts _ ly_0) (hts _ lz_406) ⟨by decide, by decide, by decide +kernel⟩ ⟨by show 1 + 1 ≤ R.frames; omega, by show 8 + (2 + 11) + 40 ≤ R.locals; omega⟩, hts _ lz_407⟩ ⟨fun a U g mk z => ⟨z.1, lw_Xm (s := U) (U := U.calling g mk a) (Vm.Alike.refl U.vm) z.2⟩, fun U hU hW => ⟨rfl, by show va_X b L xs U U.heap; rw [hU]; exact lw_Xm hW.alike (lw_Xk hX hS)⟩⟩ rfl rfl hls rfl (lv_room hr) hdg ⟨h1, h2⟩) (fun r hr => ?_)
    rw [hr, hcx, ← hxe]
    exact kk
  -- new ListSpeaker
  refine va_new (D := D) (ci := 0) (fs := [.null, .null, .null, .null, .null, .null, .null, .null, .int 0]) (C := "ListSpeaker") (T := mjF0) (N := 9) hx hb hts mjw0 mjt0 mjk0 hown (hts _ lz_22) (hts _ lz_23) (hts _ ly_1) hK va_P0 va_D0 hS hA rfl (by decide) (by omega) (by omega) (show decode code 0 = .ok (.new 8, 3) from by decide +kernel) (fun q1 H hP hD hS => ?_)
  have hP : va_P D mj_kl [(q1, .inr (0, [.null, .null, .null, .null, .null, .null, .null, .null, .int 0]))] H := hP
  have hD : va_D (fun q => s.heap.size ≤ q) [(q1, .inr (0, [.null, .null, .null, .null, .null, .null, .null, .null, .int 0]))] := hD
  refine lv_dup hx hb (show decode code 3 = .ok (.dup, 1) from by decide +kernel) rfl ?_
  refine lv_aload_n hx hb (show decode code 4 = .ok (.aload_n 0, 1) from by decide +kernel) rfl (lv_at hl 0 rfl) ?_
  refine lv_iconst (v := 0) hx hb (show decode code 5 = .ok (.iconst 0, 1) from by decide +kernel) (by decide) ?_
  refine cell H _ _ 6 [.ref q1, .ref q1] ls hl.1 hS (by omega) (by omega) (Nat.le_of_ble_eq_true rfl) (show decode code 6 = .ok (.invokestatic 21, 3) from by decide +kernel) ?_
  have hFc := va_free (wc := [(q1, .inr (0, [.null, .null, .null, .null, .null, .null, .null, .null, .int 0]))]) hD hS hA [0] rfl
  refine va_callv (va_runI (As := [.int (Int32.ofInt x)]) (rest := [.ref q1]) S (c_ListSpeaker l D cA q1 H.size a0 t0 x hxr) ⟨callB_of 1 hts (ww_good lz_26) rfl rfl rfl (hts _ ly_1) (hts _ lz_24) ⟨by decide, by decide, by decide +kernel⟩ ⟨by show 20 + 1 ≤ R.frames; omega, by show 8 + (2 + 11) + 1000 ≤ R.locals; omega⟩, rfl, hts _ lz_25⟩ ⟨fun a U g mk z => ⟨z.1, z.2.1, z.2.2.1, va_K.moved (u := U) (U := U.calling g mk a) (Vm.Alike.refl U.vm) z.2.2.2.1, z.2.2.2.2.1, nw_calling z.2.2.2.2.2.1, z.2.2.2.2.2.2.1.moved (u := U) (U := U.calling g mk a) (Vm.Alike.refl U.vm), vk_R.same (u := U) (U := U.calling g mk a) rfl z.2.2.2.2.2.2.2.1, va_Nw.same rfl (u := U) (U := U.calling g mk a) rfl z.2.2.2.2.2.2.2.2⟩, fun U hU hW => ⟨rfl, by rw [hU], by rw [hU]; exact hP, va_K.moved hW.alike hK, hD.weaken (fun _ _ _ _ => trivial), nw_warm hW hNs, by rw [hU]; exact ((hJd.kept hS.2.1).narrow (fun z hz => hFc z hz)).moved hW.alike, vk_R.warm hW hVR, va_Nw.warmM hW hNC⟩⟩ rfl rfl hl.1 rfl (lv_room (Nat.le_of_ble_eq_true rfl)) (show decode code 9 = .ok (.invokespecial 27, 3) from by decide +kernel) ⟨by show 0 + 1 + 35 ≤ R.cells; omega, by show 0 + 9 + 13693 ≤ R.slots; omega⟩) hS (fun q _ h => hFc q h) hFc (fun u9 t H1 locs ht hvm p9 hB hz1 hk1 hS => ?_)
  obtain ⟨hP1, hK1, hD1⟩ := hB
  rw [ht] at hP1
  obtain ⟨adc, σs⟩ := u9
  obtain ⟨e9, hos, hsp⟩ := p9
  dsimp only at e9 hos hsp hP1 hD1
  obtain ⟨f1, fA⟩ := mj_D_of (D := D) hD1
  have f3 : ∀ q, mj_A adc mjc_L q → s.heap.size ≤ q := fun q h => hFc q (fA q h)
  have hoσ : mj_okS (fC (cl_sz x) σs) := fC_ok (show mj_r (cl_sz x) from ⟨by have := cl_sz_lo x; omega, by have := cl_sz_hi x; omega⟩) hos
  clear hk1 hz1 hP hD hFc
  refine lv_astore_n hx hb (show decode code 12 = .ok (.astore_n 1, 1) from by decide +kernel) rfl hl (by decide) rfl (fun ls hl => ?_)
  have hl : lv_has ls 7 [(1, .ref q1), (0, .ref b)] := hl
  refine va_forget (fun q h => hS.2.2 q h) ?_
  have hS : va_S (fun q => s.heap.size ≤ q) s.heap H1 [] := ⟨hS.1, hS.2.1, fun q h => by cases h⟩
  -- new ListSpeakerModel
  refine va_new (D := D) (ci := 9) (fs := [.int 0, .int 0, .int 0, .null, .int 0, .int 0, .int 0, .null, .null, .null, .null, .int 0, .int 0, .int 0, .null, .null, .null, .int 0, .null, .null, .null, .null, .int 0, .null, .null, .null, .int 0, .null, .null, .null, .null, .int 0, .null, .int 0, .null, .null, .int 0, .int 0, .int 0, .null, .int 0, .int 0, .int 0, .int 0, .int 0, .null]) (C := "ListSpeakerModel") (T := mjF9) (N := 46) hx hb hts mjw9 mjt9 mjk9 hown (hts _ lz_965) (hts _ lz_966) (hts _ ly_16) hK hP1 (mj_va_D2 f1 f3 _) hS hA rfl (by decide) (by omega) (by omega) (show decode code 13 = .ok (.new 30, 3) from by decide +kernel) (fun q2 H hP hD hS => ?_)
  have hPc := va_Pl hP
  have hP2 := va_Pr hP
  have hD2 := va_Dr hD
  have hne : ∀ q, mj_A adc mjc_L q → q ≠ q2 := fun q hq => by
    obtain ⟨k, e1, hk⟩ := mj_A_w (cA := cA) (σ := fC (cl_sz x) σs) hq
    exact va_Dd hD hk (show ([(q2, .inr (9, [.int 0, .int 0, .int 0, .null, .int 0, .int 0, .int 0, .null, .null, .null, .null, .int 0, .int 0, .int 0, .null, .null, .null, .int 0, .null, .null, .null, .null, .int 0, .null, .null, .null, .int 0, .null, .null, .null, .null, .int 0, .null, .int 0, .null, .null, .int 0, .int 0, .int 0, .null, .int 0, .int 0, .int 0, .int 0, .int 0, .null]))] : va_W)[0]? = some _ from rfl)
  clear hP hD
  refine lv_dup hx hb (show decode code 16 = .ok (.dup, 1) from by decide +kernel) rfl ?_
  refine lv_aload_n hx hb (show decode code 17 = .ok (.aload_n 0, 1) from by decide +kernel) rfl (lv_at hl 1 rfl) ?_
  refine lv_iconst (v := 0) hx hb (show decode code 18 = .ok (.iconst 0, 1) from by decide +kernel) (by decide) ?_
  refine cell H _ _ 19 [.ref q2, .ref q2] ls hl.1 hS (by omega) (by omega) (Nat.le_of_ble_eq_true rfl) (show decode code 19 = .ok (.invokestatic 21, 3) from by decide +kernel) ?_
  have hFc := va_free (wc := [(q2, .inr (9, [.int 0, .int 0, .int 0, .null, .int 0, .int 0, .int 0, .null, .null, .null, .null, .int 0, .int 0, .int 0, .null, .null, .null, .int 0, .null, .null, .null, .null, .int 0, .null, .null, .null, .int 0, .null, .null, .null, .null, .int 0, .null, .int 0, .null, .null, .int 0, .int 0, .int 0, .null, .int 0, .int 0, .int 0, .int 0, .int 0, .null]))]) hD2 hS hA [0] rfl
  refine va_callv (va_runI (As := [.int (Int32.ofInt x)]) (rest := [.ref q2]) S (c_Model l D cA q2 H.size x hxr) ⟨callB_of 1 hts (ww_good lz_969) rfl rfl rfl (hts _ ly_16) (hts _ lz_967) ⟨by decide, by decide, by decide +kernel⟩ ⟨by show 8 + 1 ≤ R.frames; omega, by show 8 + (2 + 11) + 600 ≤ R.locals; omega⟩, rfl, hts _ lz_968⟩ ⟨fun a U g mk z => ⟨z.1, z.2.1, z.2.2.1, va_K.moved (u := U) (U := U.calling g mk a) (Vm.Alike.refl U.vm) z.2.2.2.1, z.2.2.2.2.1, nw_calling z.2.2.2.2.2⟩, fun U hU hW => ⟨rfl, by rw [hU], by rw [hU]; exact hP2, va_K.moved hW.alike hK, hD2.weaken (fun _ _ _ _ => trivial), nw_warm hW hNs⟩⟩ rfl rfl hl.1 rfl (lv_room (Nat.le_of_ble_eq_true rfl)) (show decode code 22 = .ok (.invokespecial 32, 3) from by decide +kernel) ⟨by show 0 + 1 + 35 + 1 + 24 ≤ R.cells; omega, by show 0 + 9 + 13693 + 46 + 16764 ≤ R.slots; omega⟩) hS (fun q _ h => hFc q h) hFc (fun u9 t H2 locs ht hvm p9 hB hz2 hk2 hS => ?_)
  obtain ⟨hPm, hKm, hDm⟩ := hB
  rw [ht] at hPm
  obtain ⟨adm, τ⟩ := u9
  obtain ⟨em, hoτ, hmk⟩ := p9
  dsimp only at em hoτ hmk hPm hDm
  obtain ⟨f2, fB⟩ := mj_D_of (D := D) hDm
  have f4 : ∀ q, mj_A adm mjm_L q → s.heap.size ≤ q := fun q h => hFc q (fB q h)
  have hA2 : ∀ q, mj_A adc mjc_L q → ¬ va_A [(q2, .inr (9, [.int 0, .int 0, .int 0, .null, .int 0, .int 0, .int 0, .null, .null, .null, .null, .int 0, .int 0, .int 0, .null, .null, .null, .int 0, .null, .null, .null, .null, .int 0, .null, .null, .null, .int 0, .null, .null, .null, .null, .int 0, .null, .int 0, .null, .null, .int 0, .int 0, .int 0, .null, .int 0, .int 0, .int 0, .int 0, .int 0, .null]))] H.size q := fun q hq z => by
    have hlt := mj_A_lt hPc hq
    rcases z with ⟨k, e1, z⟩ | z
    · match k, z with
      | 0, z => cases z; exact hne _ hq rfl
      | _ + 1, z => cases z
    · omega
  have f5 : ∀ q, mj_A adc mjc_L q → ¬ mj_A adm mjm_L q := fun q hq z => hA2 q hq (fB q z)
  have hPc2 := mj_P_kept hPc (fun q hq hA9 => hk2 q hq (hA2 q hA9))
  refine lv_astore_n hx hb (show decode code 25 = .ok (.astore_n 2, 1) from by decide +kernel) rfl hl (by decide) rfl (fun ls hl => ?_)
  have hl : lv_has ls 7 [(2, .ref q2), (1, .ref q1), (0, .ref b)] := hl
  refine va_forget (fun q h => hS.2.2 q h) ?_
  have hS : va_S (fun q => s.heap.size ≤ q) s.heap H2 [] := ⟨hS.1, hS.2.1, fun q h => by cases h⟩
  refine lv_iconst (v := 1) hx hb (show decode code 26 = .ok (.iconst 1, 1) from by decide +kernel) (by decide) ?_
  refine va_newaK (atype := .long) (N := 1) hx hb (hts _ lz_1367) (g := F0 m 27 ls [.int 1]) rfl (show decode code 27 = .ok (.newarray .long, 2) from by decide +kernel) rfl (by decide) rfl (by decide) (by show 0 + 1 + 35 + 1 + 24 + 1 ≤ R.cells; omega) (by show 0 + 9 + 13693 + 46 + 16764 + 1 ≤ R.slots; omega) rfl (fun H3 cL e3 z3 o3 hAr hNm => ?_)
  refine W.eq (g2 := F0 m 29 ls [.ref H2.size]) rfl ?_
  refine lv_astore_n hx hb (show decode code 29 = .ok (.astore_n 3, 1) from by decide +kernel) rfl hl (by decide) rfl (fun ls hl => ?_)
  refine lv_iconst (v := 1) hx hb (show decode code 30 = .ok (.iconst 1, 1) from by decide +kernel) (by decide) ?_
  refine lv_istore hx hb (show decode code 31 = .ok (.istore 4, 2) from by decide +kernel) hl (by decide) rfl (fun ls hl => ?_)
  have hl : lv_has ls 7 [(4, .int 1), (3, .ref H2.size), (2, .ref q2), (1, .ref q1), (0, .ref b)] := hl
  have hsz : s.heap.size ≤ H2.size := hS.1
  have F : lw_F s D cA adc adm cL H2.size := ⟨f1, f2, f3, f4, f5, hsz, fun z => by have := mj_A_lt hPc2 z; omega, fun z => by have := mj_A_lt hPm z; omega, hAr, hK, hNs, hth⟩
  have hW : lw_Wd s D cA adc adm cL H2.size (fC (cl_sz x) σs) τ (fun _ => .long 0) H3 := ⟨mj_P_kept hPc2 (fun q hq _ => o3 q hq), mj_P_kept hPm (fun q hq _ => o3 q hq), e3, by omega, fun q h1 h2 => by rw [o3 q (by omega)]; exact hS.2.1 q h1 h2, fun q h => by cases h⟩
  have hl := lv_sub hl [4, 3, 2, 1, 0] rfl
  refine law_loop S hfl hd hRf hRl hRc hRs F hV1 hV2 hX hbl hLJ hJ hstep hend L 0 _ _ _ _ ls (by omega) (by omega) (hinit x σs τ hxr hos hoτ hsp hmk) hoσ hoτ hW ?_
  rw [e9, em]
  exact hl
