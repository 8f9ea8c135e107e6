/-! for the law's walk: its calls, its worlds -/
section LCK
variable {p : Program} {l : Launch} {e : Env} {R : Room} {s : State} {m : MethodId} {args : Array Value} {below : List Frame} {meth : Method} {c : Code} {H : Heap} {locs : List Loc} {cells slots : Nat}
variable {y : MethodName} {bytes cc : ByteArray} {maxL nL mc ms n index : Nat} {ret : Option FieldType} {ws : List Jvm.Cond} {rm : Room} {Pc : Array Value → State → Prop} {Qc : Array Value → State → Outcome → State → Prop} {free : Addr → Prop} {Ts : List Jvm.Cond} {own C : String} {b : Addr} {As rest : List Value} {g : JFrame} {hh : List (Nat × Nat × Nat × Nat)}
/-- a static call of a method with a table of handlers -/
theorem lc_runSW (S : CallFix p m c cc nL s args Ts own) (hM : Met l y ws rm Pc Qc mc ms free) (hrc : rm.cells = mc) (hrs : rm.slots = ms) (hfr : rm.frames + 1 ≤ R.frames) (hlo : 8 + (maxL + 11) + rm.locals ≤ R.locals) (hG : GoodIn Ts ws) (hcw : Jvm.Cond.codeWith y bytes maxL ret hh ∈ ws) (hini : (Jvm.Cond.initialized y.cls).before args s = true) (hy : y.cls ≠ "java/lang/invoke/MethodHandle" ∧ y.cls ≠ "java/lang/invoke/VarHandle") (hlen : ∀ sig, parseMethodDescriptor y.desc = some sig → n = sig.parameters.length) (hlink : (Jvm.Cond.methodLink own index y).before args s = true) (hstat : (Jvm.Cond.static y).before args s = true) (hp : PreS s H Pc As)
    (hg : g.method = m) (hn : As.length = n) (hsize : g.locals.size = nL) (hstack : g.stack = As.reverse ++ rest) (hW : 2 * g.monitorRoom + (rest.map fun v => v.category).sum ≤ 8) (hdg : decode cc g.pc = .ok (.invokestatic index, 3)) (hf : cells + mc ≤ R.cells ∧ slots + ms ≤ R.slots) :
    va_Run p l e R s m args below meth c H locs cells slots mc ms g rest (Qc As.toArray) (free) := by
  obtain ⟨hx, hb, hml, hown, hts⟩ := S
  have hws := pay_in hts hG
  have hK : Back l R p e below s args y 3 8 (PreOf R mc ms Pc) (PostOf Qc mc ms free) := va_backW (hh := hh) (bytes := bytes) (maxL := maxL) (ret := ret) hM hp.1 hrc hrs hfr hlo hws hcw (fun a' U hW => word_at hW (Or.inl (by first | rfl | simp [Cond.onTables, Cond.keeps, Cond.steady])) hini)
  intro T hT X
  have hcode : (Jvm.Cond.codeWith y bytes maxL ret hh).before args s = true := hts _ (hG _ hcw).1
  obtain ⟨mk, methM, cM, hnamed, hmethM, -, -, -, -, -, -, hsigM⟩ := Cond.codeWith_spec hcode
  have hstatic : methM.isStatic = true := Cond.static_spec hnamed hmethM hstat
  obtain ⟨kP, hkP, -⟩ := className_of_methodNamed hnamed
  have hinitP : kP.init = .initialized := Cond.initialized_spec (findClass_of_methodNamed hnamed) hkP hini
  have hdg' : decode c.code g.pc = .ok (.invokestatic index, 3) := by rw [hb]; exact hdg
  obtain ⟨vm₁, X₁, hstep₁⟩ := X.invokestatic hx hown hlink hnamed hmethM hstatic hkP hinitP hy (g := g) hg (argsL := As) (rest := rest) (hn.trans (hlen _ hsigM)) hstack hdg'
  obtain ⟨v, ⟨U', l2, c2, s2⟩, X', ⟨g', mk', t, L, e1, e2, hq, h1, hL, h2, h3⟩, hsteps⟩ := hK m meth c ⟨T.setVm vm₁, locs, cells, slots⟩ { g with stack := rest } (.invokestatic index) mk As.toArray X₁ hg (hsize.trans hml.symm) hdg' hW (X₁.named hnamed) ⟨hf.1, hf.2, hp.2 (T.setVm vm₁) hT X₁.warmed⟩
  dsimp only [Pt.U, Pt.locs, Pt.cells, Pt.slots] at X' e1 e2 h1 h2 h3 hsteps
  subst h1; subst h2; subst h3
  refine ⟨v, (T.setVm vm₁).calling g' mk' As.toArray, t, U', L, hT, X', hL, e1, e2, hq, fun target h => hstep₁ _ fun acts => ?_⟩
  rw [doInvoke_state]
  exact hsteps.trans h
/-- behind a call of a method of a world, from outside -/
theorem lc_call {D : va_G} {cl : List vw_C} {cA : FieldType → ClassId} {ad : Nat → Nat} {L : List mj_C} {Q' : mj_Q} {Q : State → Prop} {a : Array Value} {pc : Nat} {ls : Array Slot} {st0 : List Value} (hr : va_Run p l e R s m args below meth c H [] cells slots 0 0 (F0 m pc ls st0) rest (mj_Qc D cl cA ad L (mj_A ad L) Q' a) (mj_A ad L)) (hnew : ∀ q, mj_A ad L q → s.heap.size ≤ q)
    (kk : ∀ (r : Option mj_V) (σ' : mj_S) (H1 : Heap), Q' r σ' → (∀ v, r = some v → mj_okV v) → mj_okS σ' → va_P D cl (mj_w cA ad L σ') H1 → H.size ≤ H1.size → (∀ q, q < H.size → ¬ mj_A ad L q → H1[q]? = H[q]?) → W p l e R s m args below meth c H1 [] cells slots Q (F0 m (pc + 3) ls ((r.map (mj_v ad)).toList ++ rest))) : W p l e R s m args below meth c H [] cells slots Q (F0 m pc ls st0) := by
  intro T hT X
  obtain ⟨v, st₀, t, T', L', h0, X', hL, e1, e2, ⟨⟨r, σ', hv, hq, hok, hoS, hP⟩, hz, hk⟩, st⟩ := hr T hT X
  cases hv
  rw [h0] at hz hk
  obtain ⟨t2, a1, b1⟩ := kk r σ' T'.heap hq hok hoS (by rw [e1]; exact hP) (by rw [e1]; exact hz) (fun q h1 h2 => by rw [e1]; exact hk q h1 h2) T' rfl (Stand.forget (locs := []) X' (fun q h => hnew _ (hL q (by simpa using h))))
  exact ⟨t2, st t2 a1, b1⟩
/-- behind a call whose frame is known -/
theorem lc_any {Qa : State → Outcome → State → Prop} {Q : State → Prop} {pc : Nat} {ls : Array Slot} {st0 : List Value} {A : Nat → Prop} (hr : va_Run p l e R s m args below meth c H [] cells slots mc ms (F0 m pc ls st0) rest Qa free) (hnew : ∀ q, free q → s.heap.size ≤ q) (hF : ∀ st oc t, Qa st oc t → va_F A st t)
    (kk : ∀ (v : Option Value) (st t : State) (H1 : Heap), Qa st (.returned v) t → t.heap = H1 → H.size ≤ H1.size → (∀ q, q < H.size → ¬ A q → H1[q]? = H[q]?) → W p l e R s m args below meth c H1 [] (cells + mc) (slots + ms) Q (F0 m (pc + 3) ls (v.toList ++ rest))) : W p l e R s m args below meth c H [] cells slots Q (F0 m pc ls st0) := by
  intro T hT X
  obtain ⟨v, st₀, t, T', L', h0, X', hL, e1, e2, hq, st⟩ := hr T hT X
  obtain ⟨hz, hk⟩ := hF _ _ _ hq
  rw [h0] at hz hk
  obtain ⟨t2, a1, b1⟩ := kk v st₀ t T'.heap hq e1.symm (by rw [e1]; exact hz) (fun q h1 h2 => by rw [e1]; exact hk q h1 h2) T' rfl (Stand.forget (locs := []) X' (fun q h => hnew _ (hL q (by simpa using h))))
  exact ⟨t2, st t2 a1, b1⟩
end LCK
theorem va_Pl {D : va_G} {cl : List vw_C} {ws ws' : va_W} {H : Heap} (h : va_P D cl (ws ++ ws') H) : va_P D cl ws H := fun k q hq => h k q (by rw [List.getElem?_append_left (List.getElem?_eq_some_iff.mp hq).1]; exact hq)
theorem va_Pr {D : va_G} {cl : List vw_C} {ws ws' : va_W} {H : Heap} (h : va_P D cl (ws ++ ws') H) : va_P D cl ws' H := fun k q hq => h (ws.length + k) q (by rw [List.getElem?_append_right (by omega)]; simpa using hq)
theorem va_Dr {A : Nat → Prop} {ws ws' : va_W} (h : va_D A (ws ++ ws')) : va_D A ws' := by
  have hg : ∀ (k : Nat) (q : Nat × va_E), ws'[k]? = some q → (ws ++ ws')[ws.length + k]? = some q := fun k q hq => by
    rw [List.getElem?_append_right (by omega)]; simpa using hq
  refine ⟨fun i j p q h1 h2 h3 => ?_, fun k q hq => h.2 _ q (hg k q hq)⟩
  have := h.1 _ _ p q (hg i p h1) (hg j q h2) h3
  omega
theorem va_Dd {A : Nat → Prop} {ws ws' : va_W} (h : va_D A (ws ++ ws')) {i j : Nat} {p q : Nat × va_E} (hi : ws[i]? = some p) (hj : ws'[j]? = some q) : p.1 ≠ q.1 := by
  intro e
  have h1 := (List.getElem?_eq_some_iff.mp hi).1
  have := h.1 i (ws.length + j) p q (by rw [List.getElem?_append_left h1]; exact hi) (by rw [List.getElem?_append_right (by omega)]; simpa using hj) e
  omega
theorem mj_A_w {cA : FieldType → ClassId} {ad : Nat → Nat} {L : List mj_C} {σ : mj_S} {q : Nat} (h : mj_A ad L q) : ∃ (k : Nat) (e : va_E), (mj_w cA ad L σ)[k]? = some (q, e) := by
  obtain ⟨i, hi, rfl⟩ := h
  exact ⟨i, _, mj_w_some (List.getElem?_eq_getElem hi)⟩
theorem mj_A_lt {D : va_G} {cl : List vw_C} {cA : FieldType → ClassId} {ad : Nat → Nat} {L : List mj_C} {σ : mj_S} {H : Heap} (hP : va_P D cl (mj_w cA ad L σ) H) {q : Nat} (h : mj_A ad L q) : q < H.size := by
  obtain ⟨k, e, hk⟩ := mj_A_w (cA := cA) (σ := σ) h
  exact (hP k _ hk).lt
/-- what does not change while the law runs -/
def lw_F (s : State) (D : va_G) (cA : FieldType → ClassId) (adc adm : Nat → Nat) (cL : ClassId) (ao : Nat) : Prop := mj_D adc mjc_L ∧ mj_D adm mjm_L ∧ (∀ q, mj_A adc mjc_L q → s.heap.size ≤ q) ∧ (∀ q, mj_A adm mjm_L q → s.heap.size ≤ q) ∧ (∀ q, mj_A adc mjc_L q → ¬ mj_A adm mjm_L q) ∧ s.heap.size ≤ ao ∧ ¬ mj_A adc mjc_L ao ∧ ¬ mj_A adm mjm_L ao ∧ ArrOfT s cL .long ∧ va_K D mj_kl (mj_tys cA) s ∧ (∀ w ∈ mj_NWs, va_Nw w s) ∧ th_P (fun q => s.heap.size ≤ q) s s.heap
/-- the law's worlds -/
def lw_Wd (s : State) (D : va_G) (cA : FieldType → ClassId) (adc adm : Nat → Nat) (cL : ClassId) (ao : Nat) (σ τ : mj_S) (f : Nat → Value) (H : Heap) : Prop := va_P D mj_kl (mj_w cA adc mjc_L σ) H ∧ va_P D mj_kl (mj_w cA adm mjm_L τ) H ∧ H[ao]? = some (arrV cL 1 f) ∧ va_S (fun q => s.heap.size ≤ q) s.heap H []
section LWW
variable {s : State} {D : va_G} {cA : FieldType → ClassId} {adc adm : Nat → Nat} {cL : ClassId} {ao : Nat} {σ τ : mj_S} {f : Nat → Value} {H H1 : Heap}
theorem lw_Wd.c {σ' : mj_S} (F : lw_F s D cA adc adm cL ao) (h : lw_Wd s D cA adc adm cL ao σ τ f H) (hP : va_P D mj_kl (mj_w cA adc mjc_L σ') H1) (hz : H.size ≤ H1.size) (hk : ∀ q, q < H.size → ¬ mj_A adc mjc_L q → H1[q]? = H[q]?) : lw_Wd s D cA adc adm cL ao σ' τ f H1 := by
  obtain ⟨h1, h2, h3, h4⟩ := h
  obtain ⟨f1, f2, f3, f4, f5, f6, f7, f8, -⟩ := F
  refine ⟨hP, mj_P_kept h2 (fun q hq hA => hk q hq (fun z => f5 q z hA)), by rw [hk ao (Array.getElem?_eq_some_iff.mp h3).1 f7]; exact h3, Nat.le_trans h4.1 hz, fun q g1 g2 => ?_, fun l hl => by cases hl⟩
  rw [hk q (Nat.lt_of_lt_of_le g1 h4.1) (fun z => g2 (f3 q z))]
  exact h4.2.1 q g1 g2
theorem lw_Wd.m {τ' : mj_S} (F : lw_F s D cA adc adm cL ao) (h : lw_Wd s D cA adc adm cL ao σ τ f H) (hP : va_P D mj_kl (mj_w cA adm mjm_L τ') H1) (hz : H.size ≤ H1.size) (hk : ∀ q, q < H.size → ¬ mj_A adm mjm_L q → H1[q]? = H[q]?) : lw_Wd s D cA adc adm cL ao σ τ' f H1 := by
  obtain ⟨h1, h2, h3, h4⟩ := h
  obtain ⟨f1, f2, f3, f4, f5, f6, f7, f8, -⟩ := F
  refine ⟨mj_P_kept h1 (fun q hq hA => hk q hq (fun z => f5 q hA z)), hP, by rw [hk ao (Array.getElem?_eq_some_iff.mp h3).1 f8]; exact h3, Nat.le_trans h4.1 hz, fun q g1 g2 => ?_, fun l hl => by cases hl⟩
  rw [hk q (Nat.lt_of_lt_of_le g1 h4.1) (fun z => g2 (f4 q z))]
  exact h4.2.1 q g1 g2
theorem lw_Wd.cf {σ' : mj_S} {f' : Nat → Value} (F : lw_F s D cA adc adm cL ao) (h : lw_Wd s D cA adc adm cL ao σ τ f H) (hP : va_P D mj_kl (mj_w cA adc mjc_L σ') H1) (hO : H1[ao]? = some (arrV cL 1 f')) (hz : H.size ≤ H1.size) (hk : ∀ q, q < H.size → ¬ (mj_A adc mjc_L q ∨ q = ao) → H1[q]? = H[q]?) : lw_Wd s D cA adc adm cL ao σ' τ f' H1 := by
  obtain ⟨h1, h2, h3, h4⟩ := h
  obtain ⟨f1, f2, f3, f4, f5, f6, f7, f8, -⟩ := F
  refine ⟨hP, mj_P_kept h2 (fun q hq hA => hk q hq (fun z => z.elim (fun z => f5 q z hA) (fun z => f8 (z ▸ hA)))), hO, Nat.le_trans h4.1 hz, fun q g1 g2 => ?_, fun l hl => by cases hl⟩
  rw [hk q (Nat.lt_of_lt_of_le g1 h4.1) (fun z => g2 (z.elim (fun z => f3 q z) (fun z => z ▸ f6)))]
  exact h4.2.1 q g1 g2
theorem lw_Wd.t (h : lw_Wd s D cA adc adm cL ao σ τ f H) (hz : H.size ≤ H1.size) (hk : ∀ q, q < H.size → ¬ False → H1[q]? = H[q]?) : lw_Wd s D cA adc adm cL ao σ τ f H1 := by
  obtain ⟨h1, h2, h3, h4⟩ := h
  refine ⟨mj_P_kept h1 (fun q hq _ => hk q hq id), mj_P_kept h2 (fun q hq _ => hk q hq id), by rw [hk ao (Array.getElem?_eq_some_iff.mp h3).1 id]; exact h3, Nat.le_trans h4.1 hz, fun q g1 g2 => ?_, fun l hl => by cases hl⟩
  rw [hk q (Nat.lt_of_lt_of_le g1 h4.1) id]
  exact h4.2.1 q g1 g2
end LWW
/-- the law's own cell(script, 0) -/
abbrev y_wcell : MethodName := ({ cls := "ListSpeakerLaw", name := "cell", desc := "([II)I" } : Jvm.MethodName)
set_option maxHeartbeats 4000000 in
theorem c_cell {l : Launch} {b L : Nat} {xs : Nat → Int32} (hL : L ≤ 1025) : Met l y_wcell (Jvm.Cond.code y_wcell method_2_code 2 (some .int) :: mj_WS) ({ frames := 1, cells := 0, slots := 0, locals := 40 }) (va_Pc [.ref b, .int 0] (fun U => va_X b L xs U U.heap)) (vp_Si (fun r => r = if 0 < L then xs 0 else 0)) 0 0 (fun _ => False) := by
  refine Met.ofW (cc := method_2_code) (maxL := 2) (ret := (Option.some Jvm.ClassFile.FieldType.int)) (by decide) rfl ?_
  intro p e s m args below meth c s₁ B hml hv
  obtain ⟨rfl, hX⟩ := hv
  have hx := B.exec
  have hb := B.bytes
  have hbl : b < s.heap.size := by
    obtain ⟨scr, h1, -⟩ := hX
    exact (Array.getElem?_eq_some_iff.mp h1).1
  have hS : va_S (fun _ => False) s.heap s.heap [] := va_S.rf
  have hl := lv_entry ([.ref b, .int 0]) (n := 2) (Nat.le_of_ble_eq_true rfl)
  rw [lg_entry_eq]
  generalize (lg_sl ([.ref b, .int 0]) ++ List.replicate (2 - (lg_sl ([.ref b, .int 0])).length) Slot.unset).toArray = ls at hl ⊢
  have hl : lv_has ls 2 [(0, .ref b), (1, .int 0)] := hl
  refine lv_iload_n hx hb (show decode method_2_code 0 = .ok (.iload_n 1, 1) from by decide +kernel) rfl (lv_at hl 1 rfl) ?_
  refine lv_aload_n hx hb (show decode method_2_code 1 = .ok (.aload_n 0, 1) from by decide +kernel) rfl (lv_at hl 0 rfl) ?_
  refine va_slen hx hb hX hbl id hS (show decode method_2_code 2 = .ok (.arraylength, 1) from by decide +kernel) ?_
  refine lv_icmp_ge (tgt := 12) hx hb (show decode method_2_code 3 = .ok (.if_icmp .ge 9, 3) from by decide +kernel) (by decide) (fun h => ?_) (fun h => ?_)
  · refine lv_iconst (v := 0) hx hb (show decode method_2_code 12 = .ok (.iconst 0, 1) from by decide +kernel) (by decide) ?_
    have hz : ¬ 0 < L := fun z => absurd h (nI_ge (a := 0) (b := L) z (by omega))
    exact W.iret hx hb B.returns (fun t1 ht1 hW => ⟨_, rfl, by rw [if_neg hz], ht1⟩) (fun _ h => by cases h) (show decode method_2_code 13 = .ok (.ireturn, 1) from by decide +kernel) B.notSynchronized
  · have hz : 0 < L := by
      rcases Nat.eq_zero_or_pos L with z | z
      · subst z; exact absurd (nI_le (Nat.le_refl 0) (by omega)) h
      · exact z
    refine lv_aload_n hx hb (show decode method_2_code 6 = .ok (.aload_n 0, 1) from by decide +kernel) rfl (lv_at hl 0 rfl) ?_
    refine lv_iload_n hx hb (show decode method_2_code 7 = .ok (.iload_n 1, 1) from by decide +kernel) rfl (lv_at hl 1 rfl) ?_
    refine va_sld hx hb hX hbl id hS (vp_in_nI (n := 0) hz (by omega)) (show decode method_2_code 8 = .ok (.iaload, 1) from by decide +kernel) ?_
    refine lv_goto (tgt := 13) hx hb (show decode method_2_code 9 = .ok (.goto 4, 3) from by decide +kernel) (by decide) ?_
    exact W.iret hx hb B.returns (fun t1 ht1 hW => ⟨_, rfl, by rw [if_pos hz]; rfl, ht1⟩) (fun _ h => by cases h) (show decode method_2_code 13 = .ok (.ireturn, 1) from by decide +kernel) B.notSynchronized
