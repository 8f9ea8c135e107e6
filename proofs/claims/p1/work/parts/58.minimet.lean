/-! calls, all steps, and the contract of each method -/
section MJM
variable {p : Program} {l : Launch} {e : Env} {R : Room} {s : State} {m : MethodId} {args : Array Value} {below : List Frame} {meth : Method} {c : Code} {cc : ByteArray} {nL : Nat} {own : String} {NW WS : List Jvm.Cond} {ret : Option FieldType} {D : va_G} {cl : List vw_C} {cA : FieldType → ClassId} {ad : Nat → Nat} {L : List mj_C} {Ms : List mj_M} {C : Nat → List mj_V → mj_S → mj_Q → Prop} {rm : Room} {kc ks : Nat} {Af : Nat → Prop}
theorem mj_blind (hN : mj_NW NW) {as : List mj_V} {σ : mj_S} : FrameBlind (mj_Pc D cl cA ad L NW as σ) := by
  intro a U g mk q
  obtain ⟨q0, qP, qK, qN⟩ := q
  refine ⟨q0, qP, va_K.moved (u := U) (U := U.calling g mk a) (Vm.Alike.refl U.vm) qK, fun w hw => ?_⟩
  obtain ⟨a1, i1, x1, g1, rfl⟩ := hN w hw
  exact va_Nw.same rfl (u := U) (U := U.calling g mk a) rfl (qN _ hw)
theorem mj_pre (hN : mj_NW NW) (hNs : ∀ w ∈ NW, va_Nw w s) (hKK : va_K D cl (mj_tys cA) s) {H : Heap} {as : List mj_V} {σ : mj_S} (hP : va_P D cl (mj_w cA ad L σ) H) : ∀ U : State, U.heap = H → s.WarmedH U.vm → mj_Pc D cl cA ad L NW as σ (as.map (mj_v ad)).toArray U := by
  intro U hU hW
  refine ⟨rfl, by rw [hU]; exact hP, va_K.moved hW.alike hKK, fun w hw => ?_⟩
  obtain ⟨a1, i1, x1, g1, rfl⟩ := hN w hw
  exact va_Nw.warmM hW (hNs _ hw)
theorem mj_k26 (X : mj_X p s m args meth c cc nL own WS ret D cl cA ad L Af) {Q : mj_Q} {K : Nat → List (Option mj_V) → List mj_V → mj_S → Prop} {a : Int} {b : Nat} {t : List (Int × Nat)} {pc : Nat} {ls : List (Option mj_V)} {st : List mj_V} {σ : mj_S} (h1 : mj_okS σ) (h2 : mj_okL ls) (h3 : mj_okT st)
    (hK : ∀ pc' ls' st' σ', K pc' ls' st' σ' → mj_okS σ' → mj_okL ls' → mj_okT st' → mj_G p l e R s m args below meth c kc ks nL D cl cA ad L Af Q pc' ls' st' σ')
    (hC : ∀ k as σ Q', C k as σ Q' → mj_okS σ → mj_okT as → ∀ M, Ms[k]? = some M → Met l M.1 (Jvm.Cond.code M.1 M.2.1 M.2.2.1 M.2.2.2.1 :: WS) rm (mj_Pc D cl cA ad L NW as σ) (mj_Qc D cl cA ad L (mj_A ad L) Q') 0 0 (mj_A ad L))
    (hG : ∀ (k : Nat) (M : mj_M), Ms[k]? = some M → GoodIn WS (Jvm.Cond.code M.1 M.2.1 M.2.2.1 M.2.2.2.1 :: WS)) (hrm : rm.cells = 0 ∧ rm.slots = 0 ∧ rm.frames + 1 ≤ R.frames ∧ 59 + rm.locals ≤ R.locals) (hN : mj_NW NW) (hNs : ∀ w ∈ NW, va_Nw w s) (hkc : kc ≤ R.cells) (hks : ks ≤ R.slots)
    (hi : mj_is cl own WS NW Ms cc pc (26, a, b, t)) (hs : mj_step L C ret Q K (26, a, b, t) pc ls st σ) : mj_G p l e R s m args below meth c kc ks nL D cl cA ad L Af Q pc ls st σ := by
  obtain ⟨hx, hb, hml, hown, hts, hret, hlk, hKK, hDD, hAf⟩ := X
  intro H locs real hl hP hS
  obtain ⟨as, st', rfl, hlen, hrec, hz, hc⟩ := hs
  obtain ⟨M, i, n, hM, hmL, hdd, hini, hkind⟩ := hi
  dsimp only at hlen hrec hc hM hmL hdd hini hkind
  obtain ⟨h4, h5⟩ := mj_okT_app h3
  have h4' : mj_okT as := fun v hv => h4 v (List.mem_reverse.mpr hv)
  have hMet := hC _ _ _ _ hc h1 h4' M hM
  have hgo : ∀ (r : Option mj_V) (σ' : mj_S) (H1 : Heap) (locs1 : List Loc), K (pc + 3) ls (r.toList ++ st') σ' → (∀ v, r = some v → mj_okV v) → mj_okS σ' → va_P D cl (mj_w cA ad L σ') H1 → va_S Af s.heap H1 locs1 → W p l e R s m args below meth c H1 locs1 kc ks (MQ below (mj_Qc D cl cA ad L Af Q) args s kc ks Af) (F0 m (pc + 3) real ((r.map (mj_v ad)).toList ++ st'.map (mj_v ad))) := by
    intro r σ' H1 locs1 hq hok hoS hP1 hS1
    cases r with
    | none => exact hK _ _ _ _ hq hoS h2 h5 H1 locs1 real hl hP1 hS1
    | some v => exact hK _ _ _ _ hq hoS h2 (mj_okT_cons (hok v rfl) h5) H1 locs1 real hl hP1 hS1
  have hcb : ∀ (hl : (Jvm.Cond.methodLink own i M.1).before args s = true), CallB R s args own i M.1 M.2.1 M.2.2.1 M.2.2.2.1 (Jvm.Cond.code M.1 M.2.1 M.2.2.1 M.2.2.2.1 :: WS) rm 0 0 n := fun hl =>
    callB_of n hts (hG _ _ hM) rfl hrm.1 hrm.2.1 (hts _ hini) hl hdd ⟨hrm.2.2.1, by have := hrm.2.2.2; omega⟩
  rcases hkind with ⟨ci, T, N, hd, ha, ht, hcl, w1, w2, w3⟩ | ⟨hd, ha, ht, w1, w2⟩ | ⟨host, hd, ha, ht, w1, w2⟩
  · subst ht
    obtain ⟨q, sl, as', rfl, hq⟩ := hrec
    refine mj_call (va_runV (As := as'.map (mj_v ad)) (rest := st'.map (mj_v ad)) (b := ad q) ⟨hx, hb, hml, hown, hts⟩ hMet ⟨hcb (hts _ w1), hts _ w2, hts _ w3⟩ ⟨mj_blind hN, va_recv hKK hP hcl (mj_w_some hq), mj_pre hN hNs hKK hP⟩ rfl (by rw [List.length_map]; rw [List.length_cons] at hlen; omega) hl.2.1 ?_ (lv_room (by rw [mj_sum]; exact hz)) hd ⟨hkc, hks⟩) hAf hS hgo
    show List.map (mj_v ad) ((Sum.inr (Sum.inl q) :: as').reverse ++ st') = _
    simp [List.map_append, List.map_reverse, mj_v]
  · subst ht
    refine mj_call (va_runS (As := as.map (mj_v ad)) (rest := st'.map (mj_v ad)) ⟨hx, hb, hml, hown, hts⟩ hMet ⟨hcb (hts _ w1), hts _ w2⟩ ⟨mj_blind hN, mj_pre hN hNs hKK hP⟩ rfl (by rw [List.length_map]; omega) hl.2.1 ?_ (lv_room (by rw [mj_sum]; exact hz)) hd ⟨hkc, hks⟩) hAf hS hgo
    show List.map (mj_v ad) (as.reverse ++ st') = _
    simp [List.map_append, List.map_reverse]
  · subst ht
    refine mj_call (va_runSN (host := host) (As := as.map (mj_v ad)) (rest := st'.map (mj_v ad)) ⟨hx, hb, hml, hown, hts⟩ hMet ⟨va_cnB n hts (hG _ _ hM) rfl hrm.1 hrm.2.1 (hNs _ w1) (hts _ hini) hdd ⟨hrm.2.2.1, by have := hrm.2.2.2; omega⟩, hts _ w2, trivial⟩ ⟨mj_blind hN, mj_pre hN hNs hKK hP⟩ rfl (by rw [List.length_map]; omega) hl.2.1 ?_ (lv_room (by rw [mj_sum]; exact hz)) hd ⟨hkc, hks⟩) hAf hS hgo
    show List.map (mj_v ad) (as.reverse ++ st') = _
    simp [List.map_append, List.map_reverse]
theorem mj_one (X : mj_X p s m args meth c cc nL own WS ret D cl cA ad L Af) {Q : mj_Q} {K : Nat → List (Option mj_V) → List mj_V → mj_S → Prop} {o : mj_O} {pc : Nat} {ls : List (Option mj_V)} {st : List mj_V} {σ : mj_S} (h1 : mj_okS σ) (h2 : mj_okL ls) (h3 : mj_okT st)
    (hK : ∀ pc' ls' st' σ', K pc' ls' st' σ' → mj_okS σ' → mj_okL ls' → mj_okT st' → mj_G p l e R s m args below meth c kc ks nL D cl cA ad L Af Q pc' ls' st' σ')
    (hC : ∀ k as σ Q', C k as σ Q' → mj_okS σ → mj_okT as → ∀ M, Ms[k]? = some M → Met l M.1 (Jvm.Cond.code M.1 M.2.1 M.2.2.1 M.2.2.2.1 :: WS) rm (mj_Pc D cl cA ad L NW as σ) (mj_Qc D cl cA ad L (mj_A ad L) Q') 0 0 (mj_A ad L))
    (hG : ∀ (k : Nat) (M : mj_M), Ms[k]? = some M → GoodIn WS (Jvm.Cond.code M.1 M.2.1 M.2.2.1 M.2.2.2.1 :: WS)) (hrm : rm.cells = 0 ∧ rm.slots = 0 ∧ rm.frames + 1 ≤ R.frames ∧ 59 + rm.locals ≤ R.locals) (hLo : 64 ≤ R.locals) (hN : mj_NW NW) (hNs : ∀ w ∈ NW, va_Nw w s) (hkc : kc ≤ R.cells) (hks : ks ≤ R.slots)
    (hi : mj_is cl own WS NW Ms cc pc o) (hs : mj_step L C ret Q K o pc ls st σ) : mj_G p l e R s m args below meth c kc ks nL D cl cA ad L Af Q pc ls st σ := by
  obtain ⟨k, a, b, t⟩ := o
  match k, hi, hs with
  | 0, hi, hs => exact mj_k0 X h1 h2 h3 hK hi hs
  | 1, hi, hs => exact mj_k1 X h1 h2 h3 hK hi hs
  | 2, hi, hs => exact mj_k2 X h1 h2 h3 hK hi hs
  | 3, hi, hs => exact mj_k3 X h1 h2 h3 hK hi hs
  | 4, hi, hs => exact mj_k4 X h1 h2 h3 hK hi hs
  | 5, hi, hs => exact mj_k5 X h1 h2 h3 hK hi hs
  | 6, hi, hs => exact mj_k6 X h1 h2 h3 hK hi hs
  | 7, hi, hs => exact mj_k7 X h1 h2 h3 hK hi hs
  | 8, hi, hs => exact mj_k8 X h1 h2 h3 hK hi hs
  | 9, hi, hs => exact mj_k9 X h1 h2 h3 hK hi hs
  | 10, hi, hs => exact mj_k10 X h1 h2 h3 hK hi hs
  | 11, hi, hs => exact mj_k11 X h1 h2 h3 hK hi hs
  | 12, hi, hs => exact mj_k12 X h1 h2 h3 hK hi hs
  | 13, hi, hs => exact mj_k13 X h1 h2 h3 hK hi hs
  | 14, hi, hs => exact hs.elim
  | 15, hi, hs => exact hs.elim
  | 16, hi, hs => exact mj_k16 X h1 h2 h3 hK hi hs
  | 17, hi, hs => exact mj_k17 X h1 h2 h3 hK hi hs
  | 18, hi, hs => exact mj_k18 X h1 h2 h3 hK hi hs
  | 19, hi, hs => exact mj_k19 X h1 h2 h3 hK hi hs
  | 20, hi, hs => exact mj_k20 X h1 h2 h3 hK hi hs
  | 21, hi, hs => exact mj_k21 X h1 h2 h3 hK hi hs
  | 22, hi, hs => exact mj_k22 X h1 h2 h3 hK hi hs
  | 23, hi, hs => exact mj_k23 X h1 h2 h3 hK hi hs
  | 24, hi, hs => exact mj_k24 X h1 h2 h3 hK hi hs
  | 25, hi, hs => exact mj_k25 X h1 h2 h3 hK hi hs
  | 26, hi, hs => exact mj_k26 X h1 h2 h3 hK hC hG hrm hN hNs hkc hks hi hs
  | 27, hi, hs => exact mj_k27 X h1 h2 h3 hK hi hs
  | 28, hi, hs => exact mj_k28 X h1 h2 h3 hK hi hs
  | 29, hi, hs => exact mj_k29 X h1 h2 h3 hK hi hs
  | 30, hi, hs => exact mj_k30 X h1 h2 h3 hK hi hs
  | 31, hi, hs => exact mj_k31 X h1 h2 h3 hK hi hs
  | 32, hi, hs => exact mj_k32 X h1 h2 h3 hK hi hs
  | 33, hi, hs => exact mj_k33 X h1 h2 h3 hK hi hs
  | 34, hi, hs => exact mj_k34 X h1 h2 h3 hK hi hs
  | 35, hi, hs => exact mj_k35 X h1 h2 h3 hK hi hs
  | 36, hi, hs => exact mj_k36 X h1 h2 h3 hK hi hs
  | 37, hi, hs => exact mj_k37 X h1 h2 h3 hK hi hs
  | 38, hi, hs => exact mj_k38 X h1 h2 h3 hK hi hs
  | 39, hi, hs => exact mj_k39 X h1 h2 h3 hK hi hs
  | 40, hi, hs => exact mj_k40 X h1 h2 h3 hK hi hs
  | 41, hi, hs => exact mj_k41 X h1 h2 h3 hK hi hs
  | 42, hi, hs => exact mj_k42 X h1 h2 h3 hK hi hs
  | 43, hi, hs => exact hs.elim
  | 44, hi, hs => exact mj_k44 X h1 h2 h3 hK (by have := hrm.2.2.1; omega) hLo hkc hks hi hs
  | 45, hi, hs => exact mj_k45 X h1 h2 h3 hK (by have := hrm.2.2.1; omega) hLo hkc hks hi hs
  | 46, hi, hs => exact mj_k46 X h1 h2 h3 hK (by have := hrm.2.2.1; omega) hLo hi hs
  | 47, hi, hs => exact hs.elim
  | 48, hi, hs => exact hs.elim
  | 49, hi, hs => exact hs.elim
  | 50, hi, hs => exact mj_k50 X h1 h2 h3 hK hi hs
  | 51, hi, hs => exact mj_k51 X h1 h2 h3 hK hi hs
  | 52, hi, hs => exact mj_k52 X h1 h2 h3 hK hi hs
  | 53, hi, hs => exact mj_k53 X h1 h2 h3 hK hi hs
  | 54, hi, hs => exact mj_k54 X h1 h2 h3 hK hi hs
  | 55, hi, hs => exact mj_k55 X h1 h2 h3 hK hi hs
  | 56, hi, hs => exact hs.elim
  | 57, hi, hs => exact hs.elim
  | 58, hi, hs => exact hs.elim
  | 59, hi, hs => exact hs.elim
  | 60, hi, hs => exact mj_k60 X h1 h2 h3 hK hi hs
  | 61, hi, hs => exact mj_k61 X h1 h2 h3 hK hi hs
  | 62, hi, hs => exact mj_k62 X h1 h2 h3 hK hi hs
  | 63, hi, hs => exact mj_k63 X h1 h2 h3 hK hi hs
  | 64, hi, hs => exact mj_k64 X h1 h2 h3 hK hi hs
  | 65, hi, hs => exact mj_k65 X h1 h2 h3 hK hi hs
  | _ + 66, hi, hs => exact hs.elim
theorem mj_sim (X : mj_X p s m args meth c cc nL own WS ret D cl cA ad L Af) {Q : mj_Q} {ops : List mj_O}
    (hC : ∀ k as σ Q', C k as σ Q' → mj_okS σ → mj_okT as → ∀ M, Ms[k]? = some M → Met l M.1 (Jvm.Cond.code M.1 M.2.1 M.2.2.1 M.2.2.2.1 :: WS) rm (mj_Pc D cl cA ad L NW as σ) (mj_Qc D cl cA ad L (mj_A ad L) Q') 0 0 (mj_A ad L))
    (hG : ∀ (k : Nat) (M : mj_M), Ms[k]? = some M → GoodIn WS (Jvm.Cond.code M.1 M.2.1 M.2.2.1 M.2.2.2.1 :: WS)) (hrm : rm.cells = 0 ∧ rm.slots = 0 ∧ rm.frames + 1 ≤ R.frames ∧ 59 + rm.locals ≤ R.locals) (hLo : 64 ≤ R.locals) (hN : mj_NW NW) (hNs : ∀ w ∈ NW, va_Nw w s) (hkc : kc ≤ R.cells) (hks : ks ≤ R.slots)
    (hi : ∀ (pc : Nat) (o : mj_O), ops[pc]? = some o → mj_is cl own WS NW Ms cc pc o) {pc : Nat} {ls : List (Option mj_V)} {st : List mj_V} {σ : mj_S} (h : mj_W L C ops ret Q pc ls st σ) : mj_okS σ → mj_okL ls → mj_okT st → mj_G p l e R s m args below meth c kc ks nL D cl cA ad L Af Q pc ls st σ := by
  refine h (fun pc ls st σ => mj_okS σ → mj_okL ls → mj_okT st → mj_G p l e R s m args below meth c kc ks nL D cl cA ad L Af Q pc ls st σ) (fun pc ls st σ hh h1 h2 h3 => ?_)
  obtain ⟨o, ho, hs⟩ := hh
  exact mj_one X h1 h2 h3 (fun pc' ls' st' σ' hk g1 g2 g3 => hk g1 g2 g3) hC hG hrm hLo hN hNs hkc hks (hi pc o ho) hs
end MJM
def mj_rm (d : Nat) : Room := { frames := d + 1, cells := 0, slots := 0, locals := 64 * (d + 1) }
theorem mj_sl {ad : Nat → Nat} : ∀ as : List mj_V, (∀ v, v ∈ as → mj_c1 v) → lg_sl (as.map (mj_v ad)) = as.map (fun v => Slot.val (mj_v ad v))
  | [], _ => rfl
  | v :: r, h => by
    have h1 := mj_cat1 (ad := ad) (h v List.mem_cons_self)
    have h2 := mj_sl (ad := ad) r (fun w hw => h w (List.mem_cons_of_mem _ hw))
    rw [List.map_cons, List.map_cons, ← h2]
    simp [lg_sl, h1]
theorem mj_LR0 {ad : Nat → Nat} {as : List mj_V} {nL : Nat} (hc : ∀ v, v ∈ as → mj_c1 v) (hn : as.length ≤ nL) : mj_LR nL ad (mj_in0 as nL) ((lg_sl (as.map (mj_v ad)) ++ List.replicate (nL - (lg_sl (as.map (mj_v ad))).length) Slot.unset).toArray) := by
  have hl := lv_entry (as.map (mj_v ad)) (n := nL) (by rw [mj_sl as hc, List.length_map]; exact hn)
  refine ⟨by unfold mj_in0; rw [List.length_append, List.length_map, List.length_replicate]; omega, hl.1, hl.2.1, fun i v hi => ?_⟩
  rw [mj_sl as hc, List.getElem?_toArray]
  unfold mj_in0 at hi
  by_cases h : i < as.length
  · rw [List.getElem?_append_left (by rw [List.length_map]; exact h), List.getElem?_map] at hi ⊢
    rw [List.getElem?_eq_getElem h] at hi ⊢
    cases hi
    rfl
  · rw [List.getElem?_append_right (by rw [List.length_map]; omega), List.getElem?_replicate] at hi
    split at hi <;> cases hi
theorem mj_okL0 {as : List mj_V} {nL : Nat} (h : mj_okT as) : mj_okL (mj_in0 as nL) := by
  intro i v hi
  unfold mj_in0 at hi
  by_cases h0 : i < as.length
  · rw [List.getElem?_append_left (by rw [List.length_map]; exact h0), List.getElem?_map, List.getElem?_eq_getElem h0] at hi
    cases hi
    exact h _ (List.getElem_mem h0)
  · rw [List.getElem?_append_right (by rw [List.length_map]; omega), List.getElem?_replicate] at hi
    split at hi <;> cases hi
theorem mj_met {l : Launch} {NW WS : List Jvm.Cond} {D : va_G} {cl : List vw_C} {cA : FieldType → ClassId} {ad : Nat → Nat} {L : List mj_C} {Ms : List mj_M}
    (hMs : ∀ (k : Nat) (M : mj_M), Ms[k]? = some M → plainName M.1.cls = true ∧ ∀ (pc : Nat) (o : mj_O), M.2.2.2.2[pc]? = some o → mj_is cl M.1.cls WS NW Ms M.2.1 pc o)
    (hG : ∀ (k : Nat) (M : mj_M), Ms[k]? = some M → GoodIn WS (Jvm.Cond.code M.1 M.2.1 M.2.2.1 M.2.2.2.1 :: WS)) (hD : mj_D ad L) (hN : mj_NW NW) : ∀ (d k : Nat) (as : List mj_V) (σ : mj_S) (Q : mj_Q), mj_B L Ms d k as σ Q → mj_okS σ → mj_okT as → ∀ M, Ms[k]? = some M → Met l M.1 (Jvm.Cond.code M.1 M.2.1 M.2.2.1 M.2.2.2.1 :: WS) (mj_rm d) (mj_Pc D cl cA ad L NW as σ) (mj_Qc D cl cA ad L (mj_A ad L) Q) 0 0 (mj_A ad L)
  | 0, _, _, _, _, h, _, _, _, _ => h.elim
  | d + 1, k, as, σ, Q, h, h1, h2, M, hM => by
    obtain ⟨M', hM', hc, hln, hw⟩ := h
    cases hM.symm.trans hM'
    refine Met.ofW (cc := M.2.1) (maxL := M.2.2.1) (ret := M.2.2.2.1) (hMs k M hM).1 rfl ?_
    intro p e s m args below meth c s₁ B hml hv
    obtain ⟨rfl, hP, hKK, hNs⟩ := hv
    have hts := atoms_spec (ws := Jvm.Cond.code M.1 M.2.1 M.2.2.1 M.2.2.2.1 :: WS) B.pre
    have X : mj_X p s m (as.map (mj_v ad)).toArray meth c M.2.1 M.2.2.1 M.1.cls WS M.2.2.2.1 D cl cA ad L (mj_A ad L) := ⟨B.exec, B.bytes, hml, findClass_of_methodNamed B.named, fun w hw => hts w (List.mem_cons_of_mem _ hw), B.returns, B.notSynchronized, hKK, hD, fun _ z => z⟩
    rw [lg_entry_eq]
    exact mj_sim X (fun k as σ Q' h g1 g2 M hM => mj_met hMs hG hD hN d k as σ Q' h g1 g2 M hM) hG ⟨rfl, rfl, Nat.le_refl _, by show 59 + 64 * (d + 1) ≤ 64 * (d + 1 + 1); omega⟩ (by show 64 ≤ 64 * (d + 1 + 1); omega) hN hNs (Nat.zero_le _) (Nat.zero_le _) (hMs k M hM).2 hw h1 (mj_okL0 h2) (fun v hv => by cases hv) s.heap [] _ (mj_LR0 hc hln) hP va_S.rf
