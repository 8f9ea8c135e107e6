/-! one step of the small machine is one of the code's -/
theorem mj_ty_in {cA : FieldType → ClassId} {ty : FieldType} (h : mj_pt ty) : ∃ t0 : Nat, (mj_tys cA)[t0]? = some (cA ty, ty) := by
  rcases h with rfl | rfl | rfl
  · exact ⟨0, rfl⟩
  · exact ⟨1, rfl⟩
  · exact ⟨2, rfl⟩
theorem mj_prim {ty : FieldType} (h : mj_pt ty) : refKind ty = false := by
  rcases h with rfl | rfl | rfl <;> rfl
theorem mj_narrow {ty : FieldType} {x : Int} (hx : mj_r x) (h : mj_fit ty x) : narrow ty (.int (Int32.ofInt x)) = .int (Int32.ofInt x) := by
  cases ty with
  | char =>
    obtain ⟨h0, h1⟩ : 0 ≤ x ∧ x ≤ 65535 := h
    rw [mj_nI h0]
    exact (pk_charN (q := x.toNat) (by omega)).1
  | boolean =>
    have h0 : x = 0 ∨ x = 1 := h
    rcases h0 with rfl | rfl <;> decide
  | int => exact vp_nar_int _
  | _ => exact h.elim
theorem mj_fits {ty : FieldType} {x : Int} (hx : mj_r x) (h : mj_fit ty x) : fits ty (.int (Int32.ofInt x)) = true := by
  cases ty with
  | char =>
    obtain ⟨h0, h1⟩ : 0 ≤ x ∧ x ≤ 65535 := h
    rw [mj_nI h0]
    exact (pk_charN (q := x.toNat) (by omega)).2
  | boolean =>
    have h0 : x = 0 ∨ x = 1 := h
    rcases h0 with rfl | rfl <;> decide
  | int => rfl
  | _ => exact h.elim
theorem mj_nar {ty : FieldType} {x : Int} (hx : mj_r x) (h : mj_fit ty x) : vp_nar ty (Int32.ofInt x) = Int32.ofInt x := by
  unfold vp_nar
  rw [mj_narrow hx h]
theorem mj_neg {x : Int} (hx : mj_r x) (h : 0 ≤ x) : ¬ Int32.ofInt x < 0 := by
  intro q
  have q2 : Int32.ofInt x < Int32.ofInt 0 := q
  rw [mj_lt hx mj_0] at q2
  omega
theorem mj_sum (ad : Nat → Nat) (st : List mj_V) : ((st.map (mj_v ad)).map (fun v => v.category)).sum = (st.map mj_cat).sum := by
  rw [List.map_map]
  congr 1
  apply List.map_congr_left
  intro v _
  exact mj_catv ad v
section MJS
variable {p : Program} {l : Launch} {e : Env} {R : Room} {s : State} {m : MethodId} {args : Array Value} {below : List Frame} {meth : Method} {c : Code} {cc : ByteArray} {nL : Nat} {own : String} {Ts NW WS : List Jvm.Cond} {ret : Option FieldType} {D : va_G} {cl : List vw_C} {cA : FieldType → ClassId} {ad : Nat → Nat} {L : List mj_C} {Ms : List mj_M} {C : Nat → List mj_V → mj_S → mj_Q → Prop} {rm : Room} {kc ks : Nat} {Af : Nat → Prop}
def mj_G (p : Program) (l : Launch) (e : Env) (R : Room) (s : State) (m : MethodId) (args : Array Value) (below : List Frame) (meth : Method) (c : Code) (kc ks : Nat) (nL : Nat) (D : va_G) (cl : List vw_C) (cA : FieldType → ClassId) (ad : Nat → Nat) (L : List mj_C) (Af : Nat → Prop) (Q : mj_Q) (pc : Nat) (ls : List (Option mj_V)) (st : List mj_V) (σ : mj_S) : Prop :=
  ∀ (H : Heap) (locs : List Loc) (real : Array Slot), mj_LR nL ad ls real → va_P D cl (mj_w cA ad L σ) H → va_S Af s.heap H locs → W p l e R s m args below meth c H locs kc ks (MQ below (mj_Qc D cl cA ad L Af Q) args s kc ks Af) (F0 m pc real (st.map (mj_v ad)))

theorem mj_k0 (X : mj_X p s m args meth c cc nL own Ts ret D cl cA ad L Af) {Q : mj_Q} {K : Nat → List (Option mj_V) → List mj_V → mj_S → Prop} {a : Int} {b : Nat} {t : List (Int × Nat)} {pc : Nat} {ls : List (Option mj_V)} {st : List mj_V} {σ : mj_S} (h1 : mj_okS σ) (h2 : mj_okL ls) (h3 : mj_okT st)
    (hK : ∀ pc' ls' st' σ', K pc' ls' st' σ' → mj_okS σ' → mj_okL ls' → mj_okT st' → mj_G p l e R s m args below meth c kc ks nL D cl cA ad L Af Q pc' ls' st' σ') 
    (hi : mj_is cl own Ts NW Ms cc pc (0, a, b, t)) (hs : mj_step L C ret Q K (0, a, b, t) pc ls st σ) : mj_G p l e R s m args below meth c kc ks nL D cl cA ad L Af Q pc ls st σ := by
  obtain ⟨hx, hb, hml, hown, hts, hret, hlk, hKK, hDD, hAf⟩ := X
  intro H locs real hl hP hS
  obtain ⟨hr, hk⟩ := hs
  have k := hK _ _ _ _ hk h1 h2 (mj_okT_cons hr h3) H locs real hl hP hS
  rcases hi with ⟨hd, hz⟩ | ⟨hd, hz, hv⟩ | ⟨hd, hz, hv⟩ | ⟨i, hd, hz, hv⟩ | ⟨i, hd, hz, hv⟩
  · dsimp only at hz hd k
    subst hz
    exact lv_iconst hx hb hd rfl k
  · dsimp only at hz hd k hv
    subst hz
    exact lv_bipush hx hb hd hv k
  · dsimp only at hz hd k hv
    subst hz
    exact lv_sipush hx hb hd hv k
  · dsimp only at hz hd k hv
    subst hz
    exact lv_ldc hx hb hown (hts _ hv) hd k
  · dsimp only at hz hd k hv
    subst hz
    exact lv_ldcw hx hb hown (hts _ hv) hd k
theorem mj_k1 (X : mj_X p s m args meth c cc nL own Ts ret D cl cA ad L Af) {Q : mj_Q} {K : Nat → List (Option mj_V) → List mj_V → mj_S → Prop} {a : Int} {b : Nat} {t : List (Int × Nat)} {pc : Nat} {ls : List (Option mj_V)} {st : List mj_V} {σ : mj_S} (h1 : mj_okS σ) (h2 : mj_okL ls) (h3 : mj_okT st)
    (hK : ∀ pc' ls' st' σ', K pc' ls' st' σ' → mj_okS σ' → mj_okL ls' → mj_okT st' → mj_G p l e R s m args below meth c kc ks nL D cl cA ad L Af Q pc' ls' st' σ') 
    (hi : mj_is cl own Ts NW Ms cc pc (1, a, b, t)) (hs : mj_step L C ret Q K (1, a, b, t) pc ls st σ) : mj_G p l e R s m args below meth c kc ks nL D cl cA ad L Af Q pc ls st σ := by
  obtain ⟨hx, hb, hml, hown, hts, hret, hlk, hKK, hDD, hAf⟩ := X
  intro H locs real hl hP hS
  obtain ⟨x, hv, hk⟩ := hs
  have hr := hl.2.2.2 _ _ hv
  have k := hK _ _ _ _ hk h1 h2 (mj_okT_cons (h2 _ _ hv) h3) H locs real hl hP hS
  rcases hi with ⟨kk, hd, hz, ha⟩ | ⟨hd, ha⟩
  · dsimp only at hz hd k ha hr
    subst ha
    exact lv_iload_n hx hb hd hz hr k
  · dsimp only at hd k ha hr
    subst ha
    exact lv_iload hx hb hd hr k
theorem mj_k2 (X : mj_X p s m args meth c cc nL own Ts ret D cl cA ad L Af) {Q : mj_Q} {K : Nat → List (Option mj_V) → List mj_V → mj_S → Prop} {a : Int} {b : Nat} {t : List (Int × Nat)} {pc : Nat} {ls : List (Option mj_V)} {st : List mj_V} {σ : mj_S} (h1 : mj_okS σ) (h2 : mj_okL ls) (h3 : mj_okT st)
    (hK : ∀ pc' ls' st' σ', K pc' ls' st' σ' → mj_okS σ' → mj_okL ls' → mj_okT st' → mj_G p l e R s m args below meth c kc ks nL D cl cA ad L Af Q pc' ls' st' σ') 
    (hi : mj_is cl own Ts NW Ms cc pc (2, a, b, t)) (hs : mj_step L C ret Q K (2, a, b, t) pc ls st σ) : mj_G p l e R s m args below meth c kc ks nL D cl cA ad L Af Q pc ls st σ := by
  obtain ⟨hx, hb, hml, hown, hts, hret, hlk, hKK, hDD, hAf⟩ := X
  intro H locs real hl hP hS
  obtain ⟨x, hv, hk⟩ := hs
  have hr := hl.2.2.2 _ _ hv
  have k := hK _ _ _ _ hk h1 h2 (mj_okT_cons (h2 _ _ hv) h3) H locs real hl hP hS
  rcases hi with ⟨kk, hd, hz, ha⟩ | ⟨hd, ha⟩
  · dsimp only at hz hd k ha hr
    subst ha
    exact lv_aload_n hx hb hd hz hr k
  · dsimp only at hd k ha hr
    subst ha
    exact lv_aload hx hb hd hr k
theorem mj_k3 (X : mj_X p s m args meth c cc nL own Ts ret D cl cA ad L Af) {Q : mj_Q} {K : Nat → List (Option mj_V) → List mj_V → mj_S → Prop} {a : Int} {b : Nat} {t : List (Int × Nat)} {pc : Nat} {ls : List (Option mj_V)} {st : List mj_V} {σ : mj_S} (h1 : mj_okS σ) (h2 : mj_okL ls) (h3 : mj_okT st)
    (hK : ∀ pc' ls' st' σ', K pc' ls' st' σ' → mj_okS σ' → mj_okL ls' → mj_okT st' → mj_G p l e R s m args below meth c kc ks nL D cl cA ad L Af Q pc' ls' st' σ') 
    (hi : mj_is cl own Ts NW Ms cc pc (3, a, b, t)) (hs : mj_step L C ret Q K (3, a, b, t) pc ls st σ) : mj_G p l e R s m args below meth c kc ks nL D cl cA ad L Af Q pc ls st σ := by
  obtain ⟨hx, hb, hml, hown, hts, hret, hlk, hKK, hDD, hAf⟩ := X
  intro H locs real hl hP hS
  obtain ⟨x, hv, hk⟩ := hs
  have hr := hl.2.2.2 _ _ hv
  have k := hK _ _ _ _ hk h1 h2 (mj_okT_cons (h2 _ _ hv) h3) H locs real hl hP hS
  rcases hi with ⟨kk, hd, hz, ha⟩ | ⟨hd, ha⟩
  · dsimp only at hz hd k ha hr
    subst ha
    exact lv_lload_n hx hb hd hz hr k
  · dsimp only at hd k ha hr
    subst ha
    exact lv_lload hx hb hd hr k
theorem mj_k4 (X : mj_X p s m args meth c cc nL own Ts ret D cl cA ad L Af) {Q : mj_Q} {K : Nat → List (Option mj_V) → List mj_V → mj_S → Prop} {a : Int} {b : Nat} {t : List (Int × Nat)} {pc : Nat} {ls : List (Option mj_V)} {st : List mj_V} {σ : mj_S} (h1 : mj_okS σ) (h2 : mj_okL ls) (h3 : mj_okT st)
    (hK : ∀ pc' ls' st' σ', K pc' ls' st' σ' → mj_okS σ' → mj_okL ls' → mj_okT st' → mj_G p l e R s m args below meth c kc ks nL D cl cA ad L Af Q pc' ls' st' σ') 
    (hi : mj_is cl own Ts NW Ms cc pc (4, a, b, t)) (hs : mj_step L C ret Q K (4, a, b, t) pc ls st σ) : mj_G p l e R s m args below meth c kc ks nL D cl cA ad L Af Q pc ls st σ := by
  obtain ⟨hx, hb, hml, hown, hts, hret, hlk, hKK, hDD, hAf⟩ := X
  intro H locs real hl hP hS
  obtain ⟨x, st', rfl, hn, hlt, hk⟩ := hs
  dsimp only at hn hlt hk
  rw [hl.1] at hlt
  have k := fun (real' : Array Slot) hh => hK _ _ _ _ hk h1 (mj_okL_set h2 (mj_okT_hd h3)) (mj_okT_tl h3) H locs real' (hl.st1 hn hh) hP hS
  rcases hi with ⟨kk, hd, hz, ha⟩ | ⟨hd, ha⟩
  · dsimp only at hz hd ha
    subst ha
    exact lv_istore_n hx hb hd hz hl.has hlt rfl k
  · dsimp only at hd ha
    subst ha
    exact lv_istore hx hb hd hl.has hlt rfl k
theorem mj_k5 (X : mj_X p s m args meth c cc nL own Ts ret D cl cA ad L Af) {Q : mj_Q} {K : Nat → List (Option mj_V) → List mj_V → mj_S → Prop} {a : Int} {b : Nat} {t : List (Int × Nat)} {pc : Nat} {ls : List (Option mj_V)} {st : List mj_V} {σ : mj_S} (h1 : mj_okS σ) (h2 : mj_okL ls) (h3 : mj_okT st)
    (hK : ∀ pc' ls' st' σ', K pc' ls' st' σ' → mj_okS σ' → mj_okL ls' → mj_okT st' → mj_G p l e R s m args below meth c kc ks nL D cl cA ad L Af Q pc' ls' st' σ') 
    (hi : mj_is cl own Ts NW Ms cc pc (5, a, b, t)) (hs : mj_step L C ret Q K (5, a, b, t) pc ls st σ) : mj_G p l e R s m args below meth c kc ks nL D cl cA ad L Af Q pc ls st σ := by
  obtain ⟨hx, hb, hml, hown, hts, hret, hlk, hKK, hDD, hAf⟩ := X
  intro H locs real hl hP hS
  obtain ⟨x, st', rfl, hn, hlt, hk⟩ := hs
  dsimp only at hn hlt hk
  rw [hl.1] at hlt
  have k := fun (real' : Array Slot) hh => hK _ _ _ _ hk h1 (mj_okL_set h2 (mj_okT_hd h3)) (mj_okT_tl h3) H locs real' (hl.st1 hn hh) hP hS
  rcases hi with ⟨kk, hd, hz, ha⟩ | ⟨hd, ha⟩
  · dsimp only at hz hd ha
    subst ha
    exact lv_astore_n hx hb hd hz hl.has hlt rfl k
  · dsimp only at hd ha
    subst ha
    exact lv_astore hx hb hd hl.has hlt rfl k
theorem mj_k6 (X : mj_X p s m args meth c cc nL own Ts ret D cl cA ad L Af) {Q : mj_Q} {K : Nat → List (Option mj_V) → List mj_V → mj_S → Prop} {a : Int} {b : Nat} {t : List (Int × Nat)} {pc : Nat} {ls : List (Option mj_V)} {st : List mj_V} {σ : mj_S} (h1 : mj_okS σ) (h2 : mj_okL ls) (h3 : mj_okT st)
    (hK : ∀ pc' ls' st' σ', K pc' ls' st' σ' → mj_okS σ' → mj_okL ls' → mj_okT st' → mj_G p l e R s m args below meth c kc ks nL D cl cA ad L Af Q pc' ls' st' σ') 
    (hi : mj_is cl own Ts NW Ms cc pc (6, a, b, t)) (hs : mj_step L C ret Q K (6, a, b, t) pc ls st σ) : mj_G p l e R s m args below meth c kc ks nL D cl cA ad L Af Q pc ls st σ := by
  obtain ⟨hx, hb, hml, hown, hts, hret, hlk, hKK, hDD, hAf⟩ := X
  intro H locs real hl hP hS
  obtain ⟨x, st', rfl, hn, hlt, hk⟩ := hs
  dsimp only at hn hlt hk
  rw [hl.1] at hlt
  have k := fun (real' : Array Slot) hh => hK _ _ _ _ hk h1 (mj_okL_set (mj_okL_none h2) (mj_okT_hd h3)) (mj_okT_tl h3) H locs real' (hl.st2 hn hh) hP hS
  rcases hi with ⟨kk, hd, hz, ha⟩ | ⟨hd, ha⟩
  · dsimp only at hz hd ha
    subst ha
    exact lv_lstore_n hx hb hd hz hl.has hlt rfl k
  · dsimp only at hd ha
    subst ha
    exact lv_lstore hx hb hd hl.has hlt rfl k
theorem mj_k7 (X : mj_X p s m args meth c cc nL own Ts ret D cl cA ad L Af) {Q : mj_Q} {K : Nat → List (Option mj_V) → List mj_V → mj_S → Prop} {a : Int} {b : Nat} {t : List (Int × Nat)} {pc : Nat} {ls : List (Option mj_V)} {st : List mj_V} {σ : mj_S} (h1 : mj_okS σ) (h2 : mj_okL ls) (h3 : mj_okT st)
    (hK : ∀ pc' ls' st' σ', K pc' ls' st' σ' → mj_okS σ' → mj_okL ls' → mj_okT st' → mj_G p l e R s m args below meth c kc ks nL D cl cA ad L Af Q pc' ls' st' σ') 
    (hi : mj_is cl own Ts NW Ms cc pc (7, a, b, t)) (hs : mj_step L C ret Q K (7, a, b, t) pc ls st σ) : mj_G p l e R s m args below meth c kc ks nL D cl cA ad L Af Q pc ls st σ := by
  obtain ⟨hx, hb, hml, hown, hts, hret, hlk, hKK, hDD, hAf⟩ := X
  intro H locs real hl hP hS
  obtain ⟨x, hv, hn, hr, hk⟩ := hs
  dsimp only at hn hk hr hv
  have hlt : b < nL := by rw [← hl.1]; exact (List.getElem?_eq_some_iff.mp hv).1
  obtain ⟨j, hj⟩ := List.getElem?_of_mem (mj_ps_mem (ad := ad) (ls := ls) (q := (b, mj_v ad (.inl x))) |>.mpr ⟨_, hv, rfl⟩)
  have k := fun (real' : Array Slot) hh => hK _ _ _ _ hk h1 (mj_okL_set (v := .inl (x + a)) h2 hr) h3 H locs real' (hl.st1 hn hh) hP hS
  exact lv_iinc (x := Int32.ofInt x) (v := Int32.ofInt (x + a)) hx hb hi hl.has hj (by rw [Int32.ofInt_add]) hlt rfl k
theorem mj_k8 (X : mj_X p s m args meth c cc nL own Ts ret D cl cA ad L Af) {Q : mj_Q} {K : Nat → List (Option mj_V) → List mj_V → mj_S → Prop} {a : Int} {b : Nat} {t : List (Int × Nat)} {pc : Nat} {ls : List (Option mj_V)} {st : List mj_V} {σ : mj_S} (h1 : mj_okS σ) (h2 : mj_okL ls) (h3 : mj_okT st)
    (hK : ∀ pc' ls' st' σ', K pc' ls' st' σ' → mj_okS σ' → mj_okL ls' → mj_okT st' → mj_G p l e R s m args below meth c kc ks nL D cl cA ad L Af Q pc' ls' st' σ') 
    (hi : mj_is cl own Ts NW Ms cc pc (8, a, b, t)) (hs : mj_step L C ret Q K (8, a, b, t) pc ls st σ) : mj_G p l e R s m args below meth c kc ks nL D cl cA ad L Af Q pc ls st σ := by
  obtain ⟨hx, hb, hml, hown, hts, hret, hlk, hKK, hDD, hAf⟩ := X
  intro H locs real hl hP hS
  obtain ⟨x, y, st', rfl, hr, hk⟩ := hs
  have k := hK _ _ _ _ hk h1 h2 (mj_okT_cons (v := .inl (x + y)) hr (mj_okT_tl (mj_okT_tl h3))) H locs real hl hP hS
  have k : W p l e R s m args below meth c H locs kc ks _ (F0 m (pc + 1) real (.int (Int32.ofInt (x + y)) :: st'.map (mj_v ad))) := k
  rw [Int32.ofInt_add] at k
  exact lv_iadd hx hb hi k
theorem mj_k9 (X : mj_X p s m args meth c cc nL own Ts ret D cl cA ad L Af) {Q : mj_Q} {K : Nat → List (Option mj_V) → List mj_V → mj_S → Prop} {a : Int} {b : Nat} {t : List (Int × Nat)} {pc : Nat} {ls : List (Option mj_V)} {st : List mj_V} {σ : mj_S} (h1 : mj_okS σ) (h2 : mj_okL ls) (h3 : mj_okT st)
    (hK : ∀ pc' ls' st' σ', K pc' ls' st' σ' → mj_okS σ' → mj_okL ls' → mj_okT st' → mj_G p l e R s m args below meth c kc ks nL D cl cA ad L Af Q pc' ls' st' σ') 
    (hi : mj_is cl own Ts NW Ms cc pc (9, a, b, t)) (hs : mj_step L C ret Q K (9, a, b, t) pc ls st σ) : mj_G p l e R s m args below meth c kc ks nL D cl cA ad L Af Q pc ls st σ := by
  obtain ⟨hx, hb, hml, hown, hts, hret, hlk, hKK, hDD, hAf⟩ := X
  intro H locs real hl hP hS
  obtain ⟨x, y, st', rfl, hr, hk⟩ := hs
  have k := hK _ _ _ _ hk h1 h2 (mj_okT_cons (v := .inl (x - y)) hr (mj_okT_tl (mj_okT_tl h3))) H locs real hl hP hS
  have k : W p l e R s m args below meth c H locs kc ks _ (F0 m (pc + 1) real (.int (Int32.ofInt (x - y)) :: st'.map (mj_v ad))) := k
  rw [Int32.ofInt_sub] at k
  exact lv_isub hx hb hi k
theorem mj_k10 (X : mj_X p s m args meth c cc nL own Ts ret D cl cA ad L Af) {Q : mj_Q} {K : Nat → List (Option mj_V) → List mj_V → mj_S → Prop} {a : Int} {b : Nat} {t : List (Int × Nat)} {pc : Nat} {ls : List (Option mj_V)} {st : List mj_V} {σ : mj_S} (h1 : mj_okS σ) (h2 : mj_okL ls) (h3 : mj_okT st)
    (hK : ∀ pc' ls' st' σ', K pc' ls' st' σ' → mj_okS σ' → mj_okL ls' → mj_okT st' → mj_G p l e R s m args below meth c kc ks nL D cl cA ad L Af Q pc' ls' st' σ') 
    (hi : mj_is cl own Ts NW Ms cc pc (10, a, b, t)) (hs : mj_step L C ret Q K (10, a, b, t) pc ls st σ) : mj_G p l e R s m args below meth c kc ks nL D cl cA ad L Af Q pc ls st σ := by
  obtain ⟨hx, hb, hml, hown, hts, hret, hlk, hKK, hDD, hAf⟩ := X
  intro H locs real hl hP hS
  obtain ⟨x, y, st', rfl, hr, hk⟩ := hs
  have k := hK _ _ _ _ hk h1 h2 (mj_okT_cons (v := .inl (x * y)) hr (mj_okT_tl (mj_okT_tl h3))) H locs real hl hP hS
  have k : W p l e R s m args below meth c H locs kc ks _ (F0 m (pc + 1) real (.int (Int32.ofInt (x * y)) :: st'.map (mj_v ad))) := k
  rw [Int32.ofInt_mul] at k
  exact lv_imul hx hb hi k
theorem mj_k11 (X : mj_X p s m args meth c cc nL own Ts ret D cl cA ad L Af) {Q : mj_Q} {K : Nat → List (Option mj_V) → List mj_V → mj_S → Prop} {a : Int} {b : Nat} {t : List (Int × Nat)} {pc : Nat} {ls : List (Option mj_V)} {st : List mj_V} {σ : mj_S} (h1 : mj_okS σ) (h2 : mj_okL ls) (h3 : mj_okT st)
    (hK : ∀ pc' ls' st' σ', K pc' ls' st' σ' → mj_okS σ' → mj_okL ls' → mj_okT st' → mj_G p l e R s m args below meth c kc ks nL D cl cA ad L Af Q pc' ls' st' σ') 
    (hi : mj_is cl own Ts NW Ms cc pc (11, a, b, t)) (hs : mj_step L C ret Q K (11, a, b, t) pc ls st σ) : mj_G p l e R s m args below meth c kc ks nL D cl cA ad L Af Q pc ls st σ := by
  obtain ⟨hx, hb, hml, hown, hts, hret, hlk, hKK, hDD, hAf⟩ := X
  intro H locs real hl hP hS
  obtain ⟨x, y, st', rfl, h0, hy, hk⟩ := hs
  have hx1 : mj_r x := mj_okT_hd (mj_okT_tl h3)
  have hy1 : mj_r y := mj_okT_hd h3
  have hr : mj_r (x / y) := ⟨by have := Int.ediv_nonneg h0 (Int.le_of_lt hy); omega, by have := Int.ediv_le_self y h0; have := hx1.2; omega⟩
  have k := hK _ _ _ _ hk h1 h2 (mj_okT_cons (v := .inl (x / y)) hr (mj_okT_tl (mj_okT_tl h3))) H locs real hl hP hS
  have k : W p l e R s m args below meth c H locs kc ks _ (F0 m (pc + 1) real (.int (Int32.ofInt (x / y)) :: st'.map (mj_v ad))) := k
  rw [← mj_div hx1 hy1 h0 hy] at k
  exact lv_idiv hx hb hi (mj_ne0 hy1 hy) k
theorem mj_k12 (X : mj_X p s m args meth c cc nL own Ts ret D cl cA ad L Af) {Q : mj_Q} {K : Nat → List (Option mj_V) → List mj_V → mj_S → Prop} {a : Int} {b : Nat} {t : List (Int × Nat)} {pc : Nat} {ls : List (Option mj_V)} {st : List mj_V} {σ : mj_S} (h1 : mj_okS σ) (h2 : mj_okL ls) (h3 : mj_okT st)
    (hK : ∀ pc' ls' st' σ', K pc' ls' st' σ' → mj_okS σ' → mj_okL ls' → mj_okT st' → mj_G p l e R s m args below meth c kc ks nL D cl cA ad L Af Q pc' ls' st' σ') 
    (hi : mj_is cl own Ts NW Ms cc pc (12, a, b, t)) (hs : mj_step L C ret Q K (12, a, b, t) pc ls st σ) : mj_G p l e R s m args below meth c kc ks nL D cl cA ad L Af Q pc ls st σ := by
  obtain ⟨hx, hb, hml, hown, hts, hret, hlk, hKK, hDD, hAf⟩ := X
  intro H locs real hl hP hS
  obtain ⟨x, y, st', rfl, h0, hy, hk⟩ := hs
  have hx1 : mj_r x := mj_okT_hd (mj_okT_tl h3)
  have hy1 : mj_r y := mj_okT_hd h3
  have hr : mj_r (x % y) := ⟨by have := Int.emod_nonneg x (Int.ne_of_gt hy); omega, by have := Int.emod_lt_of_pos x hy; have := hy1.2; omega⟩
  have k := hK _ _ _ _ hk h1 h2 (mj_okT_cons (v := .inl (x % y)) hr (mj_okT_tl (mj_okT_tl h3))) H locs real hl hP hS
  have k : W p l e R s m args below meth c H locs kc ks _ (F0 m (pc + 1) real (.int (Int32.ofInt (x % y)) :: st'.map (mj_v ad))) := k
  rw [← mj_rem hx1 hy1 h0 hy] at k
  exact lv_irem hx hb hi (mj_ne0 hy1 hy) k
theorem mj_k13 (X : mj_X p s m args meth c cc nL own Ts ret D cl cA ad L Af) {Q : mj_Q} {K : Nat → List (Option mj_V) → List mj_V → mj_S → Prop} {a : Int} {b : Nat} {t : List (Int × Nat)} {pc : Nat} {ls : List (Option mj_V)} {st : List mj_V} {σ : mj_S} (h1 : mj_okS σ) (h2 : mj_okL ls) (h3 : mj_okT st)
    (hK : ∀ pc' ls' st' σ', K pc' ls' st' σ' → mj_okS σ' → mj_okL ls' → mj_okT st' → mj_G p l e R s m args below meth c kc ks nL D cl cA ad L Af Q pc' ls' st' σ') 
    (hi : mj_is cl own Ts NW Ms cc pc (13, a, b, t)) (hs : mj_step L C ret Q K (13, a, b, t) pc ls st σ) : mj_G p l e R s m args below meth c kc ks nL D cl cA ad L Af Q pc ls st σ := by
  obtain ⟨hx, hb, hml, hown, hts, hret, hlk, hKK, hDD, hAf⟩ := X
  intro H locs real hl hP hS
  obtain ⟨x, st', rfl, hr, hk⟩ := hs
  have k := hK _ _ _ _ hk h1 h2 (mj_okT_cons (v := .inl (-x)) hr (mj_okT_tl h3)) H locs real hl hP hS
  have k : W p l e R s m args below meth c H locs kc ks _ (F0 m (pc + 1) real (.int (Int32.ofInt (-x)) :: st'.map (mj_v ad))) := k
  rw [Int32.ofInt_neg] at k
  exact lv_ineg hx hb hi k
theorem mj_k16 (X : mj_X p s m args meth c cc nL own Ts ret D cl cA ad L Af) {Q : mj_Q} {K : Nat → List (Option mj_V) → List mj_V → mj_S → Prop} {a : Int} {b : Nat} {t : List (Int × Nat)} {pc : Nat} {ls : List (Option mj_V)} {st : List mj_V} {σ : mj_S} (h1 : mj_okS σ) (h2 : mj_okL ls) (h3 : mj_okT st)
    (hK : ∀ pc' ls' st' σ', K pc' ls' st' σ' → mj_okS σ' → mj_okL ls' → mj_okT st' → mj_G p l e R s m args below meth c kc ks nL D cl cA ad L Af Q pc' ls' st' σ') 
    (hi : mj_is cl own Ts NW Ms cc pc (16, a, b, t)) (hs : mj_step L C ret Q K (16, a, b, t) pc ls st σ) : mj_G p l e R s m args below meth c kc ks nL D cl cA ad L Af Q pc ls st σ := by
  obtain ⟨hx, hb, hml, hown, hts, hret, hlk, hKK, hDD, hAf⟩ := X
  intro H locs real hl hP hS
  have k := hK _ _ _ _ hs h1 h2 h3 H locs real hl hP hS
  exact lv_goto hx hb hi (by dsimp only; omega) k
theorem mj_k17 (X : mj_X p s m args meth c cc nL own Ts ret D cl cA ad L Af) {Q : mj_Q} {K : Nat → List (Option mj_V) → List mj_V → mj_S → Prop} {a : Int} {b : Nat} {t : List (Int × Nat)} {pc : Nat} {ls : List (Option mj_V)} {st : List mj_V} {σ : mj_S} (h1 : mj_okS σ) (h2 : mj_okL ls) (h3 : mj_okT st)
    (hK : ∀ pc' ls' st' σ', K pc' ls' st' σ' → mj_okS σ' → mj_okL ls' → mj_okT st' → mj_G p l e R s m args below meth c kc ks nL D cl cA ad L Af Q pc' ls' st' σ') 
    (hi : mj_is cl own Ts NW Ms cc pc (17, a, b, t)) (hs : mj_step L C ret Q K (17, a, b, t) pc ls st σ) : mj_G p l e R s m args below meth c kc ks nL D cl cA ad L Af Q pc ls st σ := by
  obtain ⟨hx, hb, hml, hown, hts, hret, hlk, hKK, hDD, hAf⟩ := X
  intro H locs real hl hP hS
  obtain ⟨q, sl, st', rfl, hq, hc⟩ := hs
  obtain ⟨i, C1, T, N, hd, hcl, hkN, hlink, hin⟩ := hi
  dsimp only at hq hc hcl hkN hlink hin hd
  rcases hc with ⟨hsl, hk⟩ | ⟨q', hsl, hk⟩
  · have k := hK _ _ _ _ hk h1 h2 (mj_okT_cons (v := .inl (σ q b)) (h1 q b) (mj_okT_tl h3)) H locs real hl hP hS
    exact va_get (D := D) (ci := a.toNat) (v := .int (Int32.ofInt (σ q b))) (C := C1) (T := T) (N := N) hx hb hts hin hown hKK hP q (mj_w_some hq) hcl b hkN (hts _ hlink) (fun _ h => h) (by rw [List.getElem?_mapIdx, hsl]; rfl) hd k
  · have k := hK _ _ _ _ hk h1 h2 (mj_okT_cons (v := .inr (.inl q')) trivial (mj_okT_tl h3)) H locs real hl hP hS
    exact va_get (D := D) (ci := a.toNat) (v := .ref (ad q')) (C := C1) (T := T) (N := N) hx hb hts hin hown hKK hP q (mj_w_some hq) hcl b hkN (hts _ hlink) (fun _ h => h) (by rw [List.getElem?_mapIdx, hsl]; rfl) hd k
theorem mj_k18 (X : mj_X p s m args meth c cc nL own Ts ret D cl cA ad L Af) {Q : mj_Q} {K : Nat → List (Option mj_V) → List mj_V → mj_S → Prop} {a : Int} {b : Nat} {t : List (Int × Nat)} {pc : Nat} {ls : List (Option mj_V)} {st : List mj_V} {σ : mj_S} (h1 : mj_okS σ) (h2 : mj_okL ls) (h3 : mj_okT st)
    (hK : ∀ pc' ls' st' σ', K pc' ls' st' σ' → mj_okS σ' → mj_okL ls' → mj_okT st' → mj_G p l e R s m args below meth c kc ks nL D cl cA ad L Af Q pc' ls' st' σ') 
    (hi : mj_is cl own Ts NW Ms cc pc (18, a, b, t)) (hs : mj_step L C ret Q K (18, a, b, t) pc ls st σ) : mj_G p l e R s m args below meth c kc ks nL D cl cA ad L Af Q pc ls st σ := by
  obtain ⟨hx, hb, hml, hown, hts, hret, hlk, hKK, hDD, hAf⟩ := X
  intro H locs real hl hP hS
  obtain ⟨x, q, sl, st', rfl, hq, hsl, hk⟩ := hs
  obtain ⟨i, C1, T, N, ty, hd, hcl, hkN, hlink, hin, hty, hnm, hfin, hpd⟩ := hi
  dsimp only at hq hsl hk hcl hkN hlink hin hd hfin hpd
  have hxr : mj_r x := mj_okT_hd h3
  refine va_put (D := D) (ci := a.toNat) (v := .int (Int32.ofInt x)) (ty := .int) (C := C1) (T := T) (N := N) hx hb hts hin ty hty hnm hown hKK hP (mj_va_D2 hDD hAf σ) hS q (mj_w_some hq) hcl b hkN (hts _ hlink) (fun _ h => h) hfin hpd rfl rfl (by rw [List.length_mapIdx]; exact (List.getElem?_eq_some_iff.mp hsl).1) hd (fun H1 locs1 hP1 hD1 hS1 => ?_)
  rw [← mj_e_put (cA := cA) (ad := ad) (σ := σ) (q := q) (x := x) (ci := a.toNat) hsl, mj_w_upd hq mj_up_off] at hP1
  exact hK _ _ _ _ hk (mj_up_ok h1 hxr) h2 (mj_okT_tl (mj_okT_tl h3)) H1 locs1 real hl hP1 hS1
theorem mj_k19 (X : mj_X p s m args meth c cc nL own Ts ret D cl cA ad L Af) {Q : mj_Q} {K : Nat → List (Option mj_V) → List mj_V → mj_S → Prop} {a : Int} {b : Nat} {t : List (Int × Nat)} {pc : Nat} {ls : List (Option mj_V)} {st : List mj_V} {σ : mj_S} (h1 : mj_okS σ) (h2 : mj_okL ls) (h3 : mj_okT st)
    (hK : ∀ pc' ls' st' σ', K pc' ls' st' σ' → mj_okS σ' → mj_okL ls' → mj_okT st' → mj_G p l e R s m args below meth c kc ks nL D cl cA ad L Af Q pc' ls' st' σ') 
    (hi : mj_is cl own Ts NW Ms cc pc (19, a, b, t)) (hs : mj_step L C ret Q K (19, a, b, t) pc ls st σ) : mj_G p l e R s m args below meth c kc ks nL D cl cA ad L Af Q pc ls st σ := by
  obtain ⟨hx, hb, hml, hown, hts, hret, hlk, hKK, hDD, hAf⟩ := X
  intro H locs real hl hP hS
  obtain ⟨i, q, n, st', rfl, hq, h0, hn, hk⟩ := hs
  have hir : mj_r i := mj_okT_hd h3
  have k := hK _ _ _ _ hk h1 h2 (mj_okT_cons (v := .inl (σ q i.toNat)) (h1 q i.toNat) (mj_okT_tl (mj_okT_tl h3))) H locs real hl hP hS
  have k : W p l e R s m args below meth c H locs kc ks _ (F0 m (pc + 1) real (.int (Int32.ofInt (σ q i.toNat)) :: st'.map (mj_v ad))) := k
  rw [← mj_cl hir] at k
  exact va_iald (f := fun i => Int32.ofInt (σ q i)) hx hb hKK hP q 0 (mj_w_some hq) rfl (mj_in hir h0 hn) hi k
theorem mj_k20 (X : mj_X p s m args meth c cc nL own Ts ret D cl cA ad L Af) {Q : mj_Q} {K : Nat → List (Option mj_V) → List mj_V → mj_S → Prop} {a : Int} {b : Nat} {t : List (Int × Nat)} {pc : Nat} {ls : List (Option mj_V)} {st : List mj_V} {σ : mj_S} (h1 : mj_okS σ) (h2 : mj_okL ls) (h3 : mj_okT st)
    (hK : ∀ pc' ls' st' σ', K pc' ls' st' σ' → mj_okS σ' → mj_okL ls' → mj_okT st' → mj_G p l e R s m args below meth c kc ks nL D cl cA ad L Af Q pc' ls' st' σ') 
    (hi : mj_is cl own Ts NW Ms cc pc (20, a, b, t)) (hs : mj_step L C ret Q K (20, a, b, t) pc ls st σ) : mj_G p l e R s m args below meth c kc ks nL D cl cA ad L Af Q pc ls st σ := by
  obtain ⟨hx, hb, hml, hown, hts, hret, hlk, hKK, hDD, hAf⟩ := X
  intro H locs real hl hP hS
  obtain ⟨i, q, n, st', rfl, hq, h0, hn, hk⟩ := hs
  have hir : mj_r i := mj_okT_hd h3
  have k := hK _ _ _ _ hk h1 h2 (mj_okT_cons (v := .inl (σ q i.toNat)) (h1 q i.toNat) (mj_okT_tl (mj_okT_tl h3))) H locs real hl hP hS
  have k : W p l e R s m args below meth c H locs kc ks _ (F0 m (pc + 1) real (.int (Int32.ofInt (σ q i.toNat)) :: st'.map (mj_v ad))) := k
  rw [← mj_cl hir] at k
  exact va_cald (f := fun i => Int32.ofInt (σ q i)) hx hb hKK hP q 1 (mj_w_some hq) rfl (mj_in hir h0 hn) hi k
theorem mj_k21 (X : mj_X p s m args meth c cc nL own Ts ret D cl cA ad L Af) {Q : mj_Q} {K : Nat → List (Option mj_V) → List mj_V → mj_S → Prop} {a : Int} {b : Nat} {t : List (Int × Nat)} {pc : Nat} {ls : List (Option mj_V)} {st : List mj_V} {σ : mj_S} (h1 : mj_okS σ) (h2 : mj_okL ls) (h3 : mj_okT st)
    (hK : ∀ pc' ls' st' σ', K pc' ls' st' σ' → mj_okS σ' → mj_okL ls' → mj_okT st' → mj_G p l e R s m args below meth c kc ks nL D cl cA ad L Af Q pc' ls' st' σ') 
    (hi : mj_is cl own Ts NW Ms cc pc (21, a, b, t)) (hs : mj_step L C ret Q K (21, a, b, t) pc ls st σ) : mj_G p l e R s m args below meth c kc ks nL D cl cA ad L Af Q pc ls st σ := by
  obtain ⟨hx, hb, hml, hown, hts, hret, hlk, hKK, hDD, hAf⟩ := X
  intro H locs real hl hP hS
  obtain ⟨i, q, n, st', rfl, hq, h0, hn, hk⟩ := hs
  have hir : mj_r i := mj_okT_hd h3
  have k := hK _ _ _ _ hk h1 h2 (mj_okT_cons (v := .inl (σ q i.toNat)) (h1 q i.toNat) (mj_okT_tl (mj_okT_tl h3))) H locs real hl hP hS
  have k : W p l e R s m args below meth c H locs kc ks _ (F0 m (pc + 1) real (.int (Int32.ofInt (σ q i.toNat)) :: st'.map (mj_v ad))) := k
  rw [← mj_cl hir] at k
  exact va_zald (f := fun i => Int32.ofInt (σ q i)) hx hb hKK hP q 2 (mj_w_some hq) rfl (mj_in hir h0 hn) hi k
theorem mj_k22 (X : mj_X p s m args meth c cc nL own Ts ret D cl cA ad L Af) {Q : mj_Q} {K : Nat → List (Option mj_V) → List mj_V → mj_S → Prop} {a : Int} {b : Nat} {t : List (Int × Nat)} {pc : Nat} {ls : List (Option mj_V)} {st : List mj_V} {σ : mj_S} (h1 : mj_okS σ) (h2 : mj_okL ls) (h3 : mj_okT st)
    (hK : ∀ pc' ls' st' σ', K pc' ls' st' σ' → mj_okS σ' → mj_okL ls' → mj_okT st' → mj_G p l e R s m args below meth c kc ks nL D cl cA ad L Af Q pc' ls' st' σ') 
    (hi : mj_is cl own Ts NW Ms cc pc (22, a, b, t)) (hs : mj_step L C ret Q K (22, a, b, t) pc ls st σ) : mj_G p l e R s m args below meth c kc ks nL D cl cA ad L Af Q pc ls st σ := by
  obtain ⟨hx, hb, hml, hown, hts, hret, hlk, hKK, hDD, hAf⟩ := X
  intro H locs real hl hP hS
  obtain ⟨x, i, q, n, st', rfl, hq, h0, hn, hk⟩ := hs
  have hxr : mj_r x := mj_okT_hd h3
  have hir : mj_r i := mj_okT_hd (mj_okT_tl h3)
  refine va_iast (f := fun i => Int32.ofInt (σ q i)) hx hb hKK hP (mj_va_D2 hDD hAf σ) hS q 0 (mj_w_some hq) rfl (mj_in hir h0 hn) hi (fun H1 locs1 hP1 hD1 hS1 => ?_)
  rw [mj_cl hir] at hP1
  rw [← mj_e_up (cA := cA) (ad := ad), mj_w_upd hq mj_up_off] at hP1
  exact hK _ _ _ _ hk (mj_up_ok h1 hxr) h2 (mj_okT_tl (mj_okT_tl (mj_okT_tl h3))) H1 locs1 real hl hP1 hS1
theorem mj_k23 (X : mj_X p s m args meth c cc nL own Ts ret D cl cA ad L Af) {Q : mj_Q} {K : Nat → List (Option mj_V) → List mj_V → mj_S → Prop} {a : Int} {b : Nat} {t : List (Int × Nat)} {pc : Nat} {ls : List (Option mj_V)} {st : List mj_V} {σ : mj_S} (h1 : mj_okS σ) (h2 : mj_okL ls) (h3 : mj_okT st)
    (hK : ∀ pc' ls' st' σ', K pc' ls' st' σ' → mj_okS σ' → mj_okL ls' → mj_okT st' → mj_G p l e R s m args below meth c kc ks nL D cl cA ad L Af Q pc' ls' st' σ') 
    (hi : mj_is cl own Ts NW Ms cc pc (23, a, b, t)) (hs : mj_step L C ret Q K (23, a, b, t) pc ls st σ) : mj_G p l e R s m args below meth c kc ks nL D cl cA ad L Af Q pc ls st σ := by
  obtain ⟨hx, hb, hml, hown, hts, hret, hlk, hKK, hDD, hAf⟩ := X
  intro H locs real hl hP hS
  obtain ⟨x, i, q, n, st', rfl, hq, h0, hn, hft, hk⟩ := hs
  have hxr : mj_r x := mj_okT_hd h3
  have hir : mj_r i := mj_okT_hd (mj_okT_tl h3)
  have hna : vp_nar .char (Int32.ofInt x) = Int32.ofInt x := mj_nar hxr hft
  refine va_cast (f := fun i => Int32.ofInt (σ q i)) hx hb hKK hP (mj_va_D2 hDD hAf σ) hS q 1 (mj_w_some hq) rfl (mj_in hir h0 hn) hi (fun H1 locs1 hP1 hD1 hS1 => ?_)
  rw [hna, mj_cl hir] at hP1
  rw [← mj_e_up (cA := cA) (ad := ad), mj_w_upd hq mj_up_off] at hP1
  exact hK _ _ _ _ hk (mj_up_ok h1 hxr) h2 (mj_okT_tl (mj_okT_tl (mj_okT_tl h3))) H1 locs1 real hl hP1 hS1
theorem mj_k24 (X : mj_X p s m args meth c cc nL own Ts ret D cl cA ad L Af) {Q : mj_Q} {K : Nat → List (Option mj_V) → List mj_V → mj_S → Prop} {a : Int} {b : Nat} {t : List (Int × Nat)} {pc : Nat} {ls : List (Option mj_V)} {st : List mj_V} {σ : mj_S} (h1 : mj_okS σ) (h2 : mj_okL ls) (h3 : mj_okT st)
    (hK : ∀ pc' ls' st' σ', K pc' ls' st' σ' → mj_okS σ' → mj_okL ls' → mj_okT st' → mj_G p l e R s m args below meth c kc ks nL D cl cA ad L Af Q pc' ls' st' σ') 
    (hi : mj_is cl own Ts NW Ms cc pc (24, a, b, t)) (hs : mj_step L C ret Q K (24, a, b, t) pc ls st σ) : mj_G p l e R s m args below meth c kc ks nL D cl cA ad L Af Q pc ls st σ := by
  obtain ⟨hx, hb, hml, hown, hts, hret, hlk, hKK, hDD, hAf⟩ := X
  intro H locs real hl hP hS
  obtain ⟨x, i, q, n, st', rfl, hq, h0, hn, hft, hk⟩ := hs
  have hxr : mj_r x := mj_okT_hd h3
  have hir : mj_r i := mj_okT_hd (mj_okT_tl h3)
  have hna : vp_nar .boolean (Int32.ofInt x) = Int32.ofInt x := mj_nar hxr hft
  refine va_zast (f := fun i => Int32.ofInt (σ q i)) hx hb hKK hP (mj_va_D2 hDD hAf σ) hS q 2 (mj_w_some hq) rfl (mj_in hir h0 hn) hi (fun H1 locs1 hP1 hD1 hS1 => ?_)
  rw [hna, mj_cl hir] at hP1
  rw [← mj_e_up (cA := cA) (ad := ad), mj_w_upd hq mj_up_off] at hP1
  exact hK _ _ _ _ hk (mj_up_ok h1 hxr) h2 (mj_okT_tl (mj_okT_tl (mj_okT_tl h3))) H1 locs1 real hl hP1 hS1
theorem mj_k25 (X : mj_X p s m args meth c cc nL own Ts ret D cl cA ad L Af) {Q : mj_Q} {K : Nat → List (Option mj_V) → List mj_V → mj_S → Prop} {a : Int} {b : Nat} {t : List (Int × Nat)} {pc : Nat} {ls : List (Option mj_V)} {st : List mj_V} {σ : mj_S} (h1 : mj_okS σ) (h2 : mj_okL ls) (h3 : mj_okT st)
    (hK : ∀ pc' ls' st' σ', K pc' ls' st' σ' → mj_okS σ' → mj_okL ls' → mj_okT st' → mj_G p l e R s m args below meth c kc ks nL D cl cA ad L Af Q pc' ls' st' σ') 
    (hi : mj_is cl own Ts NW Ms cc pc (25, a, b, t)) (hs : mj_step L C ret Q K (25, a, b, t) pc ls st σ) : mj_G p l e R s m args below meth c kc ks nL D cl cA ad L Af Q pc ls st σ := by
  obtain ⟨hx, hb, hml, hown, hts, hret, hlk, hKK, hDD, hAf⟩ := X
  intro H locs real hl hP hS
  obtain ⟨q, ty, n, st', rfl, hq, hty, hn, hk⟩ := hs
  obtain ⟨t0, ht0⟩ := mj_ty_in (cA := cA) hty
  have k := hK _ _ _ _ hk h1 h2 (mj_okT_cons (v := .inl (n : Int)) hn (mj_okT_tl h3)) H locs real hl hP hS
  exact va_alen hx hb hKK hP q t0 (mj_w_some hq) ht0 (v := Int32.ofInt (n : Int)) (by rw [Int32.ofInt_eq_ofNat]) hi k
theorem mj_k27 (X : mj_X p s m args meth c cc nL own Ts ret D cl cA ad L Af) {Q : mj_Q} {K : Nat → List (Option mj_V) → List mj_V → mj_S → Prop} {a : Int} {b : Nat} {t : List (Int × Nat)} {pc : Nat} {ls : List (Option mj_V)} {st : List mj_V} {σ : mj_S} (h1 : mj_okS σ) (h2 : mj_okL ls) (h3 : mj_okT st)
    (hK : ∀ pc' ls' st' σ', K pc' ls' st' σ' → mj_okS σ' → mj_okL ls' → mj_okT st' → mj_G p l e R s m args below meth c kc ks nL D cl cA ad L Af Q pc' ls' st' σ') 
    (hi : mj_is cl own Ts NW Ms cc pc (27, a, b, t)) (hs : mj_step L C ret Q K (27, a, b, t) pc ls st σ) : mj_G p l e R s m args below meth c kc ks nL D cl cA ad L Af Q pc ls st σ := by
  obtain ⟨hx, hb, hml, hown, hts, hret, hlk, hKK, hDD, hAf⟩ := X
  intro H locs real hl hP hS
  obtain ⟨x, ty, rfl, hty, hft, hq⟩ := hs
  have hxr : mj_r x := mj_okT_hd h3
  exact W.zret (v := Int32.ofInt x) (ty := ty) hx hb (by rw [hret, hty]) (mj_narrow hxr hft) (fun t1 ht1 hW => ⟨⟨some (.inl x), σ, rfl, hq, fun v hv => by cases hv; exact hxr, h1, by rw [ht1]; exact hP⟩, hS.F ht1⟩) hS.2.2 hi hlk
theorem mj_k28 (X : mj_X p s m args meth c cc nL own Ts ret D cl cA ad L Af) {Q : mj_Q} {K : Nat → List (Option mj_V) → List mj_V → mj_S → Prop} {a : Int} {b : Nat} {t : List (Int × Nat)} {pc : Nat} {ls : List (Option mj_V)} {st : List mj_V} {σ : mj_S} (h1 : mj_okS σ) (h2 : mj_okL ls) (h3 : mj_okT st)
    (hK : ∀ pc' ls' st' σ', K pc' ls' st' σ' → mj_okS σ' → mj_okL ls' → mj_okT st' → mj_G p l e R s m args below meth c kc ks nL D cl cA ad L Af Q pc' ls' st' σ') 
    (hi : mj_is cl own Ts NW Ms cc pc (28, a, b, t)) (hs : mj_step L C ret Q K (28, a, b, t) pc ls st σ) : mj_G p l e R s m args below meth c kc ks nL D cl cA ad L Af Q pc ls st σ := by
  obtain ⟨hx, hb, hml, hown, hts, hret, hlk, hKK, hDD, hAf⟩ := X
  intro H locs real hl hP hS
  obtain ⟨rfl, hty, hq⟩ := hs
  exact W.vret hx hb (by rw [hret, hty]) (fun t1 ht1 hW => ⟨⟨none, σ, rfl, hq, (fun v hv => by cases hv), h1, by rw [ht1]; exact hP⟩, hS.F ht1⟩) hS.2.2 hi hlk
theorem mj_k29 (X : mj_X p s m args meth c cc nL own Ts ret D cl cA ad L Af) {Q : mj_Q} {K : Nat → List (Option mj_V) → List mj_V → mj_S → Prop} {a : Int} {b : Nat} {t : List (Int × Nat)} {pc : Nat} {ls : List (Option mj_V)} {st : List mj_V} {σ : mj_S} (h1 : mj_okS σ) (h2 : mj_okL ls) (h3 : mj_okT st)
    (hK : ∀ pc' ls' st' σ', K pc' ls' st' σ' → mj_okS σ' → mj_okL ls' → mj_okT st' → mj_G p l e R s m args below meth c kc ks nL D cl cA ad L Af Q pc' ls' st' σ') 
    (hi : mj_is cl own Ts NW Ms cc pc (29, a, b, t)) (hs : mj_step L C ret Q K (29, a, b, t) pc ls st σ) : mj_G p l e R s m args below meth c kc ks nL D cl cA ad L Af Q pc ls st σ := by
  obtain ⟨hx, hb, hml, hown, hts, hret, hlk, hKK, hDD, hAf⟩ := X
  intro H locs real hl hP hS
  obtain ⟨v, st', rfl, hc, hk⟩ := hs
  have k := hK _ _ _ _ hk h1 h2 (mj_okT_cons (mj_okT_hd h3) h3) H locs real hl hP hS
  exact lv_dup hx hb hi (mj_cat1 hc) k
theorem mj_k30 (X : mj_X p s m args meth c cc nL own Ts ret D cl cA ad L Af) {Q : mj_Q} {K : Nat → List (Option mj_V) → List mj_V → mj_S → Prop} {a : Int} {b : Nat} {t : List (Int × Nat)} {pc : Nat} {ls : List (Option mj_V)} {st : List mj_V} {σ : mj_S} (h1 : mj_okS σ) (h2 : mj_okL ls) (h3 : mj_okT st)
    (hK : ∀ pc' ls' st' σ', K pc' ls' st' σ' → mj_okS σ' → mj_okL ls' → mj_okT st' → mj_G p l e R s m args below meth c kc ks nL D cl cA ad L Af Q pc' ls' st' σ') 
    (hi : mj_is cl own Ts NW Ms cc pc (30, a, b, t)) (hs : mj_step L C ret Q K (30, a, b, t) pc ls st σ) : mj_G p l e R s m args below meth c kc ks nL D cl cA ad L Af Q pc ls st σ := by
  obtain ⟨hx, hb, hml, hown, hts, hret, hlk, hKK, hDD, hAf⟩ := X
  intro H locs real hl hP hS
  obtain ⟨v, w, st', rfl, hc, hc2, hk⟩ := hs
  have k := hK _ _ _ _ hk h1 h2 (mj_okT_cons (mj_okT_hd h3) (mj_okT_cons (mj_okT_hd (mj_okT_tl h3)) (mj_okT_cons (mj_okT_hd h3) (mj_okT_tl (mj_okT_tl h3))))) H locs real hl hP hS
  exact lv_dup_x1 hx hb hi (mj_cat1 hc) (mj_cat1 hc2) k
theorem mj_k31 (X : mj_X p s m args meth c cc nL own Ts ret D cl cA ad L Af) {Q : mj_Q} {K : Nat → List (Option mj_V) → List mj_V → mj_S → Prop} {a : Int} {b : Nat} {t : List (Int × Nat)} {pc : Nat} {ls : List (Option mj_V)} {st : List mj_V} {σ : mj_S} (h1 : mj_okS σ) (h2 : mj_okL ls) (h3 : mj_okT st)
    (hK : ∀ pc' ls' st' σ', K pc' ls' st' σ' → mj_okS σ' → mj_okL ls' → mj_okT st' → mj_G p l e R s m args below meth c kc ks nL D cl cA ad L Af Q pc' ls' st' σ') 
    (hi : mj_is cl own Ts NW Ms cc pc (31, a, b, t)) (hs : mj_step L C ret Q K (31, a, b, t) pc ls st σ) : mj_G p l e R s m args below meth c kc ks nL D cl cA ad L Af Q pc ls st σ := by
  obtain ⟨hx, hb, hml, hown, hts, hret, hlk, hKK, hDD, hAf⟩ := X
  intro H locs real hl hP hS
  obtain ⟨v, w, st', rfl, hc, hc2, hk⟩ := hs
  have k := hK _ _ _ _ hk h1 h2 (mj_okT_cons (mj_okT_hd h3) (mj_okT_cons (mj_okT_hd (mj_okT_tl h3)) h3)) H locs real hl hP hS
  exact lv_dup2_11 hx hb hi (mj_cat1 hc) (mj_cat1 hc2) k
theorem mj_k32 (X : mj_X p s m args meth c cc nL own Ts ret D cl cA ad L Af) {Q : mj_Q} {K : Nat → List (Option mj_V) → List mj_V → mj_S → Prop} {a : Int} {b : Nat} {t : List (Int × Nat)} {pc : Nat} {ls : List (Option mj_V)} {st : List mj_V} {σ : mj_S} (h1 : mj_okS σ) (h2 : mj_okL ls) (h3 : mj_okT st)
    (hK : ∀ pc' ls' st' σ', K pc' ls' st' σ' → mj_okS σ' → mj_okL ls' → mj_okT st' → mj_G p l e R s m args below meth c kc ks nL D cl cA ad L Af Q pc' ls' st' σ') 
    (hi : mj_is cl own Ts NW Ms cc pc (32, a, b, t)) (hs : mj_step L C ret Q K (32, a, b, t) pc ls st σ) : mj_G p l e R s m args below meth c kc ks nL D cl cA ad L Af Q pc ls st σ := by
  obtain ⟨hx, hb, hml, hown, hts, hret, hlk, hKK, hDD, hAf⟩ := X
  intro H locs real hl hP hS
  obtain ⟨v, st', rfl, hc, hk⟩ := hs
  have k := hK _ _ _ _ hk h1 h2 (mj_okT_tl h3) H locs real hl hP hS
  exact lv_pop hx hb hi (mj_cat1 hc) k
theorem mj_k33 (X : mj_X p s m args meth c cc nL own Ts ret D cl cA ad L Af) {Q : mj_Q} {K : Nat → List (Option mj_V) → List mj_V → mj_S → Prop} {a : Int} {b : Nat} {t : List (Int × Nat)} {pc : Nat} {ls : List (Option mj_V)} {st : List mj_V} {σ : mj_S} (h1 : mj_okS σ) (h2 : mj_okL ls) (h3 : mj_okT st)
    (hK : ∀ pc' ls' st' σ', K pc' ls' st' σ' → mj_okS σ' → mj_okL ls' → mj_okT st' → mj_G p l e R s m args below meth c kc ks nL D cl cA ad L Af Q pc' ls' st' σ') 
    (hi : mj_is cl own Ts NW Ms cc pc (33, a, b, t)) (hs : mj_step L C ret Q K (33, a, b, t) pc ls st σ) : mj_G p l e R s m args below meth c kc ks nL D cl cA ad L Af Q pc ls st σ := by
  obtain ⟨hx, hb, hml, hown, hts, hret, hlk, hKK, hDD, hAf⟩ := X
  intro H locs real hl hP hS
  obtain ⟨x, st', rfl, hk⟩ := hs
  obtain ⟨df, hi9, offs, len, hd, hh, ho, hb9⟩ := hi
  dsimp only at hk hd hh ho hb9
  have hxr : mj_r x := mj_okT_hd h3
  have k := hK _ _ _ _ hk h1 h2 (mj_okT_tl h3) H locs real hl hP hS
  by_cases hin : a ≤ x ∧ x < a + t.length
  · obtain ⟨off, g1, g2⟩ := mj_sw_in (d := b) ho hin.1 hin.2
    exact lv_tableIn (x := Int32.ofInt x) hx hb hd (by rw [mj_ti hxr]; omega) (by rw [mj_ti hxr]; omega) (by rw [mj_ti hxr]; exact g1) g2 k
  · have e1 : mj_sw a t b x = b := by unfold mj_sw; rw [if_neg hin]
    rw [e1] at k
    exact lv_tableOut (x := Int32.ofInt x) hx hb hd (by rw [mj_ti hxr]; omega) hb9 k
theorem mj_k34 (X : mj_X p s m args meth c cc nL own Ts ret D cl cA ad L Af) {Q : mj_Q} {K : Nat → List (Option mj_V) → List mj_V → mj_S → Prop} {a : Int} {b : Nat} {t : List (Int × Nat)} {pc : Nat} {ls : List (Option mj_V)} {st : List mj_V} {σ : mj_S} (h1 : mj_okS σ) (h2 : mj_okL ls) (h3 : mj_okT st)
    (hK : ∀ pc' ls' st' σ', K pc' ls' st' σ' → mj_okS σ' → mj_okL ls' → mj_okT st' → mj_G p l e R s m args below meth c kc ks nL D cl cA ad L Af Q pc' ls' st' σ') 
    (hi : mj_is cl own Ts NW Ms cc pc (34, a, b, t)) (hs : mj_step L C ret Q K (34, a, b, t) pc ls st σ) : mj_G p l e R s m args below meth c kc ks nL D cl cA ad L Af Q pc ls st σ := by
  obtain ⟨hx, hb, hml, hown, hts, hret, hlk, hKK, hDD, hAf⟩ := X
  intro H locs real hl hP hS
  obtain ⟨x, st', rfl, hk⟩ := hs
  obtain ⟨df, ps, len, hd, hh, ho, hb9⟩ := hi
  dsimp only at hk hd hh ho hb9
  have hxr : mj_r x := mj_okT_hd h3
  have k := hK _ _ _ _ hk h1 h2 (mj_okT_tl h3) H locs real hl hP hS
  exact lv_lookup (x := Int32.ofInt x) hx hb hd hh rfl (by rw [mj_ti hxr, ho]; exact mj_lk_off hb9 t) k
theorem mj_k35 (X : mj_X p s m args meth c cc nL own Ts ret D cl cA ad L Af) {Q : mj_Q} {K : Nat → List (Option mj_V) → List mj_V → mj_S → Prop} {a : Int} {b : Nat} {t : List (Int × Nat)} {pc : Nat} {ls : List (Option mj_V)} {st : List mj_V} {σ : mj_S} (h1 : mj_okS σ) (h2 : mj_okL ls) (h3 : mj_okT st)
    (hK : ∀ pc' ls' st' σ', K pc' ls' st' σ' → mj_okS σ' → mj_okL ls' → mj_okT st' → mj_G p l e R s m args below meth c kc ks nL D cl cA ad L Af Q pc' ls' st' σ') 
    (hi : mj_is cl own Ts NW Ms cc pc (35, a, b, t)) (hs : mj_step L C ret Q K (35, a, b, t) pc ls st σ) : mj_G p l e R s m args below meth c kc ks nL D cl cA ad L Af Q pc ls st σ := by
  obtain ⟨hx, hb, hml, hown, hts, hret, hlk, hKK, hDD, hAf⟩ := X
  intro H locs real hl hP hS
  obtain ⟨x, st', rfl, hk⟩ := hs
  have hxr : mj_r x := mj_okT_hd h3
  have k := hK _ _ _ _ hk h1 h2 (mj_okT_cons (v := .inl (x % 65536)) ⟨by omega, by omega⟩ (mj_okT_tl h3)) H locs real hl hP hS
  exact lv_i2c hx hb hi (mj_i2c hxr) k
theorem mj_k36 (X : mj_X p s m args meth c cc nL own Ts ret D cl cA ad L Af) {Q : mj_Q} {K : Nat → List (Option mj_V) → List mj_V → mj_S → Prop} {a : Int} {b : Nat} {t : List (Int × Nat)} {pc : Nat} {ls : List (Option mj_V)} {st : List mj_V} {σ : mj_S} (h1 : mj_okS σ) (h2 : mj_okL ls) (h3 : mj_okT st)
    (hK : ∀ pc' ls' st' σ', K pc' ls' st' σ' → mj_okS σ' → mj_okL ls' → mj_okT st' → mj_G p l e R s m args below meth c kc ks nL D cl cA ad L Af Q pc' ls' st' σ') 
    (hi : mj_is cl own Ts NW Ms cc pc (36, a, b, t)) (hs : mj_step L C ret Q K (36, a, b, t) pc ls st σ) : mj_G p l e R s m args below meth c kc ks nL D cl cA ad L Af Q pc ls st σ := by
  obtain ⟨hx, hb, hml, hown, hts, hret, hlk, hKK, hDD, hAf⟩ := X
  intro H locs real hl hP hS
  obtain ⟨x, st', rfl, hk⟩ := hs
  have hxr : mj_r x := mj_okT_hd h3
  have k := hK _ _ _ _ hk h1 h2 (mj_okT_cons (v := .inr (.inr x)) ⟨by have := hxr.1; omega, by have := hxr.2; omega⟩ (mj_okT_tl h3)) H locs real hl hP hS
  exact lv_i2l hx hb hi (mj_i2l hxr) k
theorem mj_k37 (X : mj_X p s m args meth c cc nL own Ts ret D cl cA ad L Af) {Q : mj_Q} {K : Nat → List (Option mj_V) → List mj_V → mj_S → Prop} {a : Int} {b : Nat} {t : List (Int × Nat)} {pc : Nat} {ls : List (Option mj_V)} {st : List mj_V} {σ : mj_S} (h1 : mj_okS σ) (h2 : mj_okL ls) (h3 : mj_okT st)
    (hK : ∀ pc' ls' st' σ', K pc' ls' st' σ' → mj_okS σ' → mj_okL ls' → mj_okT st' → mj_G p l e R s m args below meth c kc ks nL D cl cA ad L Af Q pc' ls' st' σ') 
    (hi : mj_is cl own Ts NW Ms cc pc (37, a, b, t)) (hs : mj_step L C ret Q K (37, a, b, t) pc ls st σ) : mj_G p l e R s m args below meth c kc ks nL D cl cA ad L Af Q pc ls st σ := by
  obtain ⟨hx, hb, hml, hown, hts, hret, hlk, hKK, hDD, hAf⟩ := X
  intro H locs real hl hP hS
  obtain ⟨x, st', rfl, hr, hk⟩ := hs
  have k := hK _ _ _ _ hk h1 h2 (mj_okT_cons (v := .inl x) hr (mj_okT_tl h3)) H locs real hl hP hS
  exact lv_l2i hx hb hi Int64.toInt32_ofInt k
theorem mj_k38 (X : mj_X p s m args meth c cc nL own Ts ret D cl cA ad L Af) {Q : mj_Q} {K : Nat → List (Option mj_V) → List mj_V → mj_S → Prop} {a : Int} {b : Nat} {t : List (Int × Nat)} {pc : Nat} {ls : List (Option mj_V)} {st : List mj_V} {σ : mj_S} (h1 : mj_okS σ) (h2 : mj_okL ls) (h3 : mj_okT st)
    (hK : ∀ pc' ls' st' σ', K pc' ls' st' σ' → mj_okS σ' → mj_okL ls' → mj_okT st' → mj_G p l e R s m args below meth c kc ks nL D cl cA ad L Af Q pc' ls' st' σ') 
    (hi : mj_is cl own Ts NW Ms cc pc (38, a, b, t)) (hs : mj_step L C ret Q K (38, a, b, t) pc ls st σ) : mj_G p l e R s m args below meth c kc ks nL D cl cA ad L Af Q pc ls st σ := by
  obtain ⟨hx, hb, hml, hown, hts, hret, hlk, hKK, hDD, hAf⟩ := X
  intro H locs real hl hP hS
  obtain ⟨x, y, st', rfl, hr, hk⟩ := hs
  have k := hK _ _ _ _ hk h1 h2 (mj_okT_cons (v := .inr (.inr (x + y))) hr (mj_okT_tl (mj_okT_tl h3))) H locs real hl hP hS
  have k : W p l e R s m args below meth c H locs kc ks _ (F0 m (pc + 1) real (.long (Int64.ofInt (x + y)) :: st'.map (mj_v ad))) := k
  rw [Int64.ofInt_add] at k
  exact lv_ladd hx hb hi k
theorem mj_k39 (X : mj_X p s m args meth c cc nL own Ts ret D cl cA ad L Af) {Q : mj_Q} {K : Nat → List (Option mj_V) → List mj_V → mj_S → Prop} {a : Int} {b : Nat} {t : List (Int × Nat)} {pc : Nat} {ls : List (Option mj_V)} {st : List mj_V} {σ : mj_S} (h1 : mj_okS σ) (h2 : mj_okL ls) (h3 : mj_okT st)
    (hK : ∀ pc' ls' st' σ', K pc' ls' st' σ' → mj_okS σ' → mj_okL ls' → mj_okT st' → mj_G p l e R s m args below meth c kc ks nL D cl cA ad L Af Q pc' ls' st' σ') 
    (hi : mj_is cl own Ts NW Ms cc pc (39, a, b, t)) (hs : mj_step L C ret Q K (39, a, b, t) pc ls st σ) : mj_G p l e R s m args below meth c kc ks nL D cl cA ad L Af Q pc ls st σ := by
  obtain ⟨hx, hb, hml, hown, hts, hret, hlk, hKK, hDD, hAf⟩ := X
  intro H locs real hl hP hS
  obtain ⟨x, y, st', rfl, hr, hk⟩ := hs
  have k := hK _ _ _ _ hk h1 h2 (mj_okT_cons (v := .inr (.inr (x - y))) hr (mj_okT_tl (mj_okT_tl h3))) H locs real hl hP hS
  have k : W p l e R s m args below meth c H locs kc ks _ (F0 m (pc + 1) real (.long (Int64.ofInt (x - y)) :: st'.map (mj_v ad))) := k
  rw [Int64.ofInt_sub] at k
  exact lv_lsub hx hb hi k
theorem mj_k40 (X : mj_X p s m args meth c cc nL own Ts ret D cl cA ad L Af) {Q : mj_Q} {K : Nat → List (Option mj_V) → List mj_V → mj_S → Prop} {a : Int} {b : Nat} {t : List (Int × Nat)} {pc : Nat} {ls : List (Option mj_V)} {st : List mj_V} {σ : mj_S} (h1 : mj_okS σ) (h2 : mj_okL ls) (h3 : mj_okT st)
    (hK : ∀ pc' ls' st' σ', K pc' ls' st' σ' → mj_okS σ' → mj_okL ls' → mj_okT st' → mj_G p l e R s m args below meth c kc ks nL D cl cA ad L Af Q pc' ls' st' σ') 
    (hi : mj_is cl own Ts NW Ms cc pc (40, a, b, t)) (hs : mj_step L C ret Q K (40, a, b, t) pc ls st σ) : mj_G p l e R s m args below meth c kc ks nL D cl cA ad L Af Q pc ls st σ := by
  obtain ⟨hx, hb, hml, hown, hts, hret, hlk, hKK, hDD, hAf⟩ := X
  intro H locs real hl hP hS
  obtain ⟨x, y, st', rfl, hr, hk⟩ := hs
  have k := hK _ _ _ _ hk h1 h2 (mj_okT_cons (v := .inr (.inr (x * y))) hr (mj_okT_tl (mj_okT_tl h3))) H locs real hl hP hS
  have k : W p l e R s m args below meth c H locs kc ks _ (F0 m (pc + 1) real (.long (Int64.ofInt (x * y)) :: st'.map (mj_v ad))) := k
  rw [Int64.ofInt_mul] at k
  exact lv_lmul hx hb hi k
theorem mj_k41 (X : mj_X p s m args meth c cc nL own Ts ret D cl cA ad L Af) {Q : mj_Q} {K : Nat → List (Option mj_V) → List mj_V → mj_S → Prop} {a : Int} {b : Nat} {t : List (Int × Nat)} {pc : Nat} {ls : List (Option mj_V)} {st : List mj_V} {σ : mj_S} (h1 : mj_okS σ) (h2 : mj_okL ls) (h3 : mj_okT st)
    (hK : ∀ pc' ls' st' σ', K pc' ls' st' σ' → mj_okS σ' → mj_okL ls' → mj_okT st' → mj_G p l e R s m args below meth c kc ks nL D cl cA ad L Af Q pc' ls' st' σ') 
    (hi : mj_is cl own Ts NW Ms cc pc (41, a, b, t)) (hs : mj_step L C ret Q K (41, a, b, t) pc ls st σ) : mj_G p l e R s m args below meth c kc ks nL D cl cA ad L Af Q pc ls st σ := by
  obtain ⟨hx, hb, hml, hown, hts, hret, hlk, hKK, hDD, hAf⟩ := X
  intro H locs real hl hP hS
  obtain ⟨x, y, st', rfl, hk⟩ := hs
  have hy1 : mj_rl y := mj_okT_hd h3
  have hx1 : mj_rl x := mj_okT_hd (mj_okT_tl h3)
  have k := hK _ _ _ _ hk h1 h2 (mj_okT_cons (v := .inl (if y < x then 1 else if x = y then 0 else -1)) (by show mj_r _; unfold mj_r; repeat' split <;> omega) (mj_okT_tl (mj_okT_tl h3))) H locs real hl hP hS
  have k : W p l e R s m args below meth c H locs kc ks _ (F0 m (pc + 1) real (.int (Int32.ofInt (if y < x then 1 else if x = y then 0 else -1)) :: st'.map (mj_v ad))) := k
  rw [← mj_lcmp hx1 hy1] at k
  exact W.lcmp hx hb hi k
theorem mj_k42 (X : mj_X p s m args meth c cc nL own Ts ret D cl cA ad L Af) {Q : mj_Q} {K : Nat → List (Option mj_V) → List mj_V → mj_S → Prop} {a : Int} {b : Nat} {t : List (Int × Nat)} {pc : Nat} {ls : List (Option mj_V)} {st : List mj_V} {σ : mj_S} (h1 : mj_okS σ) (h2 : mj_okL ls) (h3 : mj_okT st)
    (hK : ∀ pc' ls' st' σ', K pc' ls' st' σ' → mj_okS σ' → mj_okL ls' → mj_okT st' → mj_G p l e R s m args below meth c kc ks nL D cl cA ad L Af Q pc' ls' st' σ') 
    (hi : mj_is cl own Ts NW Ms cc pc (42, a, b, t)) (hs : mj_step L C ret Q K (42, a, b, t) pc ls st σ) : mj_G p l e R s m args below meth c kc ks nL D cl cA ad L Af Q pc ls st σ := by
  obtain ⟨hx, hb, hml, hown, hts, hret, hlk, hKK, hDD, hAf⟩ := X
  intro H locs real hl hP hS
  obtain ⟨hr, hk⟩ := hs
  have k := hK _ _ _ _ hk h1 h2 (mj_okT_cons (v := .inr (.inr a)) hr h3) H locs real hl hP hS
  rcases hi with ⟨kk, hd, hz, hb9⟩ | ⟨i, hd, hb9, hw⟩
  · dsimp only at hd hz hb9 k
    subst hb9
    exact lv_lconst hx hb hd (by rw [← hz, Int64.ofInt_eq_ofNat]) k
  · dsimp only at hd hw hb9 k
    subst hb9
    exact lv_ldc2 hx hb hown (hts _ hw) hd k
theorem mj_k44 (X : mj_X p s m args meth c cc nL own Ts ret D cl cA ad L Af) {Q : mj_Q} {K : Nat → List (Option mj_V) → List mj_V → mj_S → Prop} {a : Int} {b : Nat} {t : List (Int × Nat)} {pc : Nat} {ls : List (Option mj_V)} {st : List mj_V} {σ : mj_S} (h1 : mj_okS σ) (h2 : mj_okL ls) (h3 : mj_okT st)
    (hK : ∀ pc' ls' st' σ', K pc' ls' st' σ' → mj_okS σ' → mj_okL ls' → mj_okT st' → mj_G p l e R s m args below meth c kc ks nL D cl cA ad L Af Q pc' ls' st' σ') (hF : 1 ≤ R.frames) (hLo : 64 ≤ R.locals) (hkc : kc ≤ R.cells) (hks : ks ≤ R.slots)
    (hi : mj_is cl own Ts NW Ms cc pc (44, a, b, t)) (hs : mj_step L C ret Q K (44, a, b, t) pc ls st σ) : mj_G p l e R s m args below meth c kc ks nL D cl cA ad L Af Q pc ls st σ := by
  obtain ⟨hx, hb, hml, hown, hts, hret, hlk, hKK, hDD, hAf⟩ := X
  intro H locs real hl hP hS
  obtain ⟨x, y, st', rfl, hz, hk⟩ := hs
  obtain ⟨i, hd, w1, w2, w3, w4⟩ := hi
  have hy1 : mj_r y := mj_okT_hd h3
  have hx1 : mj_r x := mj_okT_hd (mj_okT_tl h3)
  have k := hK _ _ _ _ hk h1 h2 (mj_okT_cons (v := .inl (if x < y then y else x)) (by show mj_r _; split <;> assumption) (mj_okT_tl (mj_okT_tl h3))) H locs real hl hP hS
  have k : W p l e R s m args below meth c H locs kc ks _ (F0 m (pc + 3) real (.int (Int32.ofInt (if x < y then y else x)) :: st'.map (mj_v ad))) := k
  have e9 : Int32.ofInt (if x < y then y else x) = if Int32.ofInt x < Int32.ofInt y then Int32.ofInt y else Int32.ofInt x := by
    by_cases h : x < y
    · rw [if_pos h, if_pos ((mj_lt hx1 hy1).mpr h)]
    · rw [if_neg h, if_neg (fun q => h ((mj_lt hx1 hy1).mp q))]
  rw [e9] at k
  exact va_mmax hx hb (by rw [hml]; exact hl.2.1.symm) hown (hts _ w1) (hts _ w2) (hts _ w3) (hts _ w4) hF (by rw [mj_sum]; omega) hkc hks hd k
theorem mj_k45 (X : mj_X p s m args meth c cc nL own Ts ret D cl cA ad L Af) {Q : mj_Q} {K : Nat → List (Option mj_V) → List mj_V → mj_S → Prop} {a : Int} {b : Nat} {t : List (Int × Nat)} {pc : Nat} {ls : List (Option mj_V)} {st : List mj_V} {σ : mj_S} (h1 : mj_okS σ) (h2 : mj_okL ls) (h3 : mj_okT st)
    (hK : ∀ pc' ls' st' σ', K pc' ls' st' σ' → mj_okS σ' → mj_okL ls' → mj_okT st' → mj_G p l e R s m args below meth c kc ks nL D cl cA ad L Af Q pc' ls' st' σ') (hF : 1 ≤ R.frames) (hLo : 64 ≤ R.locals) (hkc : kc ≤ R.cells) (hks : ks ≤ R.slots)
    (hi : mj_is cl own Ts NW Ms cc pc (45, a, b, t)) (hs : mj_step L C ret Q K (45, a, b, t) pc ls st σ) : mj_G p l e R s m args below meth c kc ks nL D cl cA ad L Af Q pc ls st σ := by
  obtain ⟨hx, hb, hml, hown, hts, hret, hlk, hKK, hDD, hAf⟩ := X
  intro H locs real hl hP hS
  obtain ⟨x, y, st', rfl, hz, hk⟩ := hs
  obtain ⟨i, hd, w1, w2, w3, w4⟩ := hi
  have hy1 : mj_r y := mj_okT_hd h3
  have hx1 : mj_r x := mj_okT_hd (mj_okT_tl h3)
  have k := hK _ _ _ _ hk h1 h2 (mj_okT_cons (v := .inl (if y < x then y else x)) (by show mj_r _; split <;> assumption) (mj_okT_tl (mj_okT_tl h3))) H locs real hl hP hS
  have k : W p l e R s m args below meth c H locs kc ks _ (F0 m (pc + 3) real (.int (Int32.ofInt (if y < x then y else x)) :: st'.map (mj_v ad))) := k
  have e9 : Int32.ofInt (if y < x then y else x) = if Int32.ofInt y < Int32.ofInt x then Int32.ofInt y else Int32.ofInt x := by
    by_cases h : y < x
    · rw [if_pos h, if_pos ((mj_lt hy1 hx1).mpr h)]
    · rw [if_neg h, if_neg (fun q => h ((mj_lt hy1 hx1).mp q))]
  rw [e9] at k
  exact va_mmin hx hb (by rw [hml]; exact hl.2.1.symm) hown (hts _ w1) (hts _ w2) (hts _ w3) (hts _ w4) hF (by rw [mj_sum]; omega) hkc hks hd k
theorem mj_k46 (X : mj_X p s m args meth c cc nL own Ts ret D cl cA ad L Af) {Q : mj_Q} {K : Nat → List (Option mj_V) → List mj_V → mj_S → Prop} {a : Int} {b : Nat} {t : List (Int × Nat)} {pc : Nat} {ls : List (Option mj_V)} {st : List mj_V} {σ : mj_S} (h1 : mj_okS σ) (h2 : mj_okL ls) (h3 : mj_okT st)
    (hK : ∀ pc' ls' st' σ', K pc' ls' st' σ' → mj_okS σ' → mj_okL ls' → mj_okT st' → mj_G p l e R s m args below meth c kc ks nL D cl cA ad L Af Q pc' ls' st' σ') (hF : 1 ≤ R.frames) (hLo : 64 ≤ R.locals)
    (hi : mj_is cl own Ts NW Ms cc pc (46, a, b, t)) (hs : mj_step L C ret Q K (46, a, b, t) pc ls st σ) : mj_G p l e R s m args below meth c kc ks nL D cl cA ad L Af Q pc ls st σ := by
  obtain ⟨hx, hb, hml, hown, hts, hret, hlk, hKK, hDD, hAf⟩ := X
  intro H locs real hl hP hS
  obtain ⟨n, dp, q1, sp, q0, n1, n0, ty, st', rfl, hq0, hq1, hty, g1, g2, g3, g4, g5, hft, hz, hk⟩ := hs
  obtain ⟨i, hd, w1, w2, w3, w4⟩ := hi
  have hn : mj_r n := mj_okT_hd h3
  have hdp : mj_r dp := mj_okT_hd (mj_okT_tl h3)
  have hsp : mj_r sp := mj_okT_hd (mj_okT_tl (mj_okT_tl (mj_okT_tl h3)))
  obtain ⟨t0, ht0⟩ := mj_ty_in (cA := cA) hty
  refine va_copyi (f := fun i => Int32.ofInt (σ q0 i)) (g := fun i => Int32.ofInt (σ q1 i)) (ty := ty) hx hb (by rw [hml]; exact hl.2.1.symm) hown (hts _ w1) (hts _ w2) (hts _ w3) (hts _ w4) hKK hP (mj_va_D2 hDD hAf σ) hS q0 q1 t0 t0 (mj_w_some hq0) (mj_w_some hq1) ht0 ht0 (mj_prim hty) (mj_neg hsp g3) (mj_neg hdp g2) (mj_neg hn g1) (by rw [mj_cl hsp, mj_cl hn]; omega) (by rw [mj_cl hdp, mj_cl hn]; omega) (fun j hj => ?_) hF (by rw [mj_sum, show nativeFrameWords "java/lang/System" "arraycopy" 5 = 7 from by decide]; omega) hd (fun H1 locs1 hP1 hD1 hS1 => ?_)
  · rw [mj_cl hn] at hj
    rw [mj_cl hsp]
    exact mj_fits (h1 _ _) (hft j hj)
  · rw [mj_cl hsp, mj_cl hdp, mj_cl hn] at hP1
    rw [← mj_e_cp (cA := cA) (ad := ad), mj_w_upd hq1 mj_cp_off] at hP1
    exact hK _ _ _ _ hk (mj_cp_ok h1) h2 (mj_okT_tl (mj_okT_tl (mj_okT_tl (mj_okT_tl (mj_okT_tl h3))))) H1 locs1 real hl hP1 hS1
theorem mj_k50 (X : mj_X p s m args meth c cc nL own Ts ret D cl cA ad L Af) {Q : mj_Q} {K : Nat → List (Option mj_V) → List mj_V → mj_S → Prop} {a : Int} {b : Nat} {t : List (Int × Nat)} {pc : Nat} {ls : List (Option mj_V)} {st : List mj_V} {σ : mj_S} (h1 : mj_okS σ) (h2 : mj_okL ls) (h3 : mj_okT st)
    (hK : ∀ pc' ls' st' σ', K pc' ls' st' σ' → mj_okS σ' → mj_okL ls' → mj_okT st' → mj_G p l e R s m args below meth c kc ks nL D cl cA ad L Af Q pc' ls' st' σ') 
    (hi : mj_is cl own Ts NW Ms cc pc (50, a, b, t)) (hs : mj_step L C ret Q K (50, a, b, t) pc ls st σ) : mj_G p l e R s m args below meth c kc ks nL D cl cA ad L Af Q pc ls st σ := by
  obtain ⟨hx, hb, hml, hown, hts, hret, hlk, hKK, hDD, hAf⟩ := X
  intro H locs real hl hP hS
  obtain ⟨x, st', rfl, kt, kf⟩ := hs
  have hx1 : mj_r x := mj_okT_hd h3
  have h4 := mj_okT_tl h3
  exact lv_if_eq hx hb hi (by dsimp only; omega) (fun h => hK _ _ _ _ (kt ((mj_eq hx1 mj_0).mp h)) h1 h2 h4 H locs real hl hP hS) (fun h => hK _ _ _ _ (kf (fun q => h ((mj_eq hx1 mj_0).mpr q))) h1 h2 h4 H locs real hl hP hS)
theorem mj_k60 (X : mj_X p s m args meth c cc nL own Ts ret D cl cA ad L Af) {Q : mj_Q} {K : Nat → List (Option mj_V) → List mj_V → mj_S → Prop} {a : Int} {b : Nat} {t : List (Int × Nat)} {pc : Nat} {ls : List (Option mj_V)} {st : List mj_V} {σ : mj_S} (h1 : mj_okS σ) (h2 : mj_okL ls) (h3 : mj_okT st)
    (hK : ∀ pc' ls' st' σ', K pc' ls' st' σ' → mj_okS σ' → mj_okL ls' → mj_okT st' → mj_G p l e R s m args below meth c kc ks nL D cl cA ad L Af Q pc' ls' st' σ') 
    (hi : mj_is cl own Ts NW Ms cc pc (60, a, b, t)) (hs : mj_step L C ret Q K (60, a, b, t) pc ls st σ) : mj_G p l e R s m args below meth c kc ks nL D cl cA ad L Af Q pc ls st σ := by
  obtain ⟨hx, hb, hml, hown, hts, hret, hlk, hKK, hDD, hAf⟩ := X
  intro H locs real hl hP hS
  obtain ⟨x, y, st', rfl, kt, kf⟩ := hs
  have hy1 : mj_r y := mj_okT_hd h3
  have hx1 : mj_r x := mj_okT_hd (mj_okT_tl h3)
  have h4 := mj_okT_tl (mj_okT_tl h3)
  exact lv_icmp_eq hx hb hi (by dsimp only; omega) (fun h => hK _ _ _ _ (kt ((mj_eq hx1 hy1).mp h)) h1 h2 h4 H locs real hl hP hS) (fun h => hK _ _ _ _ (kf (fun q => h ((mj_eq hx1 hy1).mpr q))) h1 h2 h4 H locs real hl hP hS)
theorem mj_k51 (X : mj_X p s m args meth c cc nL own Ts ret D cl cA ad L Af) {Q : mj_Q} {K : Nat → List (Option mj_V) → List mj_V → mj_S → Prop} {a : Int} {b : Nat} {t : List (Int × Nat)} {pc : Nat} {ls : List (Option mj_V)} {st : List mj_V} {σ : mj_S} (h1 : mj_okS σ) (h2 : mj_okL ls) (h3 : mj_okT st)
    (hK : ∀ pc' ls' st' σ', K pc' ls' st' σ' → mj_okS σ' → mj_okL ls' → mj_okT st' → mj_G p l e R s m args below meth c kc ks nL D cl cA ad L Af Q pc' ls' st' σ') 
    (hi : mj_is cl own Ts NW Ms cc pc (51, a, b, t)) (hs : mj_step L C ret Q K (51, a, b, t) pc ls st σ) : mj_G p l e R s m args below meth c kc ks nL D cl cA ad L Af Q pc ls st σ := by
  obtain ⟨hx, hb, hml, hown, hts, hret, hlk, hKK, hDD, hAf⟩ := X
  intro H locs real hl hP hS
  obtain ⟨x, st', rfl, kt, kf⟩ := hs
  have hx1 : mj_r x := mj_okT_hd h3
  have h4 := mj_okT_tl h3
  exact lv_if_ne hx hb hi (by dsimp only; omega) (fun h => hK _ _ _ _ (kt (fun q => h ((mj_eq hx1 mj_0).mpr q))) h1 h2 h4 H locs real hl hP hS) (fun h => hK _ _ _ _ (kf ((mj_eq hx1 mj_0).mp h)) h1 h2 h4 H locs real hl hP hS)
theorem mj_k61 (X : mj_X p s m args meth c cc nL own Ts ret D cl cA ad L Af) {Q : mj_Q} {K : Nat → List (Option mj_V) → List mj_V → mj_S → Prop} {a : Int} {b : Nat} {t : List (Int × Nat)} {pc : Nat} {ls : List (Option mj_V)} {st : List mj_V} {σ : mj_S} (h1 : mj_okS σ) (h2 : mj_okL ls) (h3 : mj_okT st)
    (hK : ∀ pc' ls' st' σ', K pc' ls' st' σ' → mj_okS σ' → mj_okL ls' → mj_okT st' → mj_G p l e R s m args below meth c kc ks nL D cl cA ad L Af Q pc' ls' st' σ') 
    (hi : mj_is cl own Ts NW Ms cc pc (61, a, b, t)) (hs : mj_step L C ret Q K (61, a, b, t) pc ls st σ) : mj_G p l e R s m args below meth c kc ks nL D cl cA ad L Af Q pc ls st σ := by
  obtain ⟨hx, hb, hml, hown, hts, hret, hlk, hKK, hDD, hAf⟩ := X
  intro H locs real hl hP hS
  obtain ⟨x, y, st', rfl, kt, kf⟩ := hs
  have hy1 : mj_r y := mj_okT_hd h3
  have hx1 : mj_r x := mj_okT_hd (mj_okT_tl h3)
  have h4 := mj_okT_tl (mj_okT_tl h3)
  exact lv_icmp_ne hx hb hi (by dsimp only; omega) (fun h => hK _ _ _ _ (kt (fun q => h ((mj_eq hx1 hy1).mpr q))) h1 h2 h4 H locs real hl hP hS) (fun h => hK _ _ _ _ (kf ((mj_eq hx1 hy1).mp h)) h1 h2 h4 H locs real hl hP hS)
theorem mj_k52 (X : mj_X p s m args meth c cc nL own Ts ret D cl cA ad L Af) {Q : mj_Q} {K : Nat → List (Option mj_V) → List mj_V → mj_S → Prop} {a : Int} {b : Nat} {t : List (Int × Nat)} {pc : Nat} {ls : List (Option mj_V)} {st : List mj_V} {σ : mj_S} (h1 : mj_okS σ) (h2 : mj_okL ls) (h3 : mj_okT st)
    (hK : ∀ pc' ls' st' σ', K pc' ls' st' σ' → mj_okS σ' → mj_okL ls' → mj_okT st' → mj_G p l e R s m args below meth c kc ks nL D cl cA ad L Af Q pc' ls' st' σ') 
    (hi : mj_is cl own Ts NW Ms cc pc (52, a, b, t)) (hs : mj_step L C ret Q K (52, a, b, t) pc ls st σ) : mj_G p l e R s m args below meth c kc ks nL D cl cA ad L Af Q pc ls st σ := by
  obtain ⟨hx, hb, hml, hown, hts, hret, hlk, hKK, hDD, hAf⟩ := X
  intro H locs real hl hP hS
  obtain ⟨x, st', rfl, kt, kf⟩ := hs
  have hx1 : mj_r x := mj_okT_hd h3
  have h4 := mj_okT_tl h3
  exact lv_if_lt hx hb hi (by dsimp only; omega) (fun h => hK _ _ _ _ (kt ((mj_lt hx1 mj_0).mp h)) h1 h2 h4 H locs real hl hP hS) (fun h => hK _ _ _ _ (kf (by have q : ¬ (x < 0) := fun z => h ((mj_lt hx1 mj_0).mpr z); omega)) h1 h2 h4 H locs real hl hP hS)
theorem mj_k62 (X : mj_X p s m args meth c cc nL own Ts ret D cl cA ad L Af) {Q : mj_Q} {K : Nat → List (Option mj_V) → List mj_V → mj_S → Prop} {a : Int} {b : Nat} {t : List (Int × Nat)} {pc : Nat} {ls : List (Option mj_V)} {st : List mj_V} {σ : mj_S} (h1 : mj_okS σ) (h2 : mj_okL ls) (h3 : mj_okT st)
    (hK : ∀ pc' ls' st' σ', K pc' ls' st' σ' → mj_okS σ' → mj_okL ls' → mj_okT st' → mj_G p l e R s m args below meth c kc ks nL D cl cA ad L Af Q pc' ls' st' σ') 
    (hi : mj_is cl own Ts NW Ms cc pc (62, a, b, t)) (hs : mj_step L C ret Q K (62, a, b, t) pc ls st σ) : mj_G p l e R s m args below meth c kc ks nL D cl cA ad L Af Q pc ls st σ := by
  obtain ⟨hx, hb, hml, hown, hts, hret, hlk, hKK, hDD, hAf⟩ := X
  intro H locs real hl hP hS
  obtain ⟨x, y, st', rfl, kt, kf⟩ := hs
  have hy1 : mj_r y := mj_okT_hd h3
  have hx1 : mj_r x := mj_okT_hd (mj_okT_tl h3)
  have h4 := mj_okT_tl (mj_okT_tl h3)
  exact lv_icmp_lt hx hb hi (by dsimp only; omega) (fun h => hK _ _ _ _ (kt ((mj_lt hx1 hy1).mp h)) h1 h2 h4 H locs real hl hP hS) (fun h => hK _ _ _ _ (kf (by have q : ¬ (x < y) := fun z => h ((mj_lt hx1 hy1).mpr z); omega)) h1 h2 h4 H locs real hl hP hS)
theorem mj_k53 (X : mj_X p s m args meth c cc nL own Ts ret D cl cA ad L Af) {Q : mj_Q} {K : Nat → List (Option mj_V) → List mj_V → mj_S → Prop} {a : Int} {b : Nat} {t : List (Int × Nat)} {pc : Nat} {ls : List (Option mj_V)} {st : List mj_V} {σ : mj_S} (h1 : mj_okS σ) (h2 : mj_okL ls) (h3 : mj_okT st)
    (hK : ∀ pc' ls' st' σ', K pc' ls' st' σ' → mj_okS σ' → mj_okL ls' → mj_okT st' → mj_G p l e R s m args below meth c kc ks nL D cl cA ad L Af Q pc' ls' st' σ') 
    (hi : mj_is cl own Ts NW Ms cc pc (53, a, b, t)) (hs : mj_step L C ret Q K (53, a, b, t) pc ls st σ) : mj_G p l e R s m args below meth c kc ks nL D cl cA ad L Af Q pc ls st σ := by
  obtain ⟨hx, hb, hml, hown, hts, hret, hlk, hKK, hDD, hAf⟩ := X
  intro H locs real hl hP hS
  obtain ⟨x, st', rfl, kt, kf⟩ := hs
  have hx1 : mj_r x := mj_okT_hd h3
  have h4 := mj_okT_tl h3
  exact lv_if_ge hx hb hi (by dsimp only; omega) (fun h => hK _ _ _ _ (kt ((mj_le mj_0 hx1).mp h)) h1 h2 h4 H locs real hl hP hS) (fun h => hK _ _ _ _ (kf (by have q : ¬ (0 ≤ x) := fun z => h ((mj_le mj_0 hx1).mpr z); omega)) h1 h2 h4 H locs real hl hP hS)
theorem mj_k63 (X : mj_X p s m args meth c cc nL own Ts ret D cl cA ad L Af) {Q : mj_Q} {K : Nat → List (Option mj_V) → List mj_V → mj_S → Prop} {a : Int} {b : Nat} {t : List (Int × Nat)} {pc : Nat} {ls : List (Option mj_V)} {st : List mj_V} {σ : mj_S} (h1 : mj_okS σ) (h2 : mj_okL ls) (h3 : mj_okT st)
    (hK : ∀ pc' ls' st' σ', K pc' ls' st' σ' → mj_okS σ' → mj_okL ls' → mj_okT st' → mj_G p l e R s m args below meth c kc ks nL D cl cA ad L Af Q pc' ls' st' σ') 
    (hi : mj_is cl own Ts NW Ms cc pc (63, a, b, t)) (hs : mj_step L C ret Q K (63, a, b, t) pc ls st σ) : mj_G p l e R s m args below meth c kc ks nL D cl cA ad L Af Q pc ls st σ := by
  obtain ⟨hx, hb, hml, hown, hts, hret, hlk, hKK, hDD, hAf⟩ := X
  intro H locs real hl hP hS
  obtain ⟨x, y, st', rfl, kt, kf⟩ := hs
  have hy1 : mj_r y := mj_okT_hd h3
  have hx1 : mj_r x := mj_okT_hd (mj_okT_tl h3)
  have h4 := mj_okT_tl (mj_okT_tl h3)
  exact lv_icmp_ge hx hb hi (by dsimp only; omega) (fun h => hK _ _ _ _ (kt ((mj_le hy1 hx1).mp h)) h1 h2 h4 H locs real hl hP hS) (fun h => hK _ _ _ _ (kf (by have q : ¬ (y ≤ x) := fun z => h ((mj_le hy1 hx1).mpr z); omega)) h1 h2 h4 H locs real hl hP hS)
theorem mj_k54 (X : mj_X p s m args meth c cc nL own Ts ret D cl cA ad L Af) {Q : mj_Q} {K : Nat → List (Option mj_V) → List mj_V → mj_S → Prop} {a : Int} {b : Nat} {t : List (Int × Nat)} {pc : Nat} {ls : List (Option mj_V)} {st : List mj_V} {σ : mj_S} (h1 : mj_okS σ) (h2 : mj_okL ls) (h3 : mj_okT st)
    (hK : ∀ pc' ls' st' σ', K pc' ls' st' σ' → mj_okS σ' → mj_okL ls' → mj_okT st' → mj_G p l e R s m args below meth c kc ks nL D cl cA ad L Af Q pc' ls' st' σ') 
    (hi : mj_is cl own Ts NW Ms cc pc (54, a, b, t)) (hs : mj_step L C ret Q K (54, a, b, t) pc ls st σ) : mj_G p l e R s m args below meth c kc ks nL D cl cA ad L Af Q pc ls st σ := by
  obtain ⟨hx, hb, hml, hown, hts, hret, hlk, hKK, hDD, hAf⟩ := X
  intro H locs real hl hP hS
  obtain ⟨x, st', rfl, kt, kf⟩ := hs
  have hx1 : mj_r x := mj_okT_hd h3
  have h4 := mj_okT_tl h3
  exact lv_if_gt hx hb hi (by dsimp only; omega) (fun h => hK _ _ _ _ (kt ((mj_lt mj_0 hx1).mp h)) h1 h2 h4 H locs real hl hP hS) (fun h => hK _ _ _ _ (kf (by have q : ¬ (0 < x) := fun z => h ((mj_lt mj_0 hx1).mpr z); omega)) h1 h2 h4 H locs real hl hP hS)
theorem mj_k64 (X : mj_X p s m args meth c cc nL own Ts ret D cl cA ad L Af) {Q : mj_Q} {K : Nat → List (Option mj_V) → List mj_V → mj_S → Prop} {a : Int} {b : Nat} {t : List (Int × Nat)} {pc : Nat} {ls : List (Option mj_V)} {st : List mj_V} {σ : mj_S} (h1 : mj_okS σ) (h2 : mj_okL ls) (h3 : mj_okT st)
    (hK : ∀ pc' ls' st' σ', K pc' ls' st' σ' → mj_okS σ' → mj_okL ls' → mj_okT st' → mj_G p l e R s m args below meth c kc ks nL D cl cA ad L Af Q pc' ls' st' σ') 
    (hi : mj_is cl own Ts NW Ms cc pc (64, a, b, t)) (hs : mj_step L C ret Q K (64, a, b, t) pc ls st σ) : mj_G p l e R s m args below meth c kc ks nL D cl cA ad L Af Q pc ls st σ := by
  obtain ⟨hx, hb, hml, hown, hts, hret, hlk, hKK, hDD, hAf⟩ := X
  intro H locs real hl hP hS
  obtain ⟨x, y, st', rfl, kt, kf⟩ := hs
  have hy1 : mj_r y := mj_okT_hd h3
  have hx1 : mj_r x := mj_okT_hd (mj_okT_tl h3)
  have h4 := mj_okT_tl (mj_okT_tl h3)
  exact lv_icmp_gt hx hb hi (by dsimp only; omega) (fun h => hK _ _ _ _ (kt ((mj_lt hy1 hx1).mp h)) h1 h2 h4 H locs real hl hP hS) (fun h => hK _ _ _ _ (kf (by have q : ¬ (y < x) := fun z => h ((mj_lt hy1 hx1).mpr z); omega)) h1 h2 h4 H locs real hl hP hS)
theorem mj_k55 (X : mj_X p s m args meth c cc nL own Ts ret D cl cA ad L Af) {Q : mj_Q} {K : Nat → List (Option mj_V) → List mj_V → mj_S → Prop} {a : Int} {b : Nat} {t : List (Int × Nat)} {pc : Nat} {ls : List (Option mj_V)} {st : List mj_V} {σ : mj_S} (h1 : mj_okS σ) (h2 : mj_okL ls) (h3 : mj_okT st)
    (hK : ∀ pc' ls' st' σ', K pc' ls' st' σ' → mj_okS σ' → mj_okL ls' → mj_okT st' → mj_G p l e R s m args below meth c kc ks nL D cl cA ad L Af Q pc' ls' st' σ') 
    (hi : mj_is cl own Ts NW Ms cc pc (55, a, b, t)) (hs : mj_step L C ret Q K (55, a, b, t) pc ls st σ) : mj_G p l e R s m args below meth c kc ks nL D cl cA ad L Af Q pc ls st σ := by
  obtain ⟨hx, hb, hml, hown, hts, hret, hlk, hKK, hDD, hAf⟩ := X
  intro H locs real hl hP hS
  obtain ⟨x, st', rfl, kt, kf⟩ := hs
  have hx1 : mj_r x := mj_okT_hd h3
  have h4 := mj_okT_tl h3
  exact lv_if_le hx hb hi (by dsimp only; omega) (fun h => hK _ _ _ _ (kt ((mj_le hx1 mj_0).mp h)) h1 h2 h4 H locs real hl hP hS) (fun h => hK _ _ _ _ (kf (by have q : ¬ (x ≤ 0) := fun z => h ((mj_le hx1 mj_0).mpr z); omega)) h1 h2 h4 H locs real hl hP hS)
theorem mj_k65 (X : mj_X p s m args meth c cc nL own Ts ret D cl cA ad L Af) {Q : mj_Q} {K : Nat → List (Option mj_V) → List mj_V → mj_S → Prop} {a : Int} {b : Nat} {t : List (Int × Nat)} {pc : Nat} {ls : List (Option mj_V)} {st : List mj_V} {σ : mj_S} (h1 : mj_okS σ) (h2 : mj_okL ls) (h3 : mj_okT st)
    (hK : ∀ pc' ls' st' σ', K pc' ls' st' σ' → mj_okS σ' → mj_okL ls' → mj_okT st' → mj_G p l e R s m args below meth c kc ks nL D cl cA ad L Af Q pc' ls' st' σ') 
    (hi : mj_is cl own Ts NW Ms cc pc (65, a, b, t)) (hs : mj_step L C ret Q K (65, a, b, t) pc ls st σ) : mj_G p l e R s m args below meth c kc ks nL D cl cA ad L Af Q pc ls st σ := by
  obtain ⟨hx, hb, hml, hown, hts, hret, hlk, hKK, hDD, hAf⟩ := X
  intro H locs real hl hP hS
  obtain ⟨x, y, st', rfl, kt, kf⟩ := hs
  have hy1 : mj_r y := mj_okT_hd h3
  have hx1 : mj_r x := mj_okT_hd (mj_okT_tl h3)
  have h4 := mj_okT_tl (mj_okT_tl h3)
  exact lv_icmp_le hx hb hi (by dsimp only; omega) (fun h => hK _ _ _ _ (kt ((mj_le hx1 hy1).mp h)) h1 h2 h4 H locs real hl hP hS) (fun h => hK _ _ _ _ (kf (by have q : ¬ (x ≤ y) := fun z => h ((mj_le hx1 hy1).mpr z); omega)) h1 h2 h4 H locs real hl hP hS)
end MJS
