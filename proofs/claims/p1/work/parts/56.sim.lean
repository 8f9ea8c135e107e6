/-! the code does what the small machine does -/
def mj_tys (cA : FieldType → ClassId) : List (ClassId × FieldType) := [(cA .int, .int), (cA .char, .char), (cA .boolean, .boolean)]
def mj_X (p : Program) (s : State) (m : MethodId) (args : Array Value) (meth : Method) (c : Code) (cc : ByteArray) (nL : Nat) (own : String) (Ts : List Jvm.Cond) (ret : Option FieldType) (D : va_G) (cl : List vw_C) (cA : FieldType → ClassId) (ad : Nat → Nat) (L : List mj_C) (Af : Nat → Prop) : Prop :=
  p.tables.exec = Jvm.exec ∧ c.code = cc ∧ c.maxLocals = nL ∧ s.vm.findClass own = some m.cls ∧ (∀ w ∈ Ts, w.before args s = true) ∧ meth.sig.returnType = ret ∧ meth.locks = false ∧ va_K D cl (mj_tys cA) s ∧ mj_D ad L ∧ ∀ q, mj_A ad L q → Af q
def mj_Pc (D : va_G) (cl : List vw_C) (cA : FieldType → ClassId) (ad : Nat → Nat) (L : List mj_C) (NW : List Jvm.Cond) (as : List mj_V) (σ : mj_S) : Array Value → State → Prop := va_Pc (as.map (mj_v ad)) (fun U => va_P D cl (mj_w cA ad L σ) U.heap ∧ va_K D cl (mj_tys cA) U ∧ ∀ w ∈ NW, va_Nw w U)
def mj_Qc (D : va_G) (cl : List vw_C) (cA : FieldType → ClassId) (ad : Nat → Nat) (L : List mj_C) (Af : Nat → Prop) (Q : mj_Q) : Array Value → State → Outcome → State → Prop := fun _ st oc t =>
  (∃ (r : Option mj_V) (σ' : mj_S), oc = .returned (r.map (mj_v ad)) ∧ Q r σ' ∧ (∀ v, r = some v → mj_okV v) ∧ mj_okS σ' ∧ va_P D cl (mj_w cA ad L σ') t.heap) ∧ va_F Af st t
section MJC
variable {p : Program} {l : Launch} {e : Env} {R : Room} {s : State} {m : MethodId} {args : Array Value} {below : List Frame} {meth : Method} {c : Code} {H : Heap} {locs : List Loc} {Q : State → Prop}
variable {pc kc ks : Nat} {ls : Array Slot} {rest st0 : List Value} {a : Array Value} {H0 : Heap} {D : va_G} {cl : List vw_C} {cA : FieldType → ClassId} {ad : Nat → Nat} {L : List mj_C} {Q' : mj_Q} {Af : Nat → Prop}
theorem mj_call (hr : va_Run p l e R s m args below meth c H locs kc ks 0 0 (F0 m pc ls st0) rest (mj_Qc D cl cA ad L (mj_A ad L) Q' a) (mj_A ad L)) (hAf : ∀ q, mj_A ad L q → Af q) (hS : va_S Af H0 H locs)
    (kk : ∀ (r : Option mj_V) (σ' : mj_S) (H1 : Heap) (locs1 : List Loc), Q' r σ' → (∀ v, r = some v → mj_okV v) → mj_okS σ' → va_P D cl (mj_w cA ad L σ') H1 → va_S Af H0 H1 locs1 → W p l e R s m args below meth c H1 locs1 kc ks Q (F0 m (pc + 3) ls ((r.map (mj_v ad)).toList ++ rest))) : W p l e R s m args below meth c H locs kc ks Q (F0 m pc ls st0) := by
  intro T hT X
  obtain ⟨v, st₀, t, T', L', h0, X', hL, e1, e2, ⟨⟨r, σ', hv, hq, hok, hoS, hP⟩, hz, hk⟩, st⟩ := hr T hT X
  cases hv
  rw [h0] at hz hk
  obtain ⟨t2, a1, b1⟩ := kk r σ' T'.heap (locs ++ L') hq hok hoS (by rw [e1]; exact hP)
    ⟨Nat.le_trans hS.1 (by rw [e1]; exact hz), fun q h1 h2 => by rw [e1, hk q (Nat.lt_of_lt_of_le h1 hS.1) (fun z => h2 (hAf q z))]; exact hS.2.1 q h1 h2, fun q hq => by
      rcases List.mem_append.mp hq with h | h
      · exact hS.2.2 q h
      · exact hAf _ (hL q h)⟩ T' rfl X'
  exact ⟨t2, st t2 a1, b1⟩
end MJC
theorem mj_va_D2 {cA : FieldType → ClassId} {ad : Nat → Nat} {L : List mj_C} {Af : Nat → Prop} (h : mj_D ad L) (hAf : ∀ q, mj_A ad L q → Af q) (σ : mj_S) : va_D Af (mj_w cA ad L σ) := (mj_va_D h σ).weaken (fun _ q _ z => hAf q.1 z)
