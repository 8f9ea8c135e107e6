/-! a form that is no definition: made into code, carried out, printed -/
theorem z_H_re {A B A' B' : Nat → Int} {st st' : Nat} {σ τ σ' τ' : mj_S} {be : Nat → Nat} {G : Nat → Bool} (h : z_H A B st σ τ be G) (hσ : ∀ q k, (q = 2 ∧ (k = 0 ∨ k = 9 ∨ k = 10)) ∨ q = 13 → σ' q k = σ q k) (hτ : ∀ q k, (q = 0 ∧ (k = 0 ∨ k = 12 ∨ k = 13)) ∨ q = 6 → τ' q k = τ q k) (hs : z_sa A' B' (σ' 11) (σ' 12) (τ' 4) (τ' 5) st') : z_H A' B' st' σ' τ' be (fun _ => false) := by
  obtain ⟨_, sz, fo, ga, U, tm, ck, HP, _, _, _⟩ := h
  obtain ⟨p1, p2, p3, p4, p5, p6, p7, p8, p9, p10, p11, p12, p13⟩ := HP
  refine ⟨hs, sz, fo, ga, U, tm, 0, ⟨by rw [hσ 2 0 (by omega)]; exact p1, by rw [hτ 0 0 (by omega)]; exact p2, p3, p4, by rw [hσ 2 9 (by omega)]; exact p5, p6, fun t ht => by rw [hσ 13 t (by omega)]; exact p7 t ht, fun t t' h1 h2 => by rw [hσ 13 t (by omega), hσ 13 t' (by omega)]; exact p8 t t' h1 h2, fun i hi => ?_, fun i hi => by rw [hτ 6 _ (by omega)]; exact p10 i hi, by rw [hτ 0 12 (by omega)]; exact p11, p12, by rw [hσ 2 10 (by omega), hτ 0 13 (by omega)]; exact p13⟩, fun j z => Bool.noConfusion z, fun j _ z => Bool.noConfusion z, fun j z => Bool.noConfusion z⟩
  have := p9 i hi
  refine ⟨fun u t ht => by rw [hσ 13 t (by omega)]; exact this.mp u t ht, fun u => this.mpr (fun t ht => by rw [← hσ 13 t (by omega)]; exact u t ht)⟩
/-- what a form that makes no function known may change -/
abbrev z_xf (q k : Nat) : Prop := q = 7 ∨ q = 8 ∨ (q = 2 ∧ (k = 9 ∨ k = 10 ∨ k = 11)) ∨ ((q = 11 ∨ q = 12) ∧ 400 ≤ k) ∨ (13 ≤ q ∧ q ≤ 17) ∨ (29 ≤ q ∧ q ≤ 34) ∨ (q = 4 ∧ k = 3) ∨ (q = 5 ∧ k = 4) ∨ (19 ≤ q ∧ q ≤ 23)
abbrev z_xg (q k : Nat) : Prop := (q = 0 ∧ (k = 5 ∨ k = 12 ∨ k = 13 ∨ k = 26 ∨ k = 31 ∨ k = 33 ∨ k = 36 ∨ k = 37 ∨ k = 38 ∨ k = 41 ∨ k = 42 ∨ k = 43 ∨ k = 44)) ∨ ((q = 4 ∨ q = 5) ∧ 400 ≤ k) ∨ (6 ≤ q ∧ q ≤ 8) ∨ (16 ≤ q ∧ q ≤ 24)
def z_FR (σ τ : mj_S) (e : Int) (σ' τ' : mj_S) : Prop :=
  τ' 0 5 = e ∧ 0 ≤ e ∧ e ≤ 11 ∧ (∀ q k, ¬ z_xf q k → σ' q k = σ q k) ∧ (∀ i : Nat, (i : Int) < σ 4 3 → σ' 19 i = σ 19 i ∧ σ' 20 i = σ 20 i ∧ σ' 21 i = σ 21 i) ∧ σ 4 3 ≤ σ' 4 3 ∧ (∀ q k, ¬ z_xg q k → τ' q k = τ q k) ∧ τ' 0 43 = τ 0 43 + (if e = 0 then 1 else 0) ∧ z_P σ' τ' ∧ (σ' 7 13 = τ' 0 42 ∧ 0 ≤ σ' 7 13 ∧ σ' 7 13 ≤ 100) ∧ (∃ S fuel : Nat, S ≤ fuel ∧ fuel ≤ 20000 ∧ (e = 0 → σ' 7 11 = fuel ∧ τ' 0 40 = fuel) ∧ σ' 7 12 = S ∧ τ' 0 41 = S) ∧ (∃ (A B : Nat → Int) (st : Nat) (be : Nat → Nat) (G : Nat → Bool), z_H A B st σ' τ' be G) ∧ (σ 2 10 ≤ σ' 2 10 ∧ σ' 2 10 + 20 * σ 7 12 ≤ σ 2 10 + 20 * σ' 7 12 + 20)
/-- what is known after a datum was read -/
def z_RE (C : Int) (σ1 τ1 σ τ : mj_S) (v : Int) : Prop :=
  z_R C True σ1 τ1 ∧ z_F 0 σ1 τ1 σ τ ∧ z_RD σ τ ∧ τ 0 5 = 0 ∧ 0 ≤ v ∧ (v < 536870912 → v < 268435456 + σ 1 2) ∧ z_D (σ 11) (σ 12) 536870912 (σ1 2 8).toNat (σ 2 8).toNat 12 (σ 2 8 - σ1 2 8).toNat v ∧ C ≤ 1400000000 ∧ σ1 0 8 < 300
theorem z_RE_dt {C : Int} {σ1 τ1 σ τ : mj_S} {v : Int} (h : z_RE C σ1 τ1 σ τ v) : ∃ s : Nat, s = (σ 2 8 - σ1 2 8).toNat ∧ z_D (z_zA σ) (σ 12) (z_bw (z_zA σ)) 0 (σ 2 8).toNat 12 s v := by
  have Y := h.2.2.1.2.1
  have S := h.2.2.1.2.2.1
  obtain ⟨s1, s2, s3, s4⟩ := S
  refine ⟨_, rfl, ?_⟩
  rw [z_zA_w Y.2.1 Y.2.2.1]
  refine z_D_frame (A := σ 11) (B := σ 12) (fun i _ _ h4 => ⟨z_zA_i σ (by omega), rfl⟩) (z_D_mono (Int.le_refl _) (Nat.zero_le _) (Nat.le_refl _) (Nat.le_refl _) (z_D_w (fun i _ hi h4 => ?_) h.2.2.2.2.2.1 h.2.2.2.2.2.2.1))
  obtain ⟨_, _, g3, g4⟩ := s4 i (by omega)
  exact ⟨g3, g4⟩
/-- functions, heap at that time -/
theorem z_RE_FN {C : Int} {σ1 τ1 σ τ : mj_S} {v : Int} (h : z_RE C σ1 τ1 σ τ v) : z_FN (z_zA σ) (σ 12) (σ 2 8).toNat (z_zK σ) σ τ := by
  obtain ⟨r1, r2, r3, r4, r5, r6, r7, r8, r9, r10, r11, r12⟩ := h.1
  obtain ⟨f1, f2, f3, f4, f5, f6, f7⟩ := h.2.1
  have Y := h.2.2.1.2.1
  refine z_FN_up (len := (σ1 4 3).toNat) (fun i i1 i2 => ?_) ?_ (by omega) (fun i hi => (z_zK_ge (by omega)).1) (fun i hi => ?_) (fun q k z => f1 q k (by omega)) (fun q k z => f2 q k (by omega)) r5
  · obtain ⟨e1, e2, _⟩ := f3 i (Or.inl (by have := r3.2.1; omega))
    rw [z_zA_i σ (by omega), z_zA_i σ1 (by omega)]
    exact ⟨e1, e2⟩
  · rw [z_zA_w r2.2.1 r2.2.2.1, z_zA_w Y.2.1 Y.2.2.1]; omega
  · obtain ⟨a1, a2, a3⟩ := z_zK_lt (σ := σ1) (i := i) (by omega)
    obtain ⟨b1, b2, b3⟩ := z_zK_lt (σ := σ) (i := i) (by rw [f1 4 3 (by omega)]; omega)
    exact ⟨by rw [a1, b1, f1 19 i (by omega)], by rw [a2, b2, f1 20 i (by omega)], by rw [a3, b3, f1 21 i (by omega)]⟩
/-- the reference: a form was looked at -/
theorem r_looked {τ τ' : mj_S} {v : Int} (h26 : τ 0 26 = ((0 : Nat) : Int)) (hg : z_gl (z_l1 τ 0 16 v 0 0) τ') (hend : τ' 0 26 = 0 ∨ ¬ τ' 0 5 = 0) {τb : mj_S} (hb : τ = mj_up τb 0 26 0) {d : Nat} {Q : mj_Q} (hq : Q none τ') : mj_B mjm_L mjm_Ms (d + 21) 27 [.inr (.inl 0), .inl v] τb Q := by
  refine wq_m27 (d := d + 19) (fun σ1 e1 => ?_)
  have e1' : σ1 = τ := by rw [e1, hb]
  rw [e1']
  refine ⟨by omega, by omega, Or.inl rfl, fun σ2 e2 => ?_⟩
  rw [e2, z_la_1 h26]
  refine hg d Q v (qw_m27_14 (d := d + 19) ⟨fun _ => hq, fun z => ⟨fun _ => hq, fun z2 => ?_⟩⟩)
  rcases hend with h | h
  · exact absurd z (by omega)
  · exact absurd z2 h
/-- code of a form is there -/
theorem z_made {σ3 σb : mj_S} {st s len len' k : Nat} {x pl : Int} {tl : Bool} {E : List (Int × Int)} {A B : Nat → Int} (hA : ∀ i, i < st → i < 400 → z_zA σ3 i = A i ∧ σ3 12 i = B i) (hD : z_D A B 536870912 0 st 12 s x) (hC : z_C A B (z_Kc σb) k E x pl tl len len') (h4 : σb 4 3 = len') (hl : len' < 2400) (o a n : Int) :
    (∀ q k, ¬ ((q = 4 ∧ k = 3) ∨ ((19 ≤ q ∧ q ≤ 21) ∧ k = len')) → z_put σb o a n q k = σb q k) ∧ z_put σb o a n 4 3 = (len' : Int) + 1 ∧ z_C (z_zA σ3) (σ3 12) (z_zK (z_put σb o a n)) k E x pl tl len len' ∧ z_in (z_zK (z_put σb o a n)) len' o a n := by
  have ep : z_put σb o a n = mj_up (mj_up (mj_up (mj_up σb 19 len' o) 20 len' a) 21 len' n) 4 3 ((len' : Int) + 1) := by
    unfold z_put
    rw [h4, if_pos (by omega), Int.toNat_natCast]
  have o1 : ∀ q k, ¬ ((q = 4 ∧ k = 3) ∨ ((19 ≤ q ∧ q ≤ 21) ∧ k = len')) → z_put σb o a n q k = σb q k := fun q k z => by rw [ep, mj_up_ne (by omega), mj_up_ne (by omega), mj_up_ne (by omega), mj_up_ne (by omega)]
  have o2 : z_put σb o a n 4 3 = (len' : Int) + 1 := by rw [ep, mj_up_eq]
  refine ⟨o1, o2, ?_, ?_⟩
  · have c1 := z_C_store (A' := z_zA σ3) (B' := σ3 12) (Int.le_refl _) hA k _ _ _ _ _ _ (Nat.le_refl 12) hD hC
    refine z_C_frame k _ _ _ _ _ _ (fun i i1 i2 => ?_) c1
    obtain ⟨a1, a2, a3⟩ := z_zK_lt (σ := z_put σb o a n) (i := i) (by rw [o2]; omega)
    exact ⟨by rw [a1, o1 19 i (by omega)]; rfl, by rw [a2, o1 20 i (by omega)]; rfl, by rw [a3, o1 21 i (by omega)]; rfl⟩
  · obtain ⟨a1, a2, a3⟩ := z_zK_lt (σ := z_put σb o a n) (i := len') (by rw [o2]; omega)
    refine ⟨by rw [a1, ep, mj_up_ne (by omega), mj_up_ne (by omega), mj_up_ne (by omega), mj_up_eq], by rw [a2, ep, mj_up_ne (by omega), mj_up_ne (by omega), mj_up_eq], by rw [a3, ep, mj_up_ne (by omega), mj_up_eq]⟩
/-- putting an instruction -/
theorem z_put_o {σ : mj_S} {len : Nat} (h : (len : Int) ≤ σ 4 3) {a b n : Int} : (∀ q k, ¬ ((q = 4 ∧ k = 3) ∨ ((19 ≤ q ∧ q ≤ 21) ∧ len ≤ k)) → z_put σ a b n q k = σ q k) ∧ σ 4 3 ≤ z_put σ a b n 4 3 := by
  unfold z_put
  split
  · refine ⟨fun q k z => ?_, ?_⟩
    · rw [mj_up_ne (by omega), mj_up_ne (by omega), mj_up_ne (by omega), mj_up_ne (by omega)]
    · rw [mj_up_eq]; omega
  · exact ⟨fun _ _ _ => rfl, Int.le_refl _⟩
/-- both look at a form -/
theorem x_look {C : Int} {σ1 τ1 σ τ : mj_S} {v : Int} (E : z_RE C σ1 τ1 σ τ v) : ∃ (st s len S fuel : Nat) (be : Nat → Nat), (σ 2 8).toNat = st ∧ st ≤ 400 ∧ s ≤ 400 ∧ σ 4 3 = len ∧ len + 3 * s + 3 ≤ 2400 ∧ len + 3 * s ≤ 3 * st ∧ z_D (σ 11) (σ 12) 536870912 0 st 12 s v ∧ z_D (z_zA σ) (σ 12) (z_bw (z_zA σ)) 0 st 12 s v ∧ z_FN (z_zA σ) (σ 12) st (z_zK σ) σ τ ∧ z_sa (z_zA σ) (σ 12) (σ 11) (σ 12) (τ 4) (τ 5) st ∧ z_SE st σ τ ∧ z_H (z_zA σ) (σ 12) st σ τ be (fun _ => false) ∧ (σ 7 13 = τ 0 42 ∧ 0 ≤ σ 7 13 ∧ σ 7 13 ≤ 100) ∧ (S ≤ fuel ∧ fuel ≤ 20000 ∧ σ 7 11 = fuel ∧ τ 0 40 = fuel ∧ σ 7 12 = S ∧ τ 0 41 = S) ∧ z_P σ τ ∧ (0 ≤ σ 2 10 ∧ σ 2 10 ≤ 1900000000) ∧ z_bw (z_zA σ) = 268435456 + σ 1 2 ∧ (σ 0 8 = τ 0 43 ∧ 0 ≤ σ 0 8 ∧ σ 0 8 < 300) ∧ 0 ≤ v ∧ v < 536871312 ∧ σ 2 8 = st ∧ τ 0 11 = st := by
  obtain ⟨r1, r2, r3, r4, r5, r6, r7, r8, r9, r10, r11, r12⟩ := E.1
  obtain ⟨f1, f2, f3, f4, f5, f6, f7⟩ := E.2.1
  obtain ⟨X, Y, So, At⟩ := E.2.2.1
  obtain ⟨s, es, hDw⟩ := z_RE_dt E
  have FN := z_RE_FN E
  have sa := z_So_sa So
  obtain ⟨be, hH1⟩ := r4
  obtain ⟨S, fuel, u1, u2, u34, u5, u6⟩ := r9
  obtain ⟨u3, u4⟩ := u34 trivial
  have hC := E.2.2.2.2.2.2.2.1
  have e43 : σ 4 3 = σ1 4 3 := f1 4 3 (by omega)
  have s1 := So.1
  have s2 := So.2.1
  have s3 := So.2.2.1
  have q2 := r3.2.1
  have e712 : σ 7 12 = S := by rw [f1 7 12 (by omega)]; exact u5
  refine ⟨(σ 2 8).toNat, s, (σ 4 3).toNat, S, fuel, be, rfl, by omega, by omega, by omega, by omega, by omega, z_D_mono (Int.le_refl _) (Nat.zero_le _) (Nat.le_refl _) (Nat.le_refl _) (by rw [es]; exact E.2.2.2.2.2.2.1), hDw, FN, sa, fun i hi => ?_, z_H_re hH1 (fun q k z => f1 q k (by omega)) (fun q k z => f2 q k (by omega)) sa, ?_, ⟨u1, u2, ?_, ?_, e712, ?_⟩, ⟨?_, ?_, ?_, fun i hi => ?_⟩, ⟨?_, ?_⟩, z_zA_w Y.2.1 Y.2.2.1, ?_, E.2.2.2.2.1, ?_, by omega, by omega⟩
  · obtain ⟨g1, g2, _⟩ := So.2.2.2 i (by omega)
    exact ⟨g1.symm, g2.symm⟩
  · rw [f1 7 13 (by omega), f2 0 42 (by omega)]; exact r8
  · rw [f1 7 11 (by omega)]; exact u3
  · rw [f2 0 40 (by omega)]; exact u4
  · rw [f2 0 41 (by omega)]; exact u6
  · rw [f1 8 4 (by omega), f2 0 44 (by omega)]; exact r7.1
  · rw [f1 8 4 (by omega)]; exact r7.2.1
  · rw [f1 8 4 (by omega)]; exact r7.2.2.1
  · rw [f1 8 4 (by omega)] at hi
    rw [f1 33 i (by omega), f2 24 i (by omega)]; exact r7.2.2.2 i hi
  · rw [f1 2 10 (by omega)]; exact r11
  · rw [f1 2 10 (by omega)]; omega
  · rw [f1 0 8 (by omega), f2 0 43 (by omega)]; exact ⟨r10.1, r10.2, E.2.2.2.2.2.2.2.2⟩
  · exact (z_D_r (Int.le_refl _) E.2.2.2.2.2.2.1).2
/-- nothing but code was made, and the reference found an error -/
theorem z_FR_e {σ τ σ' τ' : mj_S} {e : Int} {A B : Nat → Int} {st : Nat} {be : Nat → Nat} {G : Nat → Bool} (he : τ' 0 5 = e) (h1 : 1 ≤ e) (h2 : e ≤ 11) (fσ : ∀ q k, ¬ ((q = 4 ∧ k = 3) ∨ (q = 5 ∧ k = 4) ∨ (19 ≤ q ∧ q ≤ 23) ∨ (q = 2 ∧ k = 11) ∨ (16 ≤ q ∧ q ≤ 17)) → σ' q k = σ q k) (hc : ∀ i : Nat, (i : Int) < σ 4 3 → σ' 19 i = σ 19 i ∧ σ' 20 i = σ 20 i ∧ σ' 21 i = σ 21 i) (hl : σ 4 3 ≤ σ' 4 3) (fτ : ∀ q k, ¬ ((q = 0 ∧ (k = 5 ∨ k = 26 ∨ k = 33 ∨ k = 36)) ∨ (16 ≤ q ∧ q ≤ 19) ∨ q = 21 ∨ q = 22 ∨ q = 8) → τ' q k = τ q k) (hH : z_H A B st σ τ be G) (hmo : σ 7 13 = τ 0 42 ∧ 0 ≤ σ 7 13 ∧ σ 7 13 ≤ 100) (hS : ∃ S fuel : Nat, S ≤ fuel ∧ fuel ≤ 20000 ∧ σ 7 11 = fuel ∧ τ 0 40 = fuel ∧ σ 7 12 = S ∧ τ 0 41 = S) (hP : z_P σ τ) : z_FR σ τ e σ' τ' := by
  obtain ⟨p1, p2, p3, p4⟩ := hP
  obtain ⟨S, fuel, u1, u2, u3, u4, u5, u6⟩ := hS
  refine ⟨he, by omega, h2, fun q k z => fσ q k (by omega), hc, hl, fun q k z => fτ q k (by omega), ?_, ⟨?_, ?_, ?_, fun i hi => ?_⟩, ?_, ⟨S, fuel, u1, u2, fun z => absurd z (by omega), ?_, ?_⟩, ⟨A, B, st, be, G, z_H_fr (fun q k z => fσ q k (by omega)) (fun q k z => fτ q k (by omega)) hH⟩, ?_, ?_⟩
  · rw [fτ 0 43 (by omega), if_neg (by omega)]; omega
  · rw [fσ 8 4 (by omega), fτ 0 44 (by omega)]; exact p1
  · rw [fσ 8 4 (by omega)]; exact p2
  · rw [fσ 8 4 (by omega)]; exact p3
  · rw [fσ 8 4 (by omega)] at hi
    rw [fσ 33 i (by omega), fτ 24 i (by omega)]; exact p4 i hi
  · rw [fσ 7 13 (by omega), fτ 0 42 (by omega)]; exact hmo
  · rw [fσ 7 12 (by omega)]; exact u5
  · rw [fτ 0 41 (by omega)]; exact u6
  · rw [fσ 2 10 (by omega)]; exact Int.le_refl _
  · rw [fσ 2 10 (by omega), fσ 7 12 (by omega)]; omega
/-- a value was printed -/
theorem z_FR_p {σ τ σ2 τ2 σ' τ' : mj_S} {S' : Nat} {A B : Nat → Int} {st : Nat} {be : Nat → Nat} {G : Nat → Bool} (e2 : τ2 0 5 = 0) (fσ2 : ∀ q k, ¬ z_xf q k → σ2 q k = σ q k) (hc : ∀ i : Nat, (i : Int) < σ 4 3 → σ2 19 i = σ 19 i ∧ σ2 20 i = σ 20 i ∧ σ2 21 i = σ 21 i) (hl : σ 4 3 ≤ σ2 4 3) (fτ2 : ∀ q k, ¬ z_xg q k → τ2 q k = τ q k) (h43 : τ2 0 43 = τ 0 43) (hmo : σ2 7 13 = τ2 0 42 ∧ 0 ≤ σ2 7 13 ∧ σ2 7 13 ≤ 100) (hS : ∃ S fuel : Nat, S ≤ fuel ∧ fuel ≤ 20000 ∧ σ2 7 11 = fuel ∧ τ2 0 40 = fuel ∧ σ2 7 12 = S ∧ τ2 0 41 = S) (hH : z_H A B st σ2 τ2 be G) (hco : σ 2 10 ≤ σ2 2 10) (hco2 : σ2 2 10 + 20 * σ 7 12 ≤ σ 2 10 + 20 * σ2 7 12 + 20) (hP : z_P σ' τ') (fc : z_fc σ2 σ') (fm : z_fm τ2 τ') : z_FR σ τ 0 (z_pp σ' 10) (mj_up (z_pt τ' 10) 0 43 (τ' 0 43 + 1)) := by
  have ec : ∀ q k, ¬ (q = 33 ∨ q = 34 ∨ (q = 8 ∧ (k = 4 ∨ k = 5))) → z_pp σ' 10 q k = σ2 q k := fun q k z => by rw [z_pp_o (by omega)]; exact fc q k z
  have et : ∀ q k, ¬ (q = 24 ∨ q = 8 ∨ (q = 0 ∧ (k = 43 ∨ k = 44))) → mj_up (z_pt τ' 10) 0 43 (τ' 0 43 + 1) q k = τ2 q k := fun q k z => by rw [mj_up_ne (by omega), z_pt_o (by omega)]; exact fm q k (by omega)
  obtain ⟨b1, _, _⟩ := z_P_1 (c := 10) hP (by decide) (by decide)
  obtain ⟨p1, p2, p3, p4⟩ := b1
  obtain ⟨S, fuel, u1, u2, u3, u4, u5, u6⟩ := hS
  refine ⟨?_, by decide, by decide, fun q k z => ?_, fun i hi => ?_, ?_, fun q k z => ?_, ?_, ⟨?_, p2, p3, fun i hi => ?_⟩, ?_, ⟨S, fuel, u1, u2, fun _ => ⟨?_, ?_⟩, ?_, ?_⟩, ⟨A, B, st, be, G, z_H_fr (fun q k z => ec q k (by omega)) (fun q k z => et q k (by omega)) hH⟩, ?_, ?_⟩
  · rw [et 0 5 (by omega)]; exact e2
  · rw [ec q k (by omega)]; exact fσ2 q k z
  · rw [ec 19 i (by omega), ec 20 i (by omega), ec 21 i (by omega)]; exact hc i hi
  · rw [ec 4 3 (by omega)]; exact hl
  · rw [et q k (by omega)]; exact fτ2 q k z
  · rw [mj_up_eq, if_pos rfl, fm 0 43 (by omega), h43]
  · rw [mj_up_ne (by omega)]; exact p1
  · rw [mj_up_ne (by omega)]; exact p4 i hi
  · rw [ec 7 13 (by omega), et 0 42 (by omega)]; exact hmo
  · rw [ec 7 11 (by omega)]; exact u3
  · rw [et 0 40 (by omega)]; exact u4
  · rw [ec 7 12 (by omega)]; exact u5
  · rw [et 0 41 (by omega)]; exact u6
  · rw [ec 2 10 (by omega)]; exact hco
  · rw [ec 2 10 (by omega), ec 7 12 (by omega)]; exact hco2
set_option maxHeartbeats 1000000 in
theorem x_form {C : Int} {σ1 τ1 σ τ : mj_S} {v : Int} (E : z_RE C σ1 τ1 σ τ v) (hnd : ¬ z_cd (σ 11) v = 268435465) {d : Nat} {Q : mj_Q}
    (hfin : ∀ (e : Int) (σ' τ' : mj_S), z_FR σ τ e σ' τ' → (∀ (d' : Nat) (R : mj_Q) (y1 y2 : Int), (∀ y5, qh_m60_144 (d' + 50) R y1 y2 v 0 y5 τ') → qh_m60_56 (d' + 50) R y1 y2 v 0 (mj_up (mj_up τ 0 33 0) 0 36 0)) → Q (some (.inl e)) σ') : mj_B mjc_L mjc_Ms (d + 50) 6 [.inr (.inl 0), .inl v] σ Q := by
  have hY := E.2.2.1.2.1
  have h5 := E.2.2.2.1
  obtain ⟨st, s, len, S, fuel, be, l1, l2, l3, l4, l5, l6, l7, l8, FN, sa, SE, hH, hmo, hS, hP, hco, hbw, hdo, v0, v1, l9, l10⟩ := x_look E
  clear E
  -- the reference before it looks
  generalize hτ4 : mj_up (mj_up τ 0 33 0) 0 36 0 = τ4 at hfin
  have o4 : ∀ q k, ¬ (q = 0 ∧ (k = 33 ∨ k = 36)) → τ4 q k = τ q k := fun q k z => by rw [← hτ4, mj_up_ne (by omega), mj_up_ne (by omega)]
  have e433 : τ4 0 33 = 0 := by rw [← hτ4, mj_up_ne (by omega), mj_up_eq]
  have e436 : τ4 0 36 = 0 := by rw [← hτ4, mj_up_eq]
  have h45 : τ4 0 5 = 0 := by rw [o4 0 5 (by omega)]; exact h5
  have v26 : mj_up τ4 0 26 0 0 26 = ((0 : Nat) : Int) := by rw [mj_up_eq]; rfl
  obtain ⟨g1, g2, g3, g4, g5⟩ := @z_l1_v (mj_up τ4 0 26 0) 0 16 v 0 0
  have oa : ∀ q k, ¬ ((16 ≤ q ∧ q ≤ 19) ∨ (q = 0 ∧ (k = 26 ∨ k = 33 ∨ k = 36))) → z_l1 (mj_up τ4 0 26 0) 0 16 v 0 0 q k = τ q k := fun q k z => by rw [z_l1_o (by omega), mj_up_ne (by omega)]; exact o4 q k (by omega)
  have a33 : z_l1 (mj_up τ4 0 26 0) 0 16 v 0 0 0 33 = 0 := by rw [z_l1_o (by omega), mj_up_ne (by omega)]; exact e433
  have a36 : z_l1 (mj_up τ4 0 26 0) 0 16 v 0 0 0 36 = 0 := by rw [z_l1_o (by omega), mj_up_ne (by omega)]; exact e436
  have lookd : ∀ τ', z_gl (z_l1 (mj_up τ4 0 26 0) 0 16 v 0 0) τ' → (τ' 0 26 = 0 ∨ ¬ τ' 0 5 = 0) → ∀ (d : Nat) (R : mj_Q), R none τ' → mj_B mjm_L mjm_Ms (d + 21) 27 [.inr (.inl 0), .inl v] τ4 R := fun τ' hg hend d R hR => r_looked v26 hg hend rfl hR
  generalize z_l1 (mj_up τ4 0 26 0) 0 16 v 0 0 = τa at g1 g2 g3 g4 g5 oa a33 a36 lookd
  refine wq_c6 (d := d + 47) ⟨by omega, fun _ => ?_, fun z => absurd z hnd⟩
  refine wq_c62 (d := d + 46) (fun σa ea => ?_)
  have ca : ∀ q k, ¬ (q = 5 ∧ k = 4) → σa q k = σ q k := fun q k z => by rw [ea, mj_up_ne z]
  have c11 : σa 11 = σ 11 := by funext k; exact ca 11 k (by omega)
  have c12 : σa 12 = σ 12 := by funext k; exact ca 12 k (by omega)
  have a54 : σa 5 4 = ((0 : Nat) : Int) := by rw [ea, mj_up_eq]; rfl
  have mk := mk_all 12 (d + 6)
  rw [show d + 6 + 3 * 12 + 6 = d + 46 + 2 by omega] at mk
  refine mk σa τa _ v 0 false 0 s 0 0 len st [] l2 (fun i hi => by rw [c11, c12, oa 4 i (by omega), oa 5 i (by omega)]; exact SE i hi) (by rw [c11, c12]; exact l7) (by decide) (by decide) (by omega) ⟨a54, rfl, a33, a36, fun i hi => absurd hi (Nat.not_lt_zero i)⟩ (by omega) (by rw [ca 4 3 (by omega)]; exact l4) (by omega) (by rw [g5]; rfl) (by decide) g1 g2 (by rw [oa 0 5 (by omega)]; exact h5) ?_ ?_
  · intro σb τb len' Fc Fm MK hl4 hle hC t26 t05 gl
    rw [c11, c12] at hC
    obtain ⟨fc1, fc2, fc3⟩ := Fc
    obtain ⟨fm1, fm2, fm3⟩ := Fm
    refine ⟨0, rfl, by omega, fun σc ec => ⟨0, rfl, fun z => absurd rfl z, fun _ => ?_⟩⟩
    obtain ⟨m1, m2, m3, m4⟩ := z_made (σ3 := σ) (σb := σb) (A := σ 11) (B := σ 12) (fun i _ i2 => ⟨z_zA_i σ (by omega), rfl⟩) l7 hC hl4 (by omega) 0 0 0
    rw [← ec] at m1 m2 m3 m4
    have oc : ∀ q k, ¬ ((q = 4 ∧ k = 3) ∨ (q = 5 ∧ k = 4) ∨ (19 ≤ q ∧ q ≤ 23)) → σc q k = σ q k := fun q k z => by rw [m1 q k (by omega), fc1 q k (by omega), ca q k (by omega)]
    have ob : ∀ q k, ¬ ((q = 0 ∧ (k = 5 ∨ k = 26 ∨ k = 33 ∨ k = 36)) ∨ (16 ≤ q ∧ q ≤ 19) ∨ q = 21 ∨ q = 22) → τb q k = τ q k := fun q k z => by rw [fm1 q k (by omega), oa q k (by omega)]
    have hlen' : len ≤ len' := by have := z_C_lt _ _ _ _ _ _ _ hC; omega
    have hcode : ∀ i : Nat, (i : Int) < σ 4 3 → σc 19 i = σ 19 i ∧ σc 20 i = σ 20 i ∧ σc 21 i = σ 21 i := fun i hi => by
      obtain ⟨q1, q2, q3⟩ := fc2 i (by omega)
      rw [m1 19 i (by omega), m1 20 i (by omega), m1 21 i (by omega), q1, q2, q3, ca 19 i (by omega), ca 20 i (by omega), ca 21 i (by omega)]
      exact ⟨rfl, rfl, rfl⟩
    have sac : z_sa (z_zA σ) (σ 12) (σc 11) (σc 12) (τb 4) (τb 5) st := fun i i1 i2 => by rw [oc 11 i (by omega), oc 12 i (by omega), ob 4 i (by omega), ob 5 i (by omega)]; exact sa i i1 i2
    have FNc : z_FN (z_zA σ) (σ 12) st (z_zK σc) σc τb := by
      refine z_FN_up (len := len) (fun _ _ _ => ⟨rfl, rfl⟩) (Int.le_refl _) (Nat.le_refl _) (fun i hi => (z_zK_ge (by omega)).1) (fun i hi => ?_) (fun q k z => oc q k (by omega)) (fun q k z => ob q k (by omega)) FN
      obtain ⟨a1, a2, a3⟩ := z_zK_lt (σ := σ) (i := i) (by omega)
      obtain ⟨b1, b2, b3⟩ := z_zK_lt (σ := σc) (i := i) (by omega)
      obtain ⟨c1, c2, c3⟩ := hcode i (by omega)
      exact ⟨by rw [a1, b1, c1], by rw [a2, b2, c2], by rw [a3, b3, c3]⟩
    have hHc := z_H_re hH (fun q k z => oc q k (by omega)) (fun q k z => ob q k (by omega)) sac
    have hSc : S ≤ fuel ∧ fuel ≤ 20000 ∧ σc 7 11 = fuel ∧ τb 0 40 = fuel ∧ σc 7 12 = S ∧ τb 0 41 = S := ⟨hS.1, hS.2.1, by rw [oc 7 11 (by omega)]; exact hS.2.2.1, by rw [ob 0 40 (by omega)]; exact hS.2.2.2.1, by rw [oc 7 12 (by omega)]; exact hS.2.2.2.2.1, by rw [ob 0 41 (by omega)]; exact hS.2.2.2.2.2⟩
    have hmoc : σc 7 13 = τb 0 42 ∧ 0 ≤ σc 7 13 ∧ σc 7 13 ≤ 100 := by rw [oc 7 13 (by omega), ob 0 42 (by omega)]; exact hmo
    have e210 : σc 2 10 = σ 2 10 := oc 2 10 (by omega)
    have e712 : σ 7 12 = S := hS.2.2.2.2.1
    have hY0 : ∀ (σ' τ' : mj_S), (∀ q k, q = 1 ∨ q = 9 ∨ q = 10 → σ' q k = σ q k) → (∀ q k, (q = 0 ∧ k = 6) ∨ q = 2 ∨ q = 3 → τ' q k = τ q k) → z_Y σ' τ' := by
      intro σ' τ' y1 y2
      obtain ⟨h1, h2, h3, h4⟩ := hY
      refine ⟨by rw [y1 1 2 (by omega), y2 0 6 (by omega)]; exact h1, by rw [y1 1 2 (by omega)]; exact h2, by rw [y1 1 2 (by omega)]; exact h3, fun i hi => ?_⟩
      rw [y1 1 2 (by omega)] at hi
      rw [y1 10 i (by omega), y2 3 i (by omega)]
      obtain ⟨k1, k2, k3, k4⟩ := h4 i hi
      exact ⟨k1, k2, k3, fun k hk => by rw [y1 9 _ (by omega), y2 2 _ (by omega)]; exact k4 k hk⟩
    clear SE l7 hY MK hC fm2 fm3 fc3 ca hτ4
    rw [l4]
    refine t_exec (d := d + 18) (A := z_zA σ) (B := σ 12) (st := st) (K := z_zK σc) (S := S) (fuel := fuel) (be := be) (G := fun _ => false) l2 (z_zK_K σc) (by omega) (by omega) (by omega) FNc hHc hmoc hSc t05 (k := 12) (s := len) (e := len') (Nat.le_refl _) ⟨s, l8⟩ m3 m4 ?_ ?_
    · intro σ' τ' n' S' be' G' XW h0 hb ref40
      have XW0 := XW
      obtain ⟨w1, w2, w3, w4, w5, w6, w7, w8, w9⟩ := XW0
      have os : ∀ q k, ¬ z_xf q k → σ' q k = σ q k := fun q k z => by rw [w1 q k (by omega)]; exact oc q k (by omega)
      have ot : ∀ q k, ¬ z_xg q k → τ' q k = τ q k := fun q k z => by rw [w2 q k (by omega)]; exact ob q k (by omega)
      have et : ∀ q k, ¬ (q = 0 ∧ k = 31) → mj_up τ' 0 31 0 q k = τ' q k := fun q k z => mj_up_ne z
      have hP' : z_P σ' (mj_up τ' 0 31 0) := by
        obtain ⟨p1, p2, p3, p4⟩ := hP
        have s84 : σ' 8 4 = σ 8 4 := by rw [w1 8 4 (by omega)]; exact oc 8 4 (by omega)
        refine ⟨by rw [s84, et 0 44 (by omega), w2 0 44 (by omega), ob 0 44 (by omega)]; exact p1, by rw [s84]; exact p2, by rw [s84]; exact p3, fun i hi => ?_⟩
        rw [s84] at hi
        rw [w1 33 i (by omega), oc 33 i (by omega), et 24 i (by omega), w2 24 i (by omega), ob 24 i (by omega)]
        exact p4 i hi
      have hbl : z_bl σ' 0 = σ' 29 0 := t_bl (h := 0) (k := 0) (by rw [w6.2.1]) (by decide)
      refine ⟨0, rfl, fun z => absurd rfl z, fun _ => ⟨by rw [w6.2.1]; unfold mj_r; omega, ?_⟩⟩
      rw [hbl]
      have hH' : z_H (z_zA σ) (σ 12) st σ' (mj_up τ' 0 31 0) be' G' := z_H_fr (fun _ _ _ => rfl) (fun q k z => et q k (by omega)) w3
      have val := z_pv_v (w5 0 (by omega)) h0
      refine t_print (d := d + 44) hH' (hY0 σ' _ (fun q k z => os q k (by omega)) (fun q k z => by rw [et q k (by omega)]; exact ot q k (by omega))) (by rw [hbw, os 1 2 (by omega)]; exact Int.le_refl _) hP' val (fun σp τp hPp fcp fmp ref57 => ⟨rfl, hfin 0 (z_pp σp 10) (mj_up (z_pt τp 10) 0 43 (τp 0 43 + 1)) ?_ ?_⟩)
      · refine z_FR_p (σ2 := σ') (τ2 := mj_up τ' 0 31 0) (A := z_zA σ) (B := σ 12) (st := st) (be := be') (G := G') (S' := S') (by rw [et 0 5 (by omega)]; exact w9) os (fun i hi => ?_) ?_ (fun q k z => by rw [et q k (by omega)]; exact ot q k z) ?_ ?_ ⟨S', fuel, w8.1, w8.2.1, w8.2.2.1, by rw [et 0 40 (by omega)]; exact w8.2.2.2.1, w8.2.2.2.2.1, by rw [et 0 41 (by omega)]; exact w8.2.2.2.2.2⟩ hH' ?_ ?_ hPp fcp fmp
        · rw [w1 19 i (by omega), w1 20 i (by omega), w1 21 i (by omega)]; exact hcode i hi
        · rw [w1 4 3 (by omega), m2]; omega
        · rw [et 0 43 (by omega), w2 0 43 (by omega)]; exact ob 0 43 (by omega)
        · rw [et 0 42 (by omega)]; exact ⟨w7.1, by omega, w7.2.2⟩
        · omega
        · rw [w8.2.2.2.2.1, e712]; omega
      · intro d' R y1 y2 hR
        have p44 : 0 ≤ τp 0 44 ∧ τp 0 44 ≤ 400 := by have := hPp.1; have := hPp.2.1; have := hPp.2.2.1; omega
        refine qw_m60_56 (d := d' + 49) ⟨fun _ => ⟨fun z => absurd h45 z, fun _ => lookd τb gl (Or.inl t26) (d' + 29) _ ⟨rfl, fun z => absurd t05 z, fun _ => ref40 (d' + 19) _ ⟨_, rfl, qw_m60_115 (d := d' + 49) ⟨fun z => absurd (by rw [et 0 5 (by omega)]; exact w9) z, fun _ => ref57 (d' + 45) _ ⟨rfl, p44.1, p44.2, fun τq f1 => ?_⟩⟩⟩⟩⟩, fun z => absurd rfl z⟩
        have q43 : τq 0 43 = τp 0 43 := by rw [f1]; exact z_pt_o (by omega)
        have q43' : τp 0 43 = σ 0 8 := by rw [fmp 0 43 (by omega), et 0 43 (by omega), w2 0 43 (by omega), ob 0 43 (by omega)]; exact hdo.1.symm
        refine ⟨by rw [q43, q43']; unfold mj_r; omega, fun τr f2 => ?_⟩
        rw [f2, q43, f1]
        exact hR _
    · intro e σ' τ' n' S' XE hb ref40
      obtain ⟨w1, w2, w3, w4, w7, w8, w9, e1, e2⟩ := XE
      refine ⟨e, rfl, fun _ => hfin e σ' τ' ?_ ?_, fun z => absurd z (by omega)⟩
      · obtain ⟨be', G', w3⟩ := w3
        refine ⟨w9, by omega, e2, fun q k z => by rw [w1 q k (by omega)]; exact oc q k (by omega), fun i hi => ?_, ?_, fun q k z => by rw [w2 q k (by omega)]; exact ob q k (by omega), ?_, ?_, w7, ⟨S', fuel, w8.1, hS.2.1, fun z => absurd z (by omega), w8.2.1, w8.2.2⟩, ⟨_, _, _, be', G', w3⟩, by omega, ?_⟩
        · rw [w1 19 i (by omega), w1 20 i (by omega), w1 21 i (by omega)]; exact hcode i hi
        · rw [w1 4 3 (by omega), m2]; omega
        · rw [w2 0 43 (by omega), ob 0 43 (by omega), if_neg (by omega)]; omega
        · obtain ⟨p1, p2, p3, p4⟩ := hP
          have s84 : σ' 8 4 = σ 8 4 := by rw [w1 8 4 (by omega)]; exact oc 8 4 (by omega)
          refine ⟨by rw [s84, w2 0 44 (by omega), ob 0 44 (by omega)]; exact p1, by rw [s84]; exact p2, by rw [s84]; exact p3, fun i hi => ?_⟩
          rw [s84] at hi
          rw [w1 33 i (by omega), oc 33 i (by omega), w2 24 i (by omega), ob 24 i (by omega)]
          exact p4 i hi
        · rw [w8.2.1, e712]; omega
      · intro d' R y1 y2 hR
        exact qw_m60_56 (d := d' + 49) ⟨fun _ => ⟨fun z => absurd h45 z, fun _ => lookd τb gl (Or.inl t26) (d' + 29) _ ⟨rfl, fun z => absurd t05 z, fun _ => ref40 (d' + 19) _ ⟨_, rfl, qw_m60_115 (d := d' + 49) ⟨fun _ => hR _, fun z => absurd z (by omega)⟩⟩⟩⟩, fun z => absurd rfl z⟩
  · intro e σb τb Fc Fm hle1 hle2 he hee gl
    obtain ⟨fc1, fc2, fc3⟩ := Fc
    obtain ⟨fm1, fm2, fm3⟩ := Fm
    refine ⟨e, rfl, by omega, fun σc ec => ⟨e, rfl, fun _ => ⟨fun _ => ?_, fun z => absurd z (by omega)⟩, fun z => absurd z (by omega)⟩⟩
    obtain ⟨q1, q2⟩ := z_put_o (σ := σb) (a := 0) (b := 0) (n := 0) hle1
    rw [← ec] at q1 q2
    refine hfin e σc τb (z_FR_e he (by omega) (by omega) (fun q k z => by rw [q1 q k (by omega), fc1 q k (by omega), ca q k (by omega)]) (fun i hi => ?_) (by omega) (fun q k z => by rw [fm1 q k (by omega), oa q k (by omega)]) hH hmo ⟨S, fuel, hS⟩ hP) (fun d' R y1 y2 hR => ?_)
    · obtain ⟨c1, c2, c3⟩ := fc2 i (by omega)
      rw [q1 19 i (by omega), q1 20 i (by omega), q1 21 i (by omega), c1, c2, c3, ca 19 i (by omega), ca 20 i (by omega), ca 21 i (by omega)]
      exact ⟨rfl, rfl, rfl⟩
    · exact qw_m60_56 (d := d' + 49) ⟨fun _ => ⟨fun z => absurd h45 z, fun _ => lookd τb gl (Or.inr (by omega)) (d' + 29) _ ⟨rfl, fun _ => qw_m60_115 (d := d' + 49) ⟨fun _ => hR _, fun z => absurd z (by omega)⟩, fun z => absurd z (by omega)⟩⟩, fun z => absurd rfl z⟩
