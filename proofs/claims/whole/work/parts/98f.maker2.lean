/-! if, and, or, cond: jumps -/
def z_Ks (lo hi : Nat) (σ σ' : mj_S) : Prop := ∀ j, lo ≤ j → j < hi → (z_Kc σ').1 j = (z_Kc σ).1 j ∧ (z_Kc σ').2.1 j = (z_Kc σ).2.1 j ∧ (z_Kc σ').2.2 j = (z_Kc σ).2.2 j
theorem z_Ks_tr {lo hi : Nat} {σ σ' σ2 : mj_S} (h : z_Ks lo hi σ σ') (g : z_Ks lo hi σ' σ2) : z_Ks lo hi σ σ2 := fun j h1 h2 => by
  obtain ⟨a1, a2, a3⟩ := h j h1 h2
  obtain ⟨b1, b2, b3⟩ := g j h1 h2
  exact ⟨by rw [b1, a1], by rw [b2, a2], by rw [b3, a3]⟩
theorem z_Ks_F {len n lo hi : Nat} {σ σ' : mj_S} (h : z_Fc len n σ σ') (hh : hi ≤ len) : z_Ks lo hi σ σ' := fun j _ h2 => h.2.1 j (by omega)
theorem z_Ks_a {js : List Nat} {lo hi : Nat} {σ σ' : mj_S} (h : ∀ q k, ¬ (q = 20 ∧ k ∈ js) → σ' q k = σ q k) (hh : ∀ j, lo ≤ j → j < hi → ¬ j ∈ js) : z_Ks lo hi σ σ' := fun j h1 h2 => ⟨h 19 j (fun z => absurd z.1 (by decide)), h 20 j (fun z => hh j h1 h2 z.2), h 21 j (fun z => absurd z.1 (by decide))⟩
theorem z_Ks_C {A B : Nat → Int} {k lo hi : Nat} {σ σ' : mj_S} {E : List (Int × Int)} {x pl : Int} {tl : Bool} (h : z_Ks lo hi σ σ') (g : z_C A B (z_Kc σ) k E x pl tl lo hi) : z_C A B (z_Kc σ') k E x pl tl lo hi := z_C_frame k _ _ _ _ _ _ h g
theorem z_Ks_in {lo hi i : Nat} {σ σ' : mj_S} {o a n : Int} (h : z_Ks lo hi σ σ') (h1 : lo ≤ i) (h2 : i < hi) (g : z_in (z_Kc σ) i o a n) : z_in (z_Kc σ') i o a n := by
  obtain ⟨e1, e2, e3⟩ := h i h1 h2
  exact ⟨by rw [e1]; exact g.1, by rw [e2]; exact g.2.1, by rw [e3]; exact g.2.2⟩
theorem z_Fc_a {js : List Nat} {len n : Nat} {σ σ' : mj_S} (h : ∀ q k, ¬ (q = 20 ∧ k ∈ js) → σ' q k = σ q k) (hh : ∀ j, j ∈ js → len ≤ j) : z_Fc len n σ σ' :=
  ⟨fun q k c => h q k (fun z => absurd z.1 (by omega)), fun i hi => ⟨h 19 i (fun z => absurd z.1 (by decide)), h 20 i (fun z => by have := hh i z.2; omega), h 21 i (fun z => absurd z.1 (by decide))⟩, fun i _ => ⟨h 22 i (fun z => absurd z.1 (by decide)), h 23 i (fun z => absurd z.1 (by decide))⟩⟩
theorem z_pop {m n : Nat} {τ : mj_S} : z_Fm m n τ (mj_up τ 0 26 (m : Int)) := ⟨fun q x q1 => mj_up_ne (by omega), fun x hx => ⟨mj_up_ne (by omega), mj_up_ne (by omega), mj_up_ne (by omega), mj_up_ne (by omega)⟩, fun x hx => ⟨mj_up_ne (by omega), mj_up_ne (by omega)⟩⟩
set_option maxHeartbeats 1000000 in
theorem mk_choice {k K0 : Nat} (ih : z_MFd k (K0 + 2)) {σ τ : mj_S} {Q : mj_Q} {A B : Nat → Int} {a pl : Int} {tl : Bool} {lv s m n len st : Nat} {E : List (Int × Int)} (hA : σ 11 = A) (hB : σ 12 = B) (hst : st ≤ 400) (hSE : z_SE st σ τ) (hD : z_D A B 536870912 0 st (k + 1) s a) (hl : z_isl B a 3) (hlv : lv + k ≤ 12) (hpl : 0 ≤ pl) (hpl2 : pl + s ≤ 1000) (hMK : z_MK σ τ E n) (hn : n + s ≤ 400) (hlen : σ 4 3 = len) (hl2 : len + 3 * s + 2 ≤ 2400)
    (h26 : τ 0 26 = (m : Int) + 1) (hm : m + 8 * k + 12 ≤ 3000) (h16 : τ 16 m = 2) (h17 : τ 17 m = a) (h18 : τ 18 m = 0) (h5 : τ 0 5 = 0)
    (hok : ∀ (σ' τ' : mj_S) (len' b c : Nat), z_Fc len n σ σ' → z_Fm m n τ τ' → z_MK σ' τ' E n → σ' 4 3 = len' → len' ≤ len + 3 * s + 2 → z_C A B (z_Kc σ') k E (z_el A B a 0) pl false len b → z_in (z_Kc σ') b 5 ((c : Int) + 1) 0 → z_C A B (z_Kc σ') k E (z_el A B a 1) pl tl (b + 1) c → z_in (z_Kc σ') c 4 (len' : Int) 0 → z_C A B (z_Kc σ') k E (z_el A B a 2) pl tl (c + 1) len' → τ' 0 26 = m → τ' 0 5 = 0 → z_gl τ τ' → Q (some (.inl 0)) σ')
    (hbad : ∀ (e : Int) (σ' τ' : mj_S), z_Fc len n σ σ' → z_Fm m n τ τ' → len ≤ σ' 4 3 → σ' 4 3 ≤ 2400 → τ' 0 5 = e → (e = 1 ∨ e = 2 ∨ e = 4) → z_gl τ τ' → Q (some (.inl e)) σ') : mj_B mjc_L mjc_Ms (K0 + 3) 76 [.inr (.inl 5), .inl a, .inl pl, .inl (z_bo tl), .inl (lv : Int)] σ Q := by
  obtain ⟨r0, l0⟩ := z_isl_t hl
  obtain ⟨r1, l1⟩ := z_isl_t l0
  obtain ⟨r2, l2⟩ := z_isl_t l1
  have l3 := z_isl_0 l2
  obtain ⟨k0, p0, s0, t0, g1, g2, g3, g4, g5, g6, g7⟩ := z_D_p (by decide) hD r0.1
  obtain ⟨k1, p1, s1, t1, i1, i2, i3, i4, i5, i6, i7⟩ := z_D_p (by decide) g7 r1.1
  obtain ⟨k2, p2, s2, t2, j1, j2, j3, j4, j5, j6, j7⟩ := z_D_p (by decide) i7 r2.1
  have e0 : k0 = k := by omega
  have e1 : k1 = k := by omega
  have e2 : k2 = k := by omega
  subst e0
  rw [e1] at i6
  rw [e2] at j6
  have D0 : z_D A B 536870912 0 st k0 s0 (z_cd A a) := z_D_mono (Int.le_refl _) (Nat.le_refl _) (by omega) (Nat.le_refl _) g6
  have D1 : z_D A B 536870912 0 st k0 s1 (z_cd A (z_cd B a)) := z_D_mono (Int.le_refl _) (Nat.le_refl _) (by omega) (Nat.le_refl _) i6
  have D2 : z_D A B 536870912 0 st k0 s2 (z_cd A (z_cd B (z_cd B a))) := z_D_mono (Int.le_refl _) (Nat.le_refl _) (by omega) (Nat.le_refl _) j6
  refine wq_c76 (d := K0) ⟨by omega, ?_⟩
  refine mk_sub ih hst hSE (tl := false) (s := s0) (m := m) (len := len) (r := a) (lv := lv) (pl := pl) ⟨r0.1, by omega⟩ (by rw [hA, hB]; exact D0) hlv hpl (by omega) hMK (by omega) hlen (by omega) h26 hm h16 h17 h18 h5 (fun σ1 τ1 len1 a1 a2 a3 a4 a5 a6 a7 a8 a9 a10 a11 a12 => ?_) (fun er σ1 τ1 a1 a2 a3 a4 a5 a6 a7 => ?_)
  · rw [hA, hB] at a6
    rw [hB] at a9
    have ll1 := z_C_lt k0 _ _ _ _ _ _ a6
    refine ⟨_, rfl, fun _ => ⟨by omega, fun σ3 e3 => ?_⟩, fun q => absurd rfl q⟩
    rw [z_put_1 a4 (by omega)] at e3
    obtain ⟨v3, v3'⟩ := @z_p1_v σ1 len1 5 (-1) 0
    rw [← e3] at v3 v3'
    have F3 : z_Fc len1 n σ1 σ3 := by rw [e3]; exact z_Fc_p
    have q11 : σ3 11 = A := by funext i; rw [F3.1 11 i (by omega), a1.1 11 i (by omega), hA]
    have q12 : σ3 12 = B := by funext i; rw [F3.1 12 i (by omega), a1.1 12 i (by omega), hB]
    have F03 : z_Fc len n σ σ3 := z_Fc_tr (by omega) (Nat.le_refl _) a1 F3
    have MK3 : z_MK σ3 τ1 E n := z_MK_F a3 F3 (z_Fm_rf m n τ1) (by rw [e3, z_p1_o (by omega)]; exact a3.1) a3.2.2.1
    refine t_c22 (d := K0) (k := 1) (by decide) (fun i hi => ?_) ⟨_, rfl, ?_⟩
    · rw [q12]
      cases i with
      | zero => show z_dr a; omega
      | succ i =>
        have : i = 0 := by omega
        subst this
        show z_dr (z_cd B a); omega
    · rw [q11, q12]
      show mj_B mjc_L mjc_Ms (K0 + 2) 68 [.inr (.inl 5), .inl (z_cd A (z_cd B a)), .inl pl, .inl (z_bo tl), .inl (lv : Int)] σ3 _
      have := mk_sub ih (σ := σ3) (τ := τ1) hst (z_SE_F hSE F03 a2) (tl := tl) (s := s1) (m := m) (len := len1 + 1) (r := z_cd B a) (lv := lv) (pl := pl) ⟨r1.1, by omega⟩ (by rw [q11, q12]; exact D1) hlv hpl (by omega) MK3 (by omega) v3' (by omega) a7 hm a8 a9 a10 a11 (Q := fun r σ6 => ∃ v7, r = some (.inl v7) ∧ (v7 = 0 → 0 ≤ σ6 4 3 ∧ ∀ σ8, σ8 = z_put σ6 4 (-1) 0 → mj_B mjc_L mjc_Ms (K0 + 2) 61 [.inr (.inl 4), .inl (if σ1 4 3 < 2400 then σ1 4 3 else -1)] σ8 (fun r σ9 => r = none ∧ mj_B mjc_L mjc_Ms (K0 + 2) 22 [.inr (.inl 2), .inl a, .inl 2] σ9 (fun r σ10 => ∃ v11, r = some (.inl v11) ∧ mj_B mjc_L mjc_Ms (K0 + 2) 68 [.inr (.inl 5), .inl v11, .inl pl, .inl (z_bo tl), .inl (lv : Int)] σ10 (fun r σ12 => ∃ v13, r = some (.inl v13) ∧ mj_B mjc_L mjc_Ms (K0 + 2) 61 [.inr (.inl 4), .inl (if σ6 4 3 < 2400 then σ6 4 3 else -1)] σ12 (fun r σ14 => r = none ∧ Q (some (.inl v13)) σ14))))) ∧ (¬ v7 = 0 → Q (some (.inl v7)) σ6)) (fun σ6 τ6 len6 b1 b2 b3 b4 b5 b6 b7 b8 b9 b10 b11 b12 => ?_) (fun er σ6 τ6 b1 b2 b3 b4 b5 b6 b7 => ?_)
      · rw [q11] at this
        exact this
      · rw [q11, q12] at b6
        rw [q12] at b9
        have ll6 := z_C_lt k0 _ _ _ _ _ _ b6
        refine ⟨_, rfl, fun _ => ⟨by omega, fun σ8 e8 => ?_⟩, fun q => absurd rfl q⟩
        rw [z_put_1 b4 (by omega)] at e8
        obtain ⟨v8, v8'⟩ := @z_p1_v σ6 len6 4 (-1) 0
        rw [← e8] at v8 v8'
        have F8 : z_Fc len6 n σ6 σ8 := by rw [e8]; exact z_Fc_p
        have in3 : z_in (z_Kc σ8) len1 5 (-1) 0 := z_Ks_in (lo := 0) (hi := len1 + 1) (z_Ks_tr (z_Ks_F b1 (Nat.le_refl _)) (z_Ks_F F8 (by omega))) (by omega) (by omega) v3
        rw [a4, if_pos (by omega)]
        refine t_c61 (d := K0 + 1) (js := [len1]) (len := len6 + 1) (by omega) v8' (fun i hi => by simp at hi; omega) (by simp) ⟨rfl, fun i hi => absurd hi (by simp), in3.2.1⟩ (fun σ9 c1 c2 => ⟨rfl, ?_⟩)
        have F9 : z_Fc len1 n σ8 σ9 := z_Fc_a c1 (fun j hj => by simp at hj; omega)
        have c43 : σ9 4 3 = ((len6 + 1 : Nat) : Int) := by rw [c1 4 3 (fun z => absurd z.1 (by decide))]; exact v8'
        have F09 : z_Fc len n σ σ9 := z_Fc_tr (by omega) (Nat.le_refl _) (z_Fc_tr (by omega) (Nat.le_refl _) (z_Fc_tr (by omega) (Nat.le_refl _) F03 b1) F8) F9
        have M09 : z_Fm m n τ τ6 := z_Fm_tr (Nat.le_refl _) (Nat.le_refl _) a2 b2
        have q11' : σ9 11 = A := by funext i; rw [F09.1 11 i (by omega), hA]
        have q12' : σ9 12 = B := by funext i; rw [F09.1 12 i (by omega), hB]
        have MK9 : z_MK σ9 τ6 E n := z_MK_F b3 (z_Fc_tr (Nat.le_refl _) (Nat.le_refl _) (z_Fc_tr (by omega) (Nat.le_refl _) (z_Fc_rf len1 n σ6) F8) F9) (z_Fm_rf m n τ6) (by rw [c1 5 4 (fun z => absurd z.1 (by decide)), e8, z_p1_o (by omega)]; exact b3.1) b3.2.2.1
        refine t_c22 (d := K0) (k := 2) (by decide) (fun i hi => ?_) ⟨_, rfl, ?_⟩
        · rw [q12']
          match i, hi with
          | 0, _ => show z_dr a; omega
          | 1, _ => show z_dr (z_cd B a); omega
          | 2, _ => show z_dr (z_cd B (z_cd B a)); omega
        · rw [q11', q12']
          show mj_B mjc_L mjc_Ms (K0 + 2) 68 [.inr (.inl 5), .inl (z_cd A (z_cd B (z_cd B a))), .inl pl, .inl (z_bo tl), .inl (lv : Int)] σ9 _
          have := mk_sub ih (σ := σ9) (τ := τ6) hst (z_SE_F hSE F09 M09) (tl := tl) (s := s2) (m := m) (len := len6 + 1) (r := z_cd B (z_cd B a)) (lv := lv) (pl := pl) ⟨r2.1, by omega⟩ (by rw [q11', q12']; exact D2) hlv hpl (by omega) MK9 (by omega) c43 (by omega) b7 hm b8 b9 b10 b11 (Q := fun r σ12 => ∃ v13, r = some (.inl v13) ∧ mj_B mjc_L mjc_Ms (K0 + 2) 61 [.inr (.inl 4), .inl (if σ6 4 3 < 2400 then σ6 4 3 else -1)] σ12 (fun r σ14 => r = none ∧ Q (some (.inl v13)) σ14)) (fun σ12 τ12 len12 d1 d2 d3 d4 d5 d6 d7 d8 d9 d10 d11 d12 => ?_) (fun er σ12 τ12 d1 d2 d3 d4 d5 d6 d7 => ?_)
          · rw [q11'] at this
            exact this
          · rw [q11', q12'] at d6
            rw [q12'] at d9
            have ll12 := z_C_lt k0 _ _ _ _ _ _ d6
            have in8 : z_in (z_Kc σ12) len6 4 (-1) 0 := z_Ks_in (lo := len6) (hi := len6 + 1) (z_Ks_tr (z_Ks_a c1 (fun j h1 h2 hj => by simp at hj; omega)) (z_Ks_F d1 (Nat.le_refl _))) (Nat.le_refl _) (by omega) v8
            refine ⟨_, rfl, ?_⟩
            rw [b4, if_pos (by omega)]
            refine t_c61 (d := K0 + 1) (js := [len6]) (len := len12) (by omega) d4 (fun i hi => by simp at hi; omega) (by simp) ⟨rfl, fun i hi => absurd hi (by simp), in8.2.1⟩ (fun σ14 f1 f2 => ⟨rfl, ?_⟩)
            have F14 : z_Fc len6 n σ12 σ14 := z_Fc_a f1 (fun j hj => by simp at hj; omega)
            have FF : z_Fc len n σ σ14 := z_Fc_tr (by omega) (Nat.le_refl _) (z_Fc_tr (by omega) (Nat.le_refl _) F09 d1) F14
            -- what later steps left alone
            have kA : z_Ks len len1 σ1 σ14 := z_Ks_tr (z_Ks_tr (z_Ks_tr (z_Ks_tr (z_Ks_tr (z_Ks_F F3 (Nat.le_refl _)) (z_Ks_F b1 (by omega))) (z_Ks_F F8 (by omega))) (z_Ks_F F9 (Nat.le_refl _))) (z_Ks_F d1 (by omega))) (z_Ks_F F14 (by omega))
            have kB : z_Ks (len1 + 1) len6 σ6 σ14 := z_Ks_tr (z_Ks_tr (z_Ks_tr (z_Ks_F F8 (Nat.le_refl _)) (z_Ks_a c1 (fun j h1 h2 hj => by simp at hj; omega))) (z_Ks_F d1 (by omega))) (z_Ks_F F14 (Nat.le_refl _))
            have kC : z_Ks (len6 + 1) len12 σ12 σ14 := z_Ks_a f1 (fun j h1 h2 hj => by simp at hj; omega)
            have kD : z_Ks len1 (len1 + 1) σ9 σ14 := z_Ks_tr (z_Ks_F d1 (by omega)) (z_Ks_F F14 (by omega))
            have i9 : z_in (z_Kc σ9) len1 5 ((len6 : Int) + 1) 0 := ⟨by show σ9 19 len1 = 5; rw [c1 19 len1 (fun z => absurd z.1 (by decide))]; exact in3.1, by show σ9 20 len1 = _; rw [c2 len1 (by simp)]; omega, by show σ9 21 len1 = 0; rw [c1 21 len1 (fun z => absurd z.1 (by decide))]; exact in3.2.2⟩
            have i14 : z_in (z_Kc σ14) len6 4 (len12 : Int) 0 := ⟨by show σ14 19 len6 = 4; rw [f1 19 len6 (fun z => absurd z.1 (by decide))]; exact in8.1, by show σ14 20 len6 = _; rw [f2 len6 (by simp)], by show σ14 21 len6 = 0; rw [f1 21 len6 (fun z => absurd z.1 (by decide))]; exact in8.2.2⟩
            have c43' : σ14 4 3 = (len12 : Int) := by rw [f1 4 3 (fun z => absurd z.1 (by decide))]; exact d4
            have M12 : z_Fm m n τ (mj_up τ12 0 26 (m : Int)) := z_Fm_tr (Nat.le_refl _) (Nat.le_refl _) (z_Fm_tr (Nat.le_refl _) (Nat.le_refl _) M09 d2) z_pop
            refine hok σ14 (mj_up τ12 0 26 (m : Int)) len12 len1 len6 FF M12 (z_MK_F d3 F14 z_pop (by rw [f1 5 4 (fun z => absurd z.1 (by decide))]; exact d3.1) (by rw [mj_up_ne (by omega)]; exact d3.2.2.1)) c43' (by omega) (z_Ks_C kA a6) (z_Ks_in kD (Nat.le_refl _) (by omega) i9) (z_Ks_C kB b6) i14 (z_Ks_C kC d6) mj_up_eq (by rw [mj_up_ne (by omega)]; exact d11) (z_gl_tr (z_gl_tr (z_gl_tr a12 b12) d12) (l_nil d7 (by omega) d11 d8 d9 (by omega)))
          · refine ⟨_, rfl, ?_⟩
            have d3' : ((len6 + 1 : Nat) : Int) ≤ σ12 4 3 := d3
            obtain ⟨l12, hl12⟩ : ∃ l : Nat, σ12 4 3 = l := ⟨(σ12 4 3).toNat, by omega⟩
            have in8 : z_in (z_Kc σ12) len6 4 (-1) 0 := z_Ks_in (lo := len6) (hi := len6 + 1) (z_Ks_tr (z_Ks_a c1 (fun j h1 h2 hj => by simp at hj; omega)) (z_Ks_F d1 (Nat.le_refl _))) (Nat.le_refl _) (by omega) v8
            rw [b4, if_pos (by omega)]
            refine t_c61 (d := K0 + 1) (js := [len6]) (len := l12) (by omega) hl12 (fun i hi => by simp at hi; omega) (by simp) ⟨rfl, fun i hi => absurd hi (by simp), in8.2.1⟩ (fun σ14 f1 f2 => ⟨rfl, ?_⟩)
            have F14 : z_Fc len6 n σ12 σ14 := z_Fc_a f1 (fun j hj => by simp at hj; omega)
            have c43' : σ14 4 3 = σ12 4 3 := f1 4 3 (fun z => absurd z.1 (by decide))
            exact hbad er σ14 τ12 (z_Fc_tr (by omega) (Nat.le_refl _) (z_Fc_tr (by omega) (Nat.le_refl _) F09 d1) F14) (z_Fm_tr (Nat.le_refl _) (Nat.le_refl _) M09 d2) (by omega) (by omega) d5 d6 (z_gl_tr (z_gl_tr a12 b12) d7)
      · have b3' : ((len1 + 1 : Nat) : Int) ≤ σ6 4 3 := b3
        exact ⟨_, rfl, fun q => absurd q (by omega), fun _ => hbad er σ6 τ6 (z_Fc_tr (by omega) (Nat.le_refl _) F03 b1) (z_Fm_tr (Nat.le_refl _) (Nat.le_refl _) a2 b2) (by omega) b4 b5 b6 (z_gl_tr a12 b7)⟩
  · exact ⟨_, rfl, fun q => absurd q (by omega), fun _ => hbad er σ1 τ1 a1 a2 a3 a4 a5 a6 a7⟩
