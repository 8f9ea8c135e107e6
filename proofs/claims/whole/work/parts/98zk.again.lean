/-! definitions: code is made, the function becomes known -/
def z_NF (σ τ σn τn : mj_S) (st : Nat) : Prop := (∀ q k, ¬ ((q = 4 ∧ k = 3) ∨ (q = 5 ∧ k = 4) ∨ (19 ≤ q ∧ q ≤ 28) ∨ (q = 6 ∧ k = 6)) → σn q k = σ q k) ∧ (∀ q k, ¬ ((q = 0 ∧ (k = 5 ∨ k = 22 ∨ k = 26 ∨ k = 33 ∨ k = 36)) ∨ (13 ≤ q ∧ q ≤ 19) ∨ q = 21 ∨ q = 22) → τn q k = τ q k) ∧ τn 0 5 = 0 ∧ z_FN (z_zA σ) (σ 12) st (z_zK σn) σn τn ∧ σn 6 6 = σ 6 6 + 1 ∧ τn 0 22 = τ 0 22 + 1 ∧ 0 ≤ σn 4 3 ∧ σn 4 3 ≤ 3 * (st : Int)
/-- a function more -/
theorem z_FN_add {A B : Nat → Int} {st nf i c s k fin : Nat} {K : z_K} {σ τ σ' τ' : mj_S} {p bo : Int} (h : z_FN A B st K σ τ) (hnf : τ 0 22 = nf) (hn6 : nf < 16) (hi : i < 60) (h24 : σ 24 i = 0) (hno : ∀ f : Nat, f < nf → ¬ τ 13 f = 268435456 + (i : Int)) (hc : c ≤ 5) (hp : z_isl B p c) (dp : z_dt A B st p) (db : z_dt A B st bo) (hk : k ≤ 12) (hC : z_C A B K k (z_bd (fun j => z_el A B p j) 0 c []) bo ((c : Int) + 1) true s fin) (hf : z_in K fin 11 0 0)
    (e66 : σ' 6 6 = σ 6 6 + 1) (e24 : ∀ j, σ' 24 j = if j = i then 1 else σ 24 j) (e25 : ∀ j, σ' 25 j = if j = i then p else σ 25 j) (e26 : ∀ j, σ' 26 j = if j = i then (c : Int) else σ 26 j) (e27 : ∀ j, σ' 27 j = if j = i then bo else σ 27 j) (e28 : ∀ j, σ' 28 j = if j = i then (s : Int) else σ 28 j)
    (t22 : τ' 0 22 = (nf : Int) + 1) (t13 : ∀ j, τ' 13 j = if j = nf then 268435456 + (i : Int) else τ 13 j) (t14 : ∀ j, τ' 14 j = if j = nf then p else τ 14 j) (t15 : ∀ j, τ' 15 j = if j = nf then bo else τ 15 j) : z_FN A B st K σ' τ' := by
  obtain ⟨nf', h1, h2, h3, h4, h5, h6⟩ := h
  have en : nf' = nf := by omega
  subst en
  refine ⟨nf' + 1, by omega, by rw [t22]; omega, by rw [e66, h3]; omega, fun f f' a1 a2 a3 => ?_, fun j j1 j2 => ?_, fun f hf1 => ?_⟩
  · rw [t13, t13] at a3
    by_cases c1 : f = nf'
    · by_cases c2 : f' = nf'
      · omega
      · rw [if_pos c1, if_neg c2] at a3
        exact absurd a3.symm (hno f' (by omega))
    · by_cases c2 : f' = nf'
      · rw [if_neg c1, if_pos c2] at a3
        exact absurd a3 (hno f (by omega))
      · rw [if_neg c1, if_neg c2] at a3
        exact h4 f f' (by omega) (by omega) a3
  · rw [e24] at j2
    by_cases c1 : j = i
    · exact ⟨nf', by omega, by rw [t13, if_pos rfl, c1]⟩
    · rw [if_neg c1] at j2
      obtain ⟨f, b1, b2⟩ := h5 j j1 j2
      exact ⟨f, by omega, by rw [t13, if_neg (by omega)]; exact b2⟩
  · by_cases c1 : f = nf'
    · subst c1
      rw [t13, t14, t15, if_pos rfl, if_pos rfl, if_pos rfl]
      exact ⟨i, c, hi, rfl, by rw [e24, if_pos rfl], by rw [e26, if_pos rfl], hc, by rw [e25, if_pos rfl], by rw [e27, if_pos rfl], hp, dp, db, s, k, fin, by rw [e28, if_pos rfl], hk, hC, hf⟩
    · obtain ⟨j, c', g1, g2, g3, g4, g5, g6, g7, g8⟩ := h6 f (by omega)
      have hji : ¬ j = i := fun z => hno f (by omega) (by rw [g2, z])
      rw [t13, t14, t15, if_neg c1, if_neg c1, if_neg c1]
      obtain ⟨g9, g10, g11, s', k', fin', g12, g13⟩ := g8
      exact ⟨j, c', g1, g2, by rw [e24, if_neg hji]; exact g3, by rw [e26, if_neg hji]; exact g4, g5, by rw [e25, if_neg hji]; exact g6, by rw [e27, if_neg hji]; exact g7, g9, g10, g11, s', k', fin', by rw [e28, if_neg hji]; exact g12, g13⟩
/-- what the reference does when it has looked at a body -/
def z_rA (d' : Nat) (R : mj_Q) (v nm : Int) (τ : mj_S) : Prop := mj_B mjm_L mjm_Ms (d' + 49) 34 [.inr (.inl 0), .inl nm] τ (fun r σ4 => ∃ v5, r = some (.inl v5) ∧ (v5 < 0 → (0 ≤ v5 → qh_m35_212 (d' + 49) R v 1 nm v5 σ4) ∧ (v5 < 0 → (¬ (σ4 0 22) = 16 → qh_m35_212 (d' + 49) R v 1 nm v5 σ4) ∧ ((σ4 0 22) = 16 → ∀ σ6, σ6 = z_sp σ4 11 → qh_m35_212 (d' + 49) R v 1 nm v5 σ6))) ∧ (0 ≤ v5 → 0 ≤ v5 ∧ v5 < 16 ∧ mj_B mjm_L mjm_Ms (d' + 49) 8 [.inr (.inl 0), .inl v, .inl 2] σ4 (fun r σ7 => ∃ v8, r = some (.inl v8) ∧ mj_B mjm_L mjm_Ms (d' + 49) 36 [.inr (.inl 0), .inl (σ4 14 v5.toNat), .inl v8, .inl 0] σ7 (fun r σ9 => ∃ v10, r = some (.inl v10) ∧ (v10 = 0 → ∀ σ11, σ11 = z_sp σ9 10 → qh_m35_212 (d' + 49) R v 1 nm v5 σ11) ∧ (¬ v10 = 0 → 0 ≤ v5 ∧ v5 < 16 ∧ mj_B mjm_L mjm_Ms (d' + 49) 8 [.inr (.inl 0), .inl v, .inl 3] σ9 (fun r σ12 => ∃ v13, r = some (.inl v13) ∧ mj_B mjm_L mjm_Ms (d' + 49) 36 [.inr (.inl 0), .inl (σ9 15 v5.toNat), .inl v13, .inl 0] σ12 (fun r σ14 => ∃ v15, r = some (.inl v15) ∧ (¬ v15 = 0 → (0 ≤ v5 → qh_m35_212 (d' + 49) R v 1 nm v5 σ14) ∧ (v5 < 0 → (¬ (σ14 0 22) = 16 → qh_m35_212 (d' + 49) R v 1 nm v5 σ14) ∧ ((σ14 0 22) = 16 → ∀ σ16, σ16 = z_sp σ14 11 → qh_m35_212 (d' + 49) R v 1 nm v5 σ16))) ∧ (v15 = 0 → ∀ σ17, σ17 = z_sp σ14 10 → qh_m35_212 (d' + 49) R v 1 nm v5 σ17))))))))
/-- the function's name, parameters and body become known in both -/
theorem x_add {A B : Nat → Int} {st len c i fin k sp sb : Nat} {v nm p bo : Int} {σ τ : mj_S} (hst : st ≤ 400) (hs : z_sa A B (σ 11) (σ 12) (τ 4) (τ 5) st) (h5 : τ 0 5 = 0) (FN : z_FN A B st (z_zK σ) σ τ) (hD : z_dt A B st v) (hl4 : z_isl B v 4) (e1 : z_el A B v 1 = nm) (e2 : z_el A B v 2 = p) (e3 : z_el A B v 3 = bo) (ei : nm = 268435456 + (i : Int)) (hi : i < 60) (hp : z_isl B p c) (hc : c ≤ 5) (dp : z_D A B (z_bw A) 0 st 12 sp p) (db : z_D A B (z_bw A) 0 st 12 sb bo) (hsp : sp ≤ 400) (hsb : sb ≤ 400) (hk : k ≤ 12) (hC : z_C A B (z_zK σ) k (z_bd (fun j => z_el A B p j) 0 c []) bo ((c : Int) + 1) true len fin) (hf : z_in (z_zK σ) fin 11 0 0) {d : Nat} {Q : mj_Q}
    (hold : ∀ (e : Int) (σ' τ' : mj_S), (e = 0 ∨ e = 10 ∨ e = 11) → (∀ q k, ¬ (q = 16 ∨ q = 17 ∨ (q = 2 ∧ k = 11)) → σ' q k = σ q k) → (∀ q k, ¬ (q = 8 ∨ (q = 0 ∧ k = 5)) → τ' q k = τ q k) → τ' 0 5 = e → (∀ (d' : Nat) (R : mj_Q), R (some (.inl (if e = 0 then 1 else 0))) τ' → z_rA d' R v nm τ) → Q (some (.inl e)) σ')
    (hnew : ∀ (σ' τ' : mj_S), (∀ q k, ¬ ((24 ≤ q ∧ q ≤ 28) ∨ (q = 6 ∧ k = 6)) → σ' q k = σ q k) → (∀ q k, ¬ ((q = 0 ∧ k = 22) ∨ (13 ≤ q ∧ q ≤ 15)) → τ' q k = τ q k) → z_FN A B st (z_zK σ) σ' τ' → σ' 6 6 = σ 6 6 + 1 → τ' 0 22 = τ 0 22 + 1 → (∀ (d' : Nat) (R : mj_Q), R (some (.inl 1)) τ' → z_rA d' R v nm τ) → Q (some (.inl 0)) σ') : mj_B mjc_L mjc_Ms (d + 49) 82 [.inr (.inl 6), .inl v, .inl (len : Int)] σ Q := by
  have sbc : z_sb A B (σ 11) (σ 12) st := fun i a b => ⟨(hs i a b).1, (hs i a b).2.1⟩
  have sbm : z_sb A B (τ 4) (τ 5) st := fun i a b => ⟨(hs i a b).2.2.1, (hs i a b).2.2.2⟩
  have cel : ∀ i, i < 4 → z_el (σ 11) (σ 12) v i = z_el A B v i := fun i hi => z_sb_el sbc hD hl4.1 hi
  have cnt : ∀ i, i ≤ 3 → z_dr (z_nth (σ 12) v i) := fun i hi => by
    rw [z_sb_nth sbc hD hl4.1 i (by omega)]
    have := hl4.1.1 i (by omega)
    omega
  have FN0 := FN
  obtain ⟨nf, n1, n2, n3, n4, n5, n6⟩ := FN
  refine wq_c82 (d := d + 48) (t_c22 (d := d + 46) (k := 1) (by decide) (fun i hi => cnt i (by omega)) ⟨_, rfl, ?_⟩)
  rw [cel 1 (by decide), e1, ei, show 268435456 + (i : Int) - 268435456 = (i : Int) by omega, Int.toNat_natCast]
  refine ⟨by unfold mj_r; omega, fun z => absurd z (by omega), fun _ => ⟨fun _ => ?_, fun z => absurd z (by omega)⟩⟩
  refine t_c22 (d := d + 46) (k := 2) (by decide) (fun i hi => cnt i (by omega)) ⟨_, rfl, t_c22 (d := d + 46) (k := 3) (by decide) (fun i hi => cnt i (by omega)) ⟨_, rfl, by omega, by omega, ?_⟩⟩
  rw [cel 2 (by decide), cel 3 (by decide), e2, e3]
  refine ⟨fun z => ?_, fun z => ?_⟩
  · have hno : ∀ f : Nat, f < nf → ¬ τ 13 f = nm := fun f hf1 hf2 => by
      obtain ⟨j, c', g1, g2, g3, _⟩ := n6 f hf1
      have : j = i := by omega
      rw [this, z] at g3
      exact absurd g3 (by decide)
    refine ⟨fun z16 => ?_, fun z16 => ?_⟩
    · refine ⟨by omega, by omega, Or.inr rfl, fun σ7 q7 => ⟨by omega, by omega, fun σ8 q8 => ?_⟩⟩
      have o8 : ∀ q k, ¬ (q = 24 ∨ q = 25) → σ8 q k = σ q k := fun q k w => by rw [q8, mj_up_ne (by omega), q7, mj_up_ne (by omega)]
      have l8 : z_isl (σ8 12) p c := by
        have : σ8 12 = σ 12 := by funext k; exact o8 12 k (by omega)
        rw [this]
        exact ⟨z_sb_len sbc ⟨sp, dp⟩ hp.1, by rw [z_sb_nth sbc ⟨sp, dp⟩ hp.1 c (Nat.le_refl _)]; exact hp.2⟩
      refine t_c23 (d := d + 46) l8.1 (by omega) ⟨_, rfl, by omega, by omega, fun σ11 q11 => ⟨by omega, by omega, fun σ12 q12 => ⟨by omega, by omega, fun σ13 q13 => ?_⟩⟩⟩
      rw [(z_ln_2 l8.1 c).mpr l8] at q11
      have o13 : ∀ q k, ¬ (24 ≤ q ∧ q ≤ 28) → σ13 q k = σ q k := fun q k w => by rw [q13, mj_up_ne (by omega), q12, mj_up_ne (by omega), q11, mj_up_ne (by omega)]; exact o8 q k (by omega)
      have e66 : σ13 6 6 = nf := by rw [o13 6 6 (by omega)]; exact n3
      rw [e66]
      refine ⟨by unfold mj_r; omega, fun σ14 q14 => ?_⟩
      have ev : ∀ (q : Nat) (x : Int) (a b : mj_S), a = mj_up b q i x → ∀ j, a q j = if j = i then x else b q j := fun q x a b h j => by
        rw [h]
        by_cases e : j = i
        · rw [e, mj_up_eq, if_pos rfl]
        · rw [mj_up_ne (by omega), if_neg e]
      have x24 : ∀ j, σ14 24 j = if j = i then 1 else σ 24 j := fun j => by rw [q14, mj_up_ne (by omega), q13, mj_up_ne (by omega), q12, mj_up_ne (by omega), q11, mj_up_ne (by omega), q8, mj_up_ne (by omega)]; exact ev 24 1 σ7 σ q7 j
      have x25 : ∀ j, σ14 25 j = if j = i then p else σ 25 j := fun j => by
        rw [q14, mj_up_ne (by omega), q13, mj_up_ne (by omega), q12, mj_up_ne (by omega), q11, mj_up_ne (by omega), ev 25 p σ8 σ7 q8 j, q7, mj_up_ne (by omega)]
      have x26 : ∀ j, σ14 26 j = if j = i then (c : Int) else σ 26 j := fun j => by
        rw [q14, mj_up_ne (by omega), q13, mj_up_ne (by omega), q12, mj_up_ne (by omega), ev 26 c σ11 σ8 q11 j, o8 26 j (by omega)]
      have x27 : ∀ j, σ14 27 j = if j = i then bo else σ 27 j := fun j => by
        rw [q14, mj_up_ne (by omega), q13, mj_up_ne (by omega), ev 27 bo σ12 σ11 q12 j, q11, mj_up_ne (by omega), o8 27 j (by omega)]
      have x28 : ∀ j, σ14 28 j = if j = i then (len : Int) else σ 28 j := fun j => by
        rw [q14, mj_up_ne (by omega), ev 28 len σ13 σ12 q13 j, q12, mj_up_ne (by omega), q11, mj_up_ne (by omega), o8 28 j (by omega)]
      have x66 : σ14 6 6 = σ 6 6 + 1 := by rw [q14, mj_up_eq, n3]
      have um : ∀ (q : Nat) (x : Int) (b : mj_S) (j : Nat), mj_up b q nf x q j = if j = nf then x else b q j := fun q x b j => by
        by_cases e : j = nf
        · rw [e, mj_up_eq, if_pos rfl]
        · rw [mj_up_ne (by omega), if_neg e]
      refine hnew σ14 (mj_up (mj_up (mj_up (mj_up τ 13 nf nm) 14 nf p) 15 nf bo) 0 22 ((nf : Int) + 1)) (fun q k w => by rw [q14, mj_up_ne (by omega)]; exact o13 q k (by omega)) (fun q k w => by rw [mj_up_ne (by omega), mj_up_ne (by omega), mj_up_ne (by omega), mj_up_ne (by omega)]) (z_FN_add FN0 n2 (by omega) hi z (fun f hf1 => by rw [← ei]; exact hno f hf1) hc hp ⟨sp, dp⟩ ⟨sb, db⟩ hk hC hf x66 x24 x25 x26 x27 x28 mj_up_eq (fun j => ?_) (fun j => ?_) (fun j => ?_)) x66 (by rw [mj_up_eq, n2]) (fun d' R hR => ?_)
      · rw [mj_up_ne (by omega), mj_up_ne (by omega), mj_up_ne (by omega), um, ei]
      · rw [mj_up_ne (by omega), mj_up_ne (by omega), um, mj_up_ne (by omega)]
      · rw [mj_up_ne (by omega), um, mj_up_ne (by omega), mj_up_ne (by omega)]
      · unfold z_rA
        refine t_m34 (d := d' + 48) n2 n1 (fun f a1 a2 => absurd a2 (hno f a1)) (fun _ => ⟨_, rfl, fun _ => ⟨fun w => absurd w (by decide), fun _ => ⟨fun _ => ?_, fun w => absurd w (by omega)⟩⟩, fun w => absurd w (by decide)⟩)
        refine qw_m35_212 (d := d' + 48) ⟨fun _ => ⟨fun w => absurd w (by decide), fun _ => ?_⟩, fun w => absurd w (by omega)⟩
        rw [n2, Int.toNat_natCast]
        refine ⟨by omega, by omega, fun τ1 f1 => ?_⟩
        have t1 : ∀ q k, ¬ q = 13 → τ1 q k = τ q k := fun q k w => by rw [f1, mj_up_ne (by omega)]
        have s1 : z_sb A B (τ1 4) (τ1 5) st := fun i a b => by rw [t1 4 i (by omega), t1 5 i (by omega)]; exact sbm i a b
        refine x_m8 (A := A) (B := B) (st := st) (d := d' + 47) (k := 2) hst s1 hD hl4.1 (by decide) ⟨_, rfl, ?_⟩
        rw [t1 0 22 (by omega), n2, Int.toNat_natCast, e2]
        refine ⟨by omega, by omega, fun τ4 f4 => ?_⟩
        have t4 : ∀ q k, ¬ (q = 13 ∨ q = 14) → τ4 q k = τ q k := fun q k w => by rw [f4, mj_up_ne (by omega)]; exact t1 q k (by omega)
        have s4 : z_sb A B (τ4 4) (τ4 5) st := fun i a b => by rw [t4 4 i (by omega), t4 5 i (by omega)]; exact sbm i a b
        refine x_m8 (A := A) (B := B) (st := st) (d := d' + 47) (k := 3) hst s4 hD hl4.1 (by decide) ⟨_, rfl, ?_⟩
        rw [t4 0 22 (by omega), n2, Int.toNat_natCast, e3]
        refine ⟨by omega, by omega, fun τ7 f7 => ?_⟩
        have t7 : τ7 0 22 = nf := by rw [f7, mj_up_ne (by omega), t4 0 22 (by omega)]; exact n2
        rw [t7]
        refine ⟨by unfold mj_r; omega, fun τ8 f8 => ?_⟩
        rw [f8, f7, f4, f1]
        exact hR
    · have en : nf = 16 := by omega
      refine hold 11 σ (mj_up τ 0 5 11) (Or.inr (Or.inr rfl)) (fun _ _ _ => rfl) (fun q k w => mj_up_ne (by omega)) mj_up_eq (fun d' R hR => ?_)
      rw [if_neg (by decide)] at hR
      unfold z_rA
      refine t_m34 (d := d' + 48) n2 n1 (fun f a1 a2 => absurd a2 (hno f a1)) (fun _ => ⟨_, rfl, fun _ => ⟨fun w => absurd w (by decide), fun _ => ⟨fun w => absurd (by rw [n2, en]; rfl) w, fun _ τ6 f6 => ?_⟩⟩, fun w => absurd w (by decide)⟩)
      rw [z_sp0 h5] at f6
      refine qw_m35_212 (d := d' + 48) ⟨fun w => absurd w (by rw [f6, mj_up_eq]; decide), fun _ => ?_⟩
      rw [f6]
      exact hR
  · obtain ⟨f, f1, f2⟩ := n5 i hi z
    obtain ⟨j, c', g1, g2, g3, g4, g5, g6, g7, g8, g9, g10, _⟩ := n6 f f1
    have hj : j = i := by omega
    subst hj
    have huq : ∀ f' : Nat, f' < nf → τ 13 f' = nm → f' = f := fun f' a1 a2 => n4 f' f a1 f1 (by rw [a2, f2, ei])
    have ref0 : ∀ (d' : Nat) (R : mj_Q), (mj_B mjm_L mjm_Ms (d' + 49) 36 [.inr (.inl 0), .inl (τ 14 f), .inl p, .inl 0] τ (fun r σ9 => ∃ v10, r = some (.inl v10) ∧ (v10 = 0 → ∀ σ11, σ11 = z_sp σ9 10 → qh_m35_212 (d' + 49) R v 1 nm (f : Int) σ11) ∧ (¬ v10 = 0 → 0 ≤ (f : Int) ∧ (f : Int) < 16 ∧ mj_B mjm_L mjm_Ms (d' + 49) 8 [.inr (.inl 0), .inl v, .inl 3] σ9 (fun r σ12 => ∃ v13, r = some (.inl v13) ∧ mj_B mjm_L mjm_Ms (d' + 49) 36 [.inr (.inl 0), .inl (σ9 15 (f : Int).toNat), .inl v13, .inl 0] σ12 (fun r σ14 => ∃ v15, r = some (.inl v15) ∧ (¬ v15 = 0 → (0 ≤ (f : Int) → qh_m35_212 (d' + 49) R v 1 nm (f : Int) σ14) ∧ ((f : Int) < 0 → (¬ (σ14 0 22) = 16 → qh_m35_212 (d' + 49) R v 1 nm (f : Int) σ14) ∧ ((σ14 0 22) = 16 → ∀ σ16, σ16 = z_sp σ14 11 → qh_m35_212 (d' + 49) R v 1 nm (f : Int) σ16))) ∧ (v15 = 0 → ∀ σ17, σ17 = z_sp σ14 10 → qh_m35_212 (d' + 49) R v 1 nm (f : Int) σ17)))))) → z_rA d' R v nm τ := by
      intro d' R h
      unfold z_rA
      refine t_m34 (d := d' + 48) n2 n1 (fun f' a1 a2 => ?_) (fun no => absurd (by rw [f2, ei]) (no f f1))
      have ef := huq f' a1 a2
      subst ef
      refine ⟨_, rfl, fun w => absurd w (by omega), fun _ => ⟨by omega, by omega, ?_⟩⟩
      rw [Int.toNat_natCast]
      refine x_m8 (A := A) (B := B) (st := st) (d := d' + 47) (k := 2) hst sbm hD hl4.1 (by decide) ⟨_, rfl, ?_⟩
      rw [e2]
      exact h
    have r10 : ∀ (d' : Nat) (R : mj_Q) (τ' τx : mj_S), τ' 0 5 = 0 → τx = z_sp τ' 10 → R (some (.inl 0)) (mj_up τ' 0 5 10) → qh_m35_212 (d' + 49) R v 1 nm (f : Int) τx := by
      intro d' R τ' τx h50 ex hR
      rw [z_sp0 h50] at ex
      refine qw_m35_212 (d := d' + 48) ⟨fun w => absurd w (by rw [ex, mj_up_eq]; decide), fun _ => ?_⟩
      rw [ex]
      exact hR
    rw [g6]
    refine ⟨by omega, by omega, t_again (d := d + 45) hs dp hsp g9 (fun v1 σ' τ' k1 k2 hv ref1 => ⟨_, rfl, fun w => ?_, fun w => ?_⟩)⟩
    · subst w
      have h50 : τ' 0 5 = 0 := by rw [k2 0 5 (by omega)]; exact h5
      refine hold 10 σ' (mj_up τ' 0 5 10) (Or.inr (Or.inl rfl)) k1 (fun q k w => by rw [mj_up_ne (by omega)]; exact k2 q k (by omega)) mj_up_eq (fun d' R hR => ref0 d' R (ref1 (d' + 46) _ ⟨_, rfl, fun _ τx ex => ?_, fun w => absurd rfl w⟩))
      rw [if_neg (by decide)] at hR
      exact r10 d' R τ' τx h50 ex hR
    · have ev1 : v1 = 1 := by omega
      subst ev1
      have hs' : z_sa A B (σ' 11) (σ' 12) (τ' 4) (τ' 5) st := fun i a b => by rw [k1 11 i (by omega), k1 12 i (by omega), k2 4 i (by omega), k2 5 i (by omega)]; exact hs i a b
      have sbm' : z_sb A B (τ' 4) (τ' 5) st := fun i a b => ⟨(hs' i a b).2.2.1, (hs' i a b).2.2.2⟩
      rw [k1 27 j (by omega), g7]
      have h50 : τ' 0 5 = 0 := by rw [k2 0 5 (by omega)]; exact h5
      refine ⟨by omega, by omega, t_again (d := d + 45) hs' db hsb g10 (fun v2 σ2 τ2 m1 m2 hv2 ref2 => ?_)⟩
      have h52 : τ2 0 5 = 0 := by rw [m2 0 5 (by omega)]; exact h50
      have go2 : ∀ (d' : Nat) (R : mj_Q), (v2 = 0 → R (some (.inl 0)) (mj_up τ2 0 5 10)) → (v2 = 1 → R (some (.inl 1)) τ2) → z_rA d' R v nm τ := by
        intro d' R y1 y2
        refine ref0 d' R (ref1 (d' + 46) _ ⟨_, rfl, fun w => absurd w (by decide), fun _ => ⟨by omega, by omega, ?_⟩⟩)
        refine x_m8 (A := A) (B := B) (st := st) (d := d' + 47) (k := 3) hst sbm' hD hl4.1 (by decide) ⟨_, rfl, ?_⟩
        rw [e3, Int.toNat_natCast, k2 15 f (by omega)]
        refine ref2 (d' + 46) _ ⟨_, rfl, fun w => ⟨fun _ => ?_, fun w => absurd w (by omega)⟩, fun w τx ex => ?_⟩
        · exact qw_m35_212 (d := d' + 48) ⟨fun _ => ⟨fun _ => y2 (by omega), fun w => absurd w (by omega)⟩, fun w => absurd w (by omega)⟩
        · exact r10 d' R τ2 τx h52 ex (y1 w)
      refine ⟨_, rfl, fun w => ?_, fun w => ?_⟩
      · refine hold 10 σ2 (mj_up τ2 0 5 10) (Or.inr (Or.inl rfl)) (fun q k w => by rw [m1 q k w, k1 q k w]) (fun q k w => by rw [mj_up_ne (by omega), m2 q k (by omega), k2 q k (by omega)]) mj_up_eq (fun d' R hR => go2 d' R (fun _ => by rw [if_neg (by decide)] at hR; exact hR) (fun w2 => absurd w (by omega)))
      · refine hold 0 σ2 τ2 (Or.inl rfl) (fun q k w => by rw [m1 q k w, k1 q k w]) (fun q k w => by rw [m2 q k (by omega), k2 q k (by omega)]) h52 (fun d' R hR => go2 d' R (fun w2 => absurd w2 w) (fun _ => by rw [if_pos rfl] at hR; exact hR))
