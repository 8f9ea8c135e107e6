/-! one call on both -/
theorem z_R_cnt {C : Int} {lv : Prop} {σ τ : mj_S} (R : z_R C lv σ τ) : mj_r (σ 2 0 - σ 2 9) ∧ ∀ w, sc_cnt σ w = sm_cnt τ w := by
  obtain ⟨r1, r2, r3, r4, r5, r6, r7, r8, r9, r10, r11, r12⟩ := R
  obtain ⟨be, _, sz, fo, ga, U, tm, ck, HP, _, _, _⟩ := r4
  obtain ⟨p1, p2, p3, p4, p5, p6, p7, p8, p9, p10, p11, p12, p13⟩ := HP
  obtain ⟨S, fuel, u1, u2, u3, u4, u5⟩ := r9
  obtain ⟨nf, n1, n2, n3, _⟩ := r5
  have e : σ 2 0 - σ 2 9 = τ 0 12 := by omega
  refine ⟨by unfold mj_r; omega, fun w => ?_⟩
  unfold sc_cnt sm_cnt
  rw [r7.1, n3, n2, r2.1, r3.1, e, p13, u4, u5, r10.1, r8.1]
theorem wh_step (j : Nat) (hj : j < 512) : lw_step 60 (fun σ τ => z_R (406000 * (j : Int)) False σ τ) (fun σ τ => z_R (406000 * ((j + 1 : Nat) : Int)) False σ τ) := by
  have hC : 406000 * (j : Int) ≤ 1200000000 := by omega
  have mo : ∀ {σ τ : mj_S}, z_R (406000 * (j : Int)) False σ τ → z_R (406000 * ((j + 1 : Nat) : Int)) False σ τ := fun R => z_R_mo R (by omega)
  refine ⟨fun σ τ R => mo R, ?_, ?_, ?_, ?_, ?_, ?_, ?_⟩
  · intro σ τ c R _ _ c0 c1
    have X := R.1
    obtain ⟨n, hn⟩ : ∃ n : Nat, σ 3 3 = n := ⟨(σ 3 3).toNat, by have := X.2.2.2.1; omega⟩
    have hn3 := X.2.2.2.2
    have hm : τ 0 2 = n := by rw [← X.2.2.1]; exact hn
    refine sc_type (d := 58) X.2.2.2.1 hn3 ⟨c0, c1⟩ (fun z => ⟨1, rfl, sm_type (d := 59) (by omega) (by omega) ⟨c0, c1⟩ (fun _ => ⟨rfl, ?_⟩) (fun w => absurd w (by omega))⟩) (fun z => ⟨0, rfl, sm_type (d := 59) (by omega) (by omega) ⟨c0, c1⟩ (fun w => absurd w (by omega)) (fun _ => ⟨rfl, mo (z_R_fr R (fun _ _ _ => rfl) (fun q k w => mj_up_ne (by omega)))⟩)⟩)
    rw [hn, hm, Int.toNat_natCast]
    refine mo (z_R_tx R ⟨?_, fun i => ?_, ?_, ?_, ?_⟩ (fun q k w => by rw [mj_up_ne (by omega), mj_up_ne (by omega)]) (fun q k w => by rw [mj_up_ne (by omega), mj_up_ne (by omega), mj_up_ne (by omega)]))
    · funext k
      rw [mj_up_ne (q := 3) (by omega), mj_up_ne (q := 0) (k := 2) (by omega)]
      by_cases e : k = n
      · rw [e, mj_up_eq, mj_up_eq]
      · rw [mj_up_ne (by omega), mj_up_ne (by omega), mj_up_ne (by omega), X.1]
    · rw [mj_up_ne (by omega)]
      by_cases e : i = n
      · rw [e, mj_up_eq]; exact ⟨c0, c1⟩
      · rw [mj_up_ne (by omega)]; exact X.2.1 i
    · rw [mj_up_eq, mj_up_eq]
    · rw [mj_up_eq]; omega
    · rw [mj_up_eq]; omega
  · intro σ τ R _ _
    have X := R.1
    refine sc_clear (d := 58) ⟨_, rfl, sm_clear (d := 59) ⟨by rw [X.2.2.1], ?_⟩⟩
    refine mo (z_R_tx R ⟨?_, fun i => ?_, ?_, ?_, ?_⟩ (fun q k w => mj_up_ne (by omega)) (fun q k w => by rw [mj_up_ne (by omega), mj_up_ne (by omega)]))
    · funext k
      rw [mj_up_ne (by omega), mj_up_ne (by omega), mj_up_ne (by omega), X.1]
    · rw [mj_up_ne (by omega)]; exact X.2.1 i
    · rw [mj_up_eq, mj_up_eq]
    · rw [mj_up_eq]; exact Int.le_refl _
    · rw [mj_up_eq]; decide
  · intro σ τ x R _ _ _ x0 x1
    refine t_run (d := 8) R hC x0 x1 (fun e σ' τ' R' e01 ref => ⟨e, rfl, ref 8 _ ⟨rfl, e01, z_R_mo R' (by omega)⟩⟩)
  · intro σ τ x R _ _ _ hx
    have fin : ∀ τ' : mj_S, τ' = mj_up τ 0 1 1 → (∃ v : Int, (some (.inl 0) : Option mj_V) = some (.inl v)) ∧ τ' 0 1 = 1 ∧ z_R (406000 * ((j + 1 : Nat) : Int)) False σ τ' := fun τ' e => ⟨⟨0, rfl⟩, by rw [e, mj_up_eq], by rw [e]; exact mo (z_R_fr R (fun _ _ _ => rfl) (fun q k w => mj_up_ne (by omega)))⟩
    exact wq_m59 (d := 58) ⟨fun _ τ1 q1 => ⟨fun w => absurd w (by rw [q1, mj_up_eq]; decide), fun _ => fin τ1 q1⟩, fun z => ⟨fun w => absurd w (by omega), fun _ τ1 q1 => ⟨fun w => absurd w (by rw [q1, mj_up_eq]; decide), fun _ => fin τ1 q1⟩⟩⟩
  · intro σ τ x R _ _ _ x0 x1
    have P := R.2.2.2.2.2.2.1
    obtain ⟨p1, p2, p3, p4⟩ := P
    obtain ⟨i, ei⟩ : ∃ i : Nat, x = i := ⟨x.toNat, by omega⟩
    obtain ⟨a1, a2⟩ := p4 i (by omega)
    have et : x.toNat = i := by omega
    refine wp_c3 (d := 59) ⟨fun z => absurd z (by omega), fun _ => wp_c111 (d := 58) ⟨_, rfl, fun _ => wp_c112 (d := 58) ⟨fun z => absurd z (by omega), fun _ => ⟨fun z => absurd z (by omega), fun _ => ⟨x0, by omega, by rw [et]; exact a2, _, rfl, by rw [et]; exact a2, _, rfl, ?_⟩⟩⟩, fun z => absurd z (by omega)⟩⟩
    refine sm_output0 (d := 59) (by omega) (by omega) (fun _ _ => ?_) (fun z => absurd z (by omega))
    rw [et, ← a1]
    exact ⟨a2, rfl, mj_up_eq, mo (z_R_fr R (fun _ _ _ => rfl) (fun q k w => mj_up_ne (by omega)))⟩
  · intro σ τ x R _ _ _ hx
    have P := R.2.2.2.2.2.2.1
    obtain ⟨p1, p2, p3, p4⟩ := P
    exact sm_output0 (d := 59) (by omega) (by omega) (fun a b => absurd hx (by omega)) (fun _ => ⟨⟨_, rfl⟩, mj_up_eq, mo (z_R_fr R (fun _ _ _ => rfl) (fun q k w => mj_up_ne (by omega)))⟩)
  · intro σ τ x R _ _ _
    obtain ⟨c1, c2⟩ := z_R_cnt R
    exact sc_count (d := 58) c1 ⟨_, rfl, sm_count (d := 59) ⟨by rw [c2], mo (z_R_fr R (fun _ _ _ => rfl) (fun q k w => mj_up_ne (by omega)))⟩⟩
theorem wh_chars : ∀ i, i < 21 → ∀ k, k < 8 → 0 ≤ (sy_21.getD i []).getD k 0 ∧ (sy_21.getD i []).getD k 0 ≤ 65535 := by decide
theorem wh_init (x : Int) (σ τ : mj_S) (hx : mj_r x) (h1 : sy_SP sy_21 σ) (h2 : mk_SP (cl_sz x) sy_21 τ) : z_R (406000 * ((0 : Nat) : Int)) False (fC (cl_sz x) σ) τ := by
  obtain ⟨a1, a2, a3⟩ := h1
  obtain ⟨b1, b2, b3, b4, b5⟩ := h2
  have lo := cl_sz_lo x
  have hi := cl_sz_hi x
  generalize cl_sz x = z at lo hi b3
  have t0 : ∀ q k, q ≠ 2 → q ≠ 3 → ¬ (q = 0 ∧ (k = 0 ∨ k = 6)) → τ q k = 0 := b5
  have s0 : ∀ q k, ¬ (q = 1 ∨ q = 2 ∨ (9 ≤ q ∧ q ≤ 17)) → fC z σ q k = 0 := fun q k h => by
    unfold fC
    rw [if_neg (by omega), if_neg (by omega), if_neg (by omega), if_neg (by omega), if_neg (by omega)]
  have s2 : ∀ k, fC z σ 2 k = if k = 0 then z else if k = 9 then z else 0 := fun k => rfl
  have s20 : fC z σ 2 0 = z := rfl
  have s29 : fC z σ 2 9 = z := rfl
  have s28 : fC z σ 2 8 = 0 := rfl
  have s210 : fC z σ 2 10 = 0 := rfl
  have s13 : ∀ k, fC z σ 13 k = if (k : Int) < z then (k : Int) else 0 := fun k => rfl
  have s1 : fC z σ 1 2 = 21 := a2
  have s43 : fC z σ 4 3 = 0 := s0 4 3 (by omega)
  obtain ⟨zn, hz⟩ : ∃ zn : Nat, z = zn := ⟨z.toNat, by omega⟩
  refine ⟨⟨?_, fun i => ?_, ?_, ?_, ?_⟩, ⟨?_, ?_, ?_, fun i hi' => ?_⟩, ⟨?_, ?_, ?_, fun i hi' => ?_⟩, ⟨id, ?_, zn, zn, id, fun _ => false, fun _ => 0, 0, ⟨?_, ?_, ?_, ?_, ?_, z_bij_id zn, fun t ht => ?_, fun t t' ht ht' => ?_, fun i hi' => ?_, fun i hi' => ?_, ?_, ?_, ?_⟩, fun j h => Bool.noConfusion h, fun j _ h => Bool.noConfusion h, fun j h => Bool.noConfusion h⟩, ⟨0, by omega, ?_, ?_, fun f f' h => absurd h (Nat.not_lt_zero f), fun i _ h => absurd (s0 24 i (by omega)) h, fun f h => absurd h (Nat.not_lt_zero f)⟩, ?_, ⟨?_, ?_, ?_, fun i hi' => ?_⟩, ?_, ⟨0, 0, Nat.le_refl _, by omega, fun h => h.elim, ?_, ?_⟩, ?_, ?_, ?_⟩
  · funext k; rw [s0 18 k (by omega), t0 1 k (by omega) (by omega) (by omega)]
  · rw [s0 18 i (by omega)]; decide
  · rw [s0 3 3 (by omega), t0 0 2 (by omega) (by omega) (by omega)]
  · rw [s0 3 3 (by omega)]; decide
  · rw [s0 3 3 (by omega)]; decide
  · rw [s1, b2]; rfl
  · rw [s1]; decide
  · rw [s1]; decide
  · rw [s1] at hi'
    have hi2 : i < sy_21.length := by show i < 21; omega
    obtain ⟨g1, g2, g3, g4⟩ := a1 i hi2
    obtain ⟨k1, k2, k3, k4⟩ := b1 i hi2
    have e10 : fC z σ 10 i = σ 2 i := rfl
    rw [e10]
    refine ⟨by rw [g1, k1], by omega, by omega, fun k hk => ?_⟩
    have e9 : fC z σ 9 (8 * i + k) = σ 1 (8 * i + k) := rfl
    rw [e9, g4 k (by omega), k4 k (by omega)]
    exact ⟨rfl, wh_chars i (by omega) k (by omega)⟩
  · rw [s28, t0 0 11 (by omega) (by omega) (by omega)]
  · rw [s28]; decide
  · rw [s28]; decide
  · rw [s28] at hi'; exact absurd hi' (by omega)
  · intro i hi'
    rw [s28] at hi'
    exact absurd hi' (Nat.not_lt_zero i)
  · rw [s20]; exact hz
  · rw [b3]; exact hz
  · omega
  · omega
  · rw [s29]; exact hz
  · rw [s13, if_pos (by omega)]; omega
  · rw [s13, s13, if_pos (by omega), if_pos (by omega)]; omega
  · refine ⟨fun h => Bool.noConfusion h, fun h => absurd ?_ (h i hi')⟩
    rw [s13, if_pos (by omega)]
  · rw [t0 6 _ (by omega) (by omega) (by omega)]
    rfl
  · rw [t0 0 12 (by omega) (by omega) (by omega), z_cnt_0 (fun _ _ => rfl)]
    rfl
  · rw [z_cnt_0 (fun _ _ => rfl)]; omega
  · rw [s210, t0 0 13 (by omega) (by omega) (by omega)]
  · rw [t0 0 22 (by omega) (by omega) (by omega)]; rfl
  · rw [s0 6 6 (by omega)]; rfl
  · rw [s43, s28]; decide
  · rw [s0 8 4 (by omega), t0 0 44 (by omega) (by omega) (by omega)]
  · rw [s0 8 4 (by omega)]; decide
  · rw [s0 8 4 (by omega)]; decide
  · rw [s0 8 4 (by omega)] at hi'; exact absurd hi' (by omega)
  · rw [s0 7 13 (by omega), t0 0 42 (by omega) (by omega) (by omega)]; decide
  · rw [s0 7 12 (by omega)]; rfl
  · rw [t0 0 41 (by omega) (by omega) (by omega)]; rfl
  · rw [s0 0 8 (by omega), t0 0 43 (by omega) (by omega) (by omega)]; decide
  · rw [s210]; decide
  · rw [s210, s0 7 12 (by omega)]; decide
