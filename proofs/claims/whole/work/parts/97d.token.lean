/-! a row, read by both -/
theorem r_dot {σ τ : mj_S} {n a e : Nat} (R : z_RD σ τ) (hn : σ 3 3 = n) (ha : σ 3 4 = a) (he : z_re (σ 18) n (n - a) = e) (h1 : e = a + 1) (h46 : σ 18 a = 46) {d : Nat} {Q : mj_Q} (h : Q (some (.inl (-1))) (mj_up τ 0 4 (e : Int))) : mj_B mjm_L mjm_Ms (d + 4) 16 [.inr (.inl 0)] τ Q := by
  obtain ⟨⟨x1, x2, x3, x4, x5⟩, hY, hS, ⟨t1, t2, t3⟩⟩ := R
  rw [x1] at he h46 x2
  refine t_m16 (d := d + 2) (n := n) (a := a) (by omega) (by omega) (by omega) (by omega) he (by omega) x2 (fun _ _ => h) (fun z _ => ?_) (fun z => absurd ⟨h1, h46⟩ z) (fun _ _ z => ?_)
  · have := z a (Nat.le_refl _) (by omega)
    rw [h46] at this
    exact absurd this (by decide)
  · have := z a (Nat.le_refl _) (by omega)
    rw [h46] at this
    exact absurd this (by decide)
theorem r_row {σ τ : mj_S} {n a e : Nat} (R : z_RD σ τ) (h5 : τ 0 5 = 0) (hn : σ 3 3 = n) (ha : σ 3 4 = a) (he : z_re (σ 18) n (n - a) = e) (hae : a < e) {d : Nat} {Q : mj_Q}
    (hv : ∀ (v : Int) (σ' τ' : mj_S), z_F 14 σ τ σ' τ' → z_RD σ' τ' → τ' 0 5 = 0 → τ' 0 17 = τ 0 17 → 0 ≤ v → v < 268435456 + σ' 1 2 → σ' 3 4 = e → σ' 2 8 = σ 2 8 → (∀ (d' : Nat) (Q' : mj_Q), Q' (some (.inl v)) τ' → mj_B mjm_L mjm_Ms (d' + 4) 16 [.inr (.inl 0)] τ Q') → Q (some (.inl v)) σ')
    (hx : ∀ (c : Int) (σ' τ' : mj_S), z_F 14 σ τ σ' τ' → z_X σ' τ' → z_Y σ' τ' → τ' 0 5 = c → ((c = 1 ∨ c = 11) ∧ z_pl τ') → (∀ (d' : Nat) (Q' : mj_Q), Q' (some (.inl 268435456)) τ' → mj_B mjm_L mjm_Ms (d' + 4) 16 [.inr (.inl 0)] τ Q') → Q (some (.inl (-c))) σ')
    (hdot : e = a + 1 → σ 18 a = 46 → Q (some (.inl (-1))) (mj_up σ 3 4 (e : Int))) : mj_B mjc_L mjc_Ms (d + 4) 44 [.inr (.inl 3)] σ Q := by
  have R0 := R
  obtain ⟨⟨x1, x2, x3, x4, x5⟩, ⟨y1, y2, y3, y4⟩, hS, ⟨t1, t2, t3⟩⟩ := R
  have hle := z_re_le (σ 18) n (n - a) (by omega)
  rw [he] at hle
  have R1 : z_RD (mj_up σ 3 4 (e : Int)) (mj_up τ 0 4 (e : Int)) := z_RD_at R0 (by omega) (by omega)
  have F1 : z_F 14 σ τ (mj_up σ 3 4 (e : Int)) (mj_up τ 0 4 (e : Int)) := z_F_at (by omega)
  have g5 : mj_up τ 0 4 (e : Int) 0 5 = 0 := by rw [mj_up_ne (by omega)]; exact h5
  have g17 : mj_up τ 0 4 (e : Int) 0 17 = τ 0 17 := mj_up_ne (by omega)
  have gs : mj_up σ 3 4 (e : Int) 2 8 = σ 2 8 := mj_up_ne (by omega)
  have g4 : mj_up σ 3 4 (e : Int) 3 4 = e := mj_up_eq
  have g12 : mj_up σ 3 4 (e : Int) 1 2 = σ 1 2 := mj_up_ne (by omega)
  have he' : z_re (τ 1) n (n - a) = e := by rw [← x1]; exact he
  have x2' : ∀ i, 0 ≤ τ 1 i ∧ τ 1 i ≤ 65535 := by rw [← x1]; exact x2
  -- the reference's token here
  have tok : ∀ (d' : Nat) (Q' : mj_Q), (e = a + 1 → σ 18 a = 46 → Q' (some (.inl (-1))) (mj_up τ 0 4 (e : Int))) → (z_ad (σ 18) a e → z_ac (σ 18) a (e - a) 0 ≤ 268435455 → Q' (some (.inl (z_ac (σ 18) a (e - a) 0))) (mj_up τ 0 4 (e : Int))) →
      (¬ (e = a + 1 ∧ σ 18 a = 46) → ¬ (z_ad (σ 18) a e ∧ z_ac (σ 18) a (e - a) 0 ≤ 268435455) → ¬ (¬ z_dg (σ 18 a) ∧ e ≤ a + 8 ∧ z_ag (σ 18) a e) → Q' (some (.inl 268435456)) (mj_up (mj_up τ 0 4 (e : Int)) 0 5 1)) →
      (¬ z_dg (σ 18 a) → e ≤ a + 8 → z_ag (σ 18) a e → mj_B mjm_L mjm_Ms (d' + 3) 17 [.inr (.inl 0), .inl (a : Int), .inl ((e - a : Nat) : Int)] (mj_up τ 0 4 (e : Int)) (fun r τ1 => ∃ v, r = some (.inl v) ∧ Q' (some (.inl v)) τ1)) → mj_B mjm_L mjm_Ms (d' + 4) 16 [.inr (.inl 0)] τ Q' := fun d' Q' h1 h2 h3 h4 => by
    rw [x1] at h1 h2 h3 h4
    exact t_m16 (d := d' + 2) (n := n) (a := a) (by omega) (by omega) (by omega) (by omega) he' hae x2' h1 h2 (fun z1 z2 z3 τ' e' => by rw [e', z_sp0 g5]; exact h3 z1 z2 z3) h4
  refine t_c44 hn (by omega) ha (by omega) he x2 (fun c => absurd c (by omega)) (fun _ q1 q2 => ?_) (fun _ q1 q2 => ?_) (fun _ q1 q2 q3 => ?_)
  · have hr := z_ac_r (σ 18) (e - a) a 0 (fun j hj => q1 (a + j) (by omega) (by omega)) (by omega) (by omega)
    refine hv _ _ _ F1 R1 g5 g17 hr.1 (by rw [g12]; omega) g4 gs (fun d' Q' h => tok d' Q' (fun _ c => ?_) (fun _ _ => h) (fun _ z => absurd ⟨q1, q2⟩ z) (fun z => ?_))
    · have := q1 a (Nat.le_refl _) hae
      rw [c] at this
      exact absurd this (by decide)
    · exact absurd (q1 a (Nat.le_refl _) hae) z
  · by_cases hd : e = a + 1 ∧ σ 18 a = 46
    · exact hdot hd.1 hd.2
    · obtain ⟨hX1, hY1, _⟩ := z_XY_er (e := 1) R1.1 R1.2.1 R1.2.2.1
      refine hx 1 _ (mj_up (mj_up τ 0 4 (e : Int)) 0 5 1) (z_F_tr (Nat.le_refl _) F1 z_F_er) hX1 hY1 mj_up_eq ⟨Or.inl rfl, z_pl_1 (by omega) (by omega)⟩ (fun d' Q' h => tok d' Q' (fun z1 z2 => absurd ⟨z1, z2⟩ hd) (fun z1 z2 => absurd ⟨z1, z2⟩ q1) (fun _ _ _ => h) (fun z1 z2 z3 => absurd ⟨z1, z2, z3⟩ q2))
  · have e18 : mj_up σ 3 4 (e : Int) 18 = σ 18 := z_rq _ _ _ _ _ (by decide)
    have et1 : mj_up τ 0 4 (e : Int) 1 = τ 1 := z_rq _ _ _ _ _ (by decide)
    obtain ⟨kn, hk⟩ : ∃ kn : Nat, σ 1 2 = kn := ⟨(σ 1 2).toNat, by omega⟩
    have hkc : mj_up σ 3 4 (e : Int) 1 2 = kn := by rw [g12]; exact hk
    have hkm : mj_up τ 0 4 (e : Int) 0 6 = kn := by rw [mj_up_ne (by omega)]; omega
    have hnd : ¬ (e = a + 1 ∧ σ 18 a = 46) := fun z => by
      have := q3 a (Nat.le_refl _) hae
      rw [z.2] at this
      exact absurd this (by decide)
    have hmt : ∀ i, i < kn → (z_mt (mj_up σ 3 4 (e : Int) 9) (mj_up σ 3 4 (e : Int) 10) (mj_up σ 3 4 (e : Int) 18) i a (e - a) ↔ z_mt (mj_up τ 0 4 (e : Int) 2) (mj_up τ 0 4 (e : Int) 3) (mj_up τ 0 4 (e : Int) 1) i a (e - a)) := fun i hi => z_mt_eq R1.1 R1.2.1 (by rw [hkc]; omega)
    -- the reference's symbol here
    have sym : ∀ (d' : Nat) (Q' : mj_Q), mj_B mjm_L mjm_Ms (d' + 3) 17 [.inr (.inl 0), .inl (a : Int), .inl ((e - a : Nat) : Int)] (mj_up τ 0 4 (e : Int)) (fun r τ1 => ∃ v, r = some (.inl v) ∧ Q' (some (.inl v)) τ1) → mj_B mjm_L mjm_Ms (d' + 4) 16 [.inr (.inl 0)] τ Q' := fun d' Q' h =>
      tok d' Q' (fun z1 z2 => absurd ⟨z1, z2⟩ hnd) (fun z _ => absurd (z a (Nat.le_refl _) hae) q1) (fun _ _ z => absurd ⟨q1, q2, q3⟩ z) (fun _ _ _ => h)
    refine t_c13 hkc (by omega) (by omega) (by omega) (by omega) (by rw [e18]; exact x2) (fun s hs m1 m2 => ?_) (fun m1 m2 => ?_) (fun m1 m2 σ' es => ?_)
    · refine ⟨_, rfl, hv _ _ _ F1 R1 g5 g17 (by omega) (by rw [hkc]; omega) g4 gs (fun d' Q' h => sym d' Q' (t_m17 (d := d' + 1) hkm (by omega) (by omega) (by omega) (by omega) (by rw [et1]; exact x2') (fun s' hs' w1 w2 => ?_) (fun w _ => ?_) (fun w _ => ?_)))⟩
      · have hss : s' = s := by
          rcases Nat.lt_trichotomy s' s with c | c | c
          · exact absurd ((hmt s' hs').mpr w1) (m2 s' c)
          · exact c
          · exact absurd ((hmt s hs).mp m1) (w2 s c)
        rw [hss]
        exact ⟨_, rfl, h⟩
      · exact absurd ((hmt s hs).mp m1) (w s hs)
      · exact absurd ((hmt s hs).mp m1) (w s hs)
    · obtain ⟨hX1, hY1, _⟩ := z_XY_er (e := 11) R1.1 R1.2.1 R1.2.2.1
      refine ⟨_, rfl, hx 11 _ (mj_up (mj_up τ 0 4 (e : Int)) 0 5 11) (z_F_tr (Nat.le_refl _) F1 z_F_er) hX1 hY1 mj_up_eq ⟨Or.inr rfl, z_pl_1 (by omega) (by omega)⟩ (fun d' Q' h => sym d' Q' (t_m17 (d := d' + 1) hkm (by omega) (by omega) (by omega) (by omega) (by rw [et1]; exact x2') (fun s' hs' w1 w2 => ?_) (fun w _ τ' e' => ?_) (fun w c => absurd c (by omega))))⟩
      · exact absurd ((hmt s' hs').mpr w1) (m1 s' hs')
      · rw [e', z_sp0 g5]
        exact ⟨_, rfl, h⟩
    · refine ⟨_, rfl, ?_⟩
      have es' : σ' = z_nsc (mj_up σ 3 4 (e : Int)) kn a (e - a) := es
      rw [es']
      have n12 : z_nsc (mj_up σ 3 4 (e : Int)) kn a (e - a) 1 2 = (kn : Int) + 1 := mj_up_eq
      have nn : ∀ q k, ¬ (q = 9 ∨ q = 10 ∨ (q = 1 ∧ k = 2)) → z_nsc (mj_up σ 3 4 (e : Int)) kn a (e - a) q k = mj_up σ 3 4 (e : Int) q k := fun q k c => by
        unfold z_nsc
        rw [mj_up_ne (by omega), mj_up_ne (by omega), z_cp_ne (by omega)]
      have nm : ∀ q k, ¬ (q = 2 ∨ q = 3 ∨ (q = 0 ∧ k = 6)) → z_nsm (mj_up τ 0 4 (e : Int)) kn a (e - a) q k = mj_up τ 0 4 (e : Int) q k := fun q k c => by
        unfold z_nsm
        rw [mj_up_ne (by omega), mj_up_ne (by omega), z_cp_ne (by omega)]
      refine hv _ _ (z_nsm (mj_up τ 0 4 (e : Int)) kn a (e - a)) (z_F_tr (Nat.le_refl _) F1 (z_F_ns hkc)) (z_RD_ns R1 hkc m2 (by omega) (by omega)) (by rw [nm 0 5 (by omega)]; exact g5) (by rw [nm 0 17 (by omega)]; exact g17) (by omega) (by rw [n12]; omega) (by rw [nn 3 4 (by omega)]; exact g4) (by rw [nn 2 8 (by omega)]; exact gs) (fun d' Q' h => sym d' Q' (t_m17 (d := d' + 1) hkm (by omega) (by omega) (by omega) (by omega) (by rw [et1]; exact x2') (fun s' hs' w1 w2 => ?_) (fun w c => absurd c (by omega)) (fun w _ τ' e' => ?_)))
      · exact absurd ((hmt s' hs').mpr w1) (m1 s' hs')
      · rw [e']
        exact ⟨_, rfl, h⟩
