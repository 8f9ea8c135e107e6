/-! cons in both machines -/
theorem t_m48l {τ : mj_S} {k : Nat} (hk : k < 200) (h6 : ∀ i, i < k → ¬ τ 6 i = 0) {d : Nat} {Q : mj_Q} (h : qh_m48_36 (d + 2) Q (k : Int) τ) : ∀ (j i : Nat), i + j = k → qh_m48_36 (d + 2) Q (i : Int) τ
  | 0, i, e => by
    have : i = k := by omega
    subst this
    exact h
  | j + 1, i, e => by
    refine qw_m48_36 ⟨by omega, by omega, fun z => ?_, fun _ => ⟨by unfold mj_r; omega, ?_⟩⟩
    · rw [Int.toNat_natCast] at z
      exact absurd z (h6 i (by omega))
    · rw [show (i : Int) + 1 = ((i + 1 : Nat) : Int) by omega]
      exact t_m48l hk h6 h j (i + 1) (by omega)
set_option maxHeartbeats 1000000 in
/-- there is room: both make a pair -/
theorem t_cons1 {A B : Nat → Int} {st : Nat} {σ0 τ0 : mj_S} {n : Nat} {σ τ : mj_S} {h S fuel : Nat} {be : Nat → Nat} {G : Nat → Bool} (W : z_XW A B st σ0 τ0 n σ τ (h + 2) S fuel be G) (n1 : 0 ≤ τ 20 h) (n2 : 0 ≤ τ 20 (h + 1)) (hroom : 0 < σ 2 9) {d : Nat} {Q : mj_Q}
    (hok : ∀ (σ' τ' : mj_S) (be' : Nat → Nat) (G' : Nat → Bool), z_XW A B st σ0 τ0 n σ' τ' (h + 1) S fuel be' G' → (∀ q k, (q = 7 ∧ ¬ k = 7) ∨ (30 ≤ q ∧ q ≤ 32) → σ' q k = σ q k) → (∀ q k, (q = 0 ∧ (k = 26 ∨ k = 33 ∨ k = 36 ∨ k = 37 ∨ k = 38)) ∨ (16 ≤ q ∧ q ≤ 19) ∨ (21 ≤ q ∧ q ≤ 23) ∨ (q = 20 ∧ k < h) → τ' q k = τ q k) → 0 ≤ τ' 20 h → ¬ τ 0 12 = τ 0 0 → (∀ (d' : Nat) (Q' : mj_Q), Q' none τ' → qh_m48_36 (d' + 2) Q' 0 τ) → Q (some (.inl 0)) σ') :
    mj_B mjc_L mjc_Ms (d + 9) 28 [.inr (.inl 2), .inl (z_bl σ 1), .inl (z_bl σ 0)] σ (fun r σ1 => ∃ v2, r = some (.inl v2) ∧ (0 ≤ v2 → mj_B mjc_L mjc_Ms (d + 9) 96 [.inr (.inl 7), .inl 2, .inl v2] σ1 (fun r σ3 => ∃ v4, r = some (.inl v4) ∧ Q (some (.inl v4)) σ3)) ∧ (v2 < 0 → mj_r (-v2) ∧ Q (some (.inl (-v2))) σ1)) := by
  obtain ⟨w1, w2, w3, w4, w5, w6, w7, w8, w9⟩ := W
  have b1 : z_bl σ 1 = σ 29 h := t_bl (k := 1) (by rw [w6.2.1]) (by omega)
  have b0 : z_bl σ 0 = σ 29 (h + 1) := t_bl (k := 0) (by rw [w6.2.1]) (by omega)
  rw [b1, b0]
  have v1 := z_pv_v (w5 h (by omega)) n1
  have v2 := z_pv_v (w5 (h + 1) (by omega)) n2
  have hb := z_H_b w3
  have r1 := z_vl_r hb v1
  have r2 := z_vl_r hb v2
  obtain ⟨fo, efo⟩ : ∃ fo : Nat, σ 2 9 = (fo : Int) + 1 := ⟨(σ 2 9 - 1).toNat, by omega⟩
  obtain ⟨j, k, be', G', c1, c2, c0, c3, c4, c5, c6, c7, c7', c8, c9, c10, c11⟩ := z_H_cons w3 efo v1 v2
  -- the reference
  have ref : ∃ τ' : mj_S, (∀ q l, ¬ ((q = 6 ∧ l = k) ∨ (q = 0 ∧ (l = 12 ∨ l = 31 ∨ l = 42)) ∨ ((q = 4 ∨ q = 5) ∧ l = 400 + k) ∨ (q = 20 ∧ l = h)) → τ' q l = τ q l) ∧ τ' 6 k = 1 ∧ τ' 0 12 = τ 0 12 + 1 ∧ τ' 4 (400 + k) = τ 20 h ∧ τ' 5 (400 + k) = τ 20 (h + 1) ∧ τ' 20 h = 536871312 + (k : Int) ∧ τ' 0 31 = (h : Int) + 1 ∧ τ' 0 42 = τ 0 42 ∧ ∀ (d' : Nat) (Q' : mj_Q), Q' none τ' → qh_m48_36 (d' + 2) Q' 0 τ := by
    obtain ⟨τ1, hτ1⟩ : ∃ t : mj_S, t = mj_up τ 6 k 1 := ⟨_, rfl⟩
    obtain ⟨τ2, hτ2⟩ : ∃ t : mj_S, t = mj_up τ1 0 12 (τ 0 12 + 1) := ⟨_, rfl⟩
    obtain ⟨τ3, hτ3⟩ : ∃ t : mj_S, t = mj_up τ2 0 31 ((h : Int) + 1) := ⟨_, rfl⟩
    obtain ⟨τ4, hτ4⟩ : ∃ t : mj_S, t = mj_up τ3 5 (400 + k) (τ 20 (h + 1)) := ⟨_, rfl⟩
    obtain ⟨τ5, hτ5⟩ : ∃ t : mj_S, t = mj_up τ4 0 31 (h : Int) := ⟨_, rfl⟩
    obtain ⟨τ6, hτ6⟩ : ∃ t : mj_S, t = mj_up τ5 4 (400 + k) (τ 20 h) := ⟨_, rfl⟩
    have o6 : ∀ q l, ¬ ((q = 6 ∧ l = k) ∨ (q = 0 ∧ (l = 12 ∨ l = 31 ∨ l = 42)) ∨ ((q = 4 ∨ q = 5) ∧ l = 400 + k) ∨ (q = 20 ∧ l = h)) → τ6 q l = τ q l := fun q l z => by
      rw [hτ6, hτ5, hτ4, hτ3, hτ2, hτ1, mj_up_ne (by omega), mj_up_ne (by omega), mj_up_ne (by omega), mj_up_ne (by omega), mj_up_ne (by omega), mj_up_ne (by omega)]
    have t31 : τ6 0 31 = h := by
      rw [hτ6, mj_up_ne (by omega), hτ5]; exact mj_up_eq
    have t42 : τ6 0 42 = τ 0 42 := by
      rw [hτ6, hτ5, hτ4, hτ3, hτ2, hτ1, mj_up_ne (by omega), mj_up_ne (by omega), mj_up_ne (by omega), mj_up_ne (by omega), mj_up_ne (by omega), mj_up_ne (by omega)]
    obtain ⟨u1, u2, u3, u4⟩ := z_pu_1 (τ := τ6) (x := 536871312 + (k : Int)) t31 (by omega)
    refine ⟨z_pu τ6 (536871312 + (k : Int)), fun q l z => by rw [u1 q l (by omega)]; exact o6 q l z, ?_, ?_, ?_, ?_, u2, u3, ?_, fun d' Q' hq' => ?_⟩
    · rw [u1 6 k (by omega)]
      rw [hτ6, hτ5, hτ4, hτ3, hτ2, hτ1, mj_up_ne (by omega), mj_up_ne (by omega), mj_up_ne (by omega), mj_up_ne (by omega), mj_up_ne (by omega), mj_up_eq]
    · rw [u1 0 12 (by omega)]
      rw [hτ6, hτ5, hτ4, hτ3, hτ2, hτ1, mj_up_ne (by omega), mj_up_ne (by omega), mj_up_ne (by omega), mj_up_ne (by omega), mj_up_eq]
    · rw [u1 4 _ (by omega), hτ6]
      exact mj_up_eq
    · rw [u1 5 _ (by omega)]
      rw [hτ6, hτ5, hτ4, mj_up_ne (by omega), mj_up_ne (by omega), mj_up_eq]
    · rw [u4, t42, if_neg (by omega)]
    · refine t_m48l c2 c5 (qw_m48_36 ⟨by omega, by omega, fun _ => ?_, fun z => absurd (by rw [Int.toNat_natCast]; exact c4) z⟩) k 0 (by omega)
      rw [Int.toNat_natCast]
      have et : (400 + (k : Int)).toNat = 400 + k := by omega
      refine ⟨by omega, by omega, Or.inr rfl, fun s1 g1 => ?_⟩
      have g1' : s1 = τ1 := by rw [g1, hτ1]
      have a12 : s1 0 12 = τ 0 12 := by rw [g1', hτ1, mj_up_ne (by omega)]
      refine ⟨by rw [a12]; unfold mj_r; omega, fun s2 g2 => ?_⟩
      rw [a12, g1', ← hτ2] at g2
      have a31 : s2 0 31 = ((h + 2 : Nat) : Int) := by rw [g2, hτ2, hτ1, mj_up_ne (by omega), mj_up_ne (by omega)]; exact w6.2.2
      refine ⟨by unfold mj_r; omega, by omega, by omega, fun s3 g3 => ?_⟩
      have e3 : s3 = τ3 := by
        rw [g3, a31, g2, hτ3, show (((h + 2 : Nat) : Int) - 1) = (h : Int) + 1 by omega]
      refine ⟨by omega, by omega, fun s4 g4 => ?_⟩
      have e4 : s4 = τ4 := by
        rw [g4, e3, et, a31, show (((h + 2 : Nat) : Int) - 1).toNat = h + 1 by omega, hτ4, g2, hτ2, hτ1, mj_up_ne (by omega), mj_up_ne (by omega)]
      have b31 : s4 0 31 = (h : Int) + 1 := by rw [e4, hτ4, mj_up_ne (by omega), hτ3]; exact mj_up_eq
      refine ⟨by unfold mj_r; omega, by omega, by omega, fun s5 g5 => ?_⟩
      have e5 : s5 = τ5 := by rw [g5, b31, e4, hτ5, show ((h : Int) + 1 - 1) = h by omega]
      refine ⟨by omega, by omega, fun s6 g6 => ?_⟩
      have b20 : s4 20 h = τ 20 h := by
        rw [e4, hτ4, hτ3, hτ2, hτ1, mj_up_ne (by omega), mj_up_ne (by omega), mj_up_ne (by omega), mj_up_ne (by omega)]
      have e6 : s6 = τ6 := by rw [g6, e5, et, b31, show ((h : Int) + 1 - 1).toNat = h by omega, b20, hτ6]
      refine ⟨by unfold mj_r; omega, by rw [e6, t31]; omega, by rw [e6, t31]; omega, fun s7 g7 => ?_⟩
      rw [g7, e6]
      exact hq'
  obtain ⟨τ', m1, m2, m3, m4, m5, m6, m7, m8, m9⟩ := ref
  refine wq_c28 (d := d + 8) ⟨fun _ => ⟨by unfold mj_r; omega, fun s1 e1 => ?_⟩, fun z => absurd z (by omega)⟩
  have x9 : s1 2 9 = fo := by rw [e1, mj_up_eq, efo]; omega
  have x13 : s1 13 (s1 2 9).toNat = j := by rw [x9, Int.toNat_natCast, e1, mj_up_ne (by omega), c3]
  rw [x13, show (400 + (j : Int)).toNat = 400 + j by omega]
  refine ⟨by omega, by omega, by unfold mj_r; omega, by omega, by omega, fun s2 e2 => ⟨by omega, by omega, fun s3 e3 => ⟨by unfold mj_r; omega, _, rfl, fun _ => ?_, fun z => absurd z (by omega)⟩⟩⟩
  have so : ∀ q l, ¬ ((q = 2 ∧ l = 9) ∨ ((q = 11 ∨ q = 12) ∧ l = 400 + j)) → s3 q l = σ q l := fun q l z => by rw [e3, mj_up_ne (by omega), e2, mj_up_ne (by omega), e1, mj_up_ne (by omega)]
  refine t_c96 (h := h) (t := 2) (by rw [so 7 7 (by omega)]; exact w6.2.1) (by omega) (by omega) (fun σ' f1 f2 f3 f4 => ⟨0, rfl, ?_⟩)
  have f13 : σ' 7 13 = σ 7 13 := by rw [f4, so 7 13 (by omega), if_neg (by omega)]
  have H' : z_H A B st σ' τ' be' G' := by
    refine c11 σ' τ' (fun q l z => by rw [f1 q l (by omega), so q l (by omega)]) (fun q l z => m1 q l (by omega)) ?_ ?_ ?_ m2 m3 m4 m5
    · rw [f1 2 9 (by omega), e3, mj_up_ne (by omega), e2, mj_up_ne (by omega), x9]
    · rw [f1 11 _ (by omega), e3, mj_up_ne (by omega), e2, mj_up_eq]
    · rw [f1 12 _ (by omega), e3, mj_up_eq]
  refine hok σ' τ' be' G' ⟨fun q l z => by rw [f1 q l (by omega), so q l (by omega)]; exact w1 q l z, fun q l z => by rw [m1 q l (by omega)]; exact w2 q l z, H', ?_, fun i hi => ?_, ⟨by omega, f3, m7⟩, ⟨by rw [f13, m8]; exact w7.1, by rw [f13]; omega, by rw [f13]; exact w7.2.2⟩, ⟨w8.1, w8.2.1, by rw [f1 7 11 (by omega), so 7 11 (by omega)]; exact w8.2.2.1, by rw [m1 0 40 (by omega)]; exact w8.2.2.2.1, by rw [f1 7 12 (by omega), so 7 12 (by omega)]; exact w8.2.2.2.2.1, by rw [m1 0 41 (by omega)]; exact w8.2.2.2.2.2⟩, by rw [m1 0 5 (by omega)]; exact w9⟩ (fun q l z => ?_) (fun q l z => m1 q l (by omega)) (by rw [m6]; omega) c6 m9
  · rw [f1 2 10 (by omega), so 2 10 (by omega)]; exact w4
  · by_cases e : i = h
    · rw [e, f2, m6, show (536870912 + (400 + (j : Int))) = 536871312 + (j : Int) by omega]
      exact Or.inr (Or.inr ⟨j, c1, c9, rfl, by rw [c10]⟩)
    · rw [f1 29 i (by omega), so 29 i (by omega), m1 20 i (by omega)]
      exact z_pv_mo c8 (w5 i (by omega))
  · by_cases e : q = 7 ∧ l = 13
    · rw [e.1, e.2]; exact f13
    · rw [f1 q l (by omega), so q l (by omega)]
set_option maxHeartbeats 1000000 in
theorem t_cons {A B : Nat → Int} {st : Nat} {σ0 τ0 : mj_S} {n : Nat} {σ τ : mj_S} {h S fuel : Nat} {be : Nat → Nat} {G : Nat → Bool} (W : z_XW A B st σ0 τ0 n σ τ (h + 2) S fuel be G) (n1 : 0 ≤ τ 20 h) (n2 : 0 ≤ τ 20 (h + 1)) (hc0 : 0 ≤ σ0 2 10) (hc1 : σ 2 10 ≤ 2000000000) {d : Nat} {Q : mj_Q}
    (hok : ∀ (σ' τ' : mj_S) (be' : Nat → Nat) (G' : Nat → Bool), z_XW A B st σ0 τ0 (n + 1) σ' τ' (h + 1) S fuel be' G' → (∀ q k, (q = 7 ∧ ¬ k = 7) ∨ (30 ≤ q ∧ q ≤ 32) → σ' q k = σ q k) → (∀ q k, (q = 0 ∧ (k = 26 ∨ k = 33 ∨ k = 36 ∨ k = 37 ∨ k = 38)) ∨ (16 ≤ q ∧ q ≤ 19) ∨ (21 ≤ q ∧ q ≤ 23) ∨ (q = 20 ∧ k < h) → τ' q k = τ q k) → 0 ≤ τ' 20 h → (∀ (d' : Nat) (Q' : mj_Q), Q' none τ' → mj_B mjm_L mjm_Ms (d' + 5) 48 [.inr (.inl 0)] τ Q') → Q (some (.inl 0)) σ')
    (hbad : ∀ (σ' τ' : mj_S), z_XE A B st σ0 τ0 (n + 1) σ' τ' S fuel 6 → (∀ (d' : Nat) (Q' : mj_Q), Q' none τ' → mj_B mjm_L mjm_Ms (d' + 5) 48 [.inr (.inl 0)] τ Q') → Q (some (.inl 6)) σ') : mj_B mjc_L mjc_Ms (d + 10) 101 [.inr (.inl 7)] σ Q := by
  have W' := W
  obtain ⟨w1, w2, w3, w4, w5, w6, w7, w8, w9⟩ := W
  have hb := z_H_b w3
  have h7 := w6.2.1
  have r : mj_r (σ 7 7 - 1) ∧ mj_r (σ 7 7 - 1 - 1) ∧ mj_r (σ 7 7 - 1) ∧ mj_r (σ 7 7 - 1 - 0) := by unfold mj_r; omega
  have mono : ∀ {σ' τ' : mj_S} {be' : Nat → Nat} {G' : Nat → Bool}, z_XW A B st σ0 τ0 n σ' τ' (h + 1) S fuel be' G' → z_XW A B st σ0 τ0 (n + 1) σ' τ' (h + 1) S fuel be' G' := fun W => ⟨W.1, W.2.1, W.2.2.1, by have := W.2.2.2.1; omega, W.2.2.2.2⟩
  refine wq_c101 (d := d + 8) ⟨fun hr => ⟨r.1, r.2.1, r.2.2.1, r.2.2.2, ?_⟩, fun hr => ?_⟩
  · refine t_cons1 (d := d) W' n1 n2 hr (fun σ' τ' be' G' g1 g2 g3 g4 g5 g6 => ?_)
    refine hok σ' τ' be' G' (mono g1) g2 g3 g4 (fun d' Q' hq' => wq_m48 (d := d' + 2) ⟨fun _ => ⟨fun _ => g6 (d' + 2) Q' hq', fun z => absurd z g5⟩, fun z => absurd z g5⟩)
  · rw [h7]
    obtain ⟨hs, sz, fo, ga, U, tm, ck, HP, hGU, hg, hck⟩ := w3
    have hfo : fo = 0 := by have := HP.2.2.2.2.1; omega
    have full : τ 0 12 = τ 0 0 := by
      obtain ⟨p1, p2, p3, p4, p5, p6, p7, p8, p9, p10, p11, p12, p13⟩ := HP
      rw [p11, p2]; omega
    refine t_collect (h := h + 2) HP hGU hg w6.1 w6.2.2 w5 (by unfold mj_r; have := HP.2.2.2.2.2.2.2.2.2.2.2.2; omega) (d := d + 7) (fun σ5 τ5 M fo' f1 f2 f3 f4 f5 f6 f7 f8 => ⟨rfl, ?_⟩)
    have e11 : σ5 11 = σ 11 := by funext k; exact f1 11 k (by omega)
    have e12 : σ5 12 = σ 12 := by funext k; exact f1 12 k (by omega)
    have e4 : τ5 4 = τ 4 := by funext k; exact f2 4 k (by omega)
    have e5 : τ5 5 = τ 5 := by funext k; exact f2 5 k (by omega)
    have g7 : σ5 7 7 = ((h + 2 : Nat) : Int) := by rw [f1 7 7 (by omega)]; exact h7
    have vM : ∀ {x y : Int}, z_vl A B st be G x y → (∀ j : Nat, j < 200 → x = 536871312 + (j : Int) → M j = true) → z_vl A B st be M x y := fun v hm => by
      rcases v with v | ⟨j, v1, v2, v3, v4⟩
      · exact Or.inl v
      · exact Or.inr ⟨j, v1, hm j v1 v3, v3, v4⟩
    have W5 : z_XW A B st σ0 τ0 (n + 1) σ5 τ5 (h + 2) S fuel be M := by
      refine ⟨fun q k z => by rw [f1 q k (by omega)]; exact w1 q k z, fun q k z => by rw [f2 q k (by omega)]; exact w2 q k z, ⟨by rw [e11, e12, e4, e5]; exact hs, sz, fo', ga, M, tm, ck, f4, fun j hj => ⟨hj, (hGU j (f5 j hj)).2⟩, fun j j1 j2 => ?_, fun j hj => hck j (f5 j hj)⟩, by rw [f3]; omega, fun i hi => ?_, ⟨w6.1, g7, by rw [f2 0 31 (by omega)]; exact w6.2.2⟩, by rw [f1 7 13 (by omega), f2 0 42 (by omega)]; exact w7, by rw [f1 7 11 (by omega), f1 7 12 (by omega), f2 0 40 (by omega), f2 0 41 (by omega)]; exact w8, by rw [f2 0 5 (by omega)]; exact w9⟩
      · rw [e11, e12, e4, e5]
        obtain ⟨a1, a2, a3⟩ := hg j j1 (f5 j j2)
        exact ⟨vM a1 (fun i i1 i2 => f6 j j2 i i1 (Or.inl i2)), vM a2 (fun i i1 i2 => f6 j j2 i i1 (Or.inr i2)), fun i i1 i2 i3 => a3 i i1 (f5 i i2) i3⟩
      · rw [f1 29 i (by omega), f2 20 i (by omega)]
        rcases w5 i hi with v | v
        · exact Or.inl v
        · exact Or.inr (vM v (fun j j1 j2 => f7 i hi j j1 j2))
    have r5 : mj_r (σ5 7 7 - 1) ∧ mj_r (σ5 7 7 - 1 - 1) ∧ mj_r (σ5 7 7 - 1) ∧ mj_r (σ5 7 7 - 1 - 0) := by unfold mj_r; omega
    refine ⟨r5.1, r5.2.1, r5.2.2.1, r5.2.2.2, ?_⟩
    by_cases hr5 : 0 < σ5 2 9
    · refine t_cons1 (d := d) W5 (by rw [f2 20 _ (by omega)]; exact n1) (by rw [f2 20 _ (by omega)]; exact n2) hr5 (fun σ' τ' be' G' g1 g2 g3 g4 g5 g6 => ?_)
      refine hok σ' τ' be' G' g1 (fun q k z => by rw [g2 q k z, f1 q k (by omega)]) (fun q k z => by rw [g3 q k z, f2 q k (by omega)]) g4 (fun d' Q' hq' => wq_m48 (d := d' + 2) ⟨fun z => absurd full z, fun _ => f8 (d' + 2) _ ⟨rfl, fun _ => g6 (d' + 2) Q' hq', fun z => absurd z g5⟩⟩)
    · have full5 : τ5 0 12 = τ5 0 0 := by
        obtain ⟨p1, p2, p3, p4, p5, p6, p7, p8, p9, p10, p11, p12, p13⟩ := f4
        rw [p11, p2]; omega
      refine wq_c28 (d := d + 8) ⟨fun z => absurd z hr5, fun _ => ⟨-6, rfl, fun z => absurd z (by decide), fun _ => ⟨by unfold mj_r; omega, ?_⟩⟩⟩
      have h55 : τ5 0 5 = 0 := W5.2.2.2.2.2.2.2.2
      refine hbad σ5 (mj_up τ5 0 5 6) (xe_mk W5 (Nat.le_refl _) (fun q k _ => rfl) (fun q k z => mj_up_ne (by omega)) ?_ ?_ mj_up_eq (by omega) (by omega)) (fun d' Q' hq' => wq_m48 (d := d' + 2) ⟨fun z => absurd full z, fun _ => f8 (d' + 2) _ ⟨rfl, fun z => absurd full5 z, fun _ s e => ?_⟩⟩)
      · rw [mj_up_ne (by omega), f1 7 13 (by omega), f2 0 42 (by omega)]; exact ⟨w7.1, by omega, w7.2.2⟩
      · rw [mj_up_ne (by omega), f1 7 12 (by omega), f2 0 41 (by omega)]; exact ⟨w8.1, w8.2.2.2.2.1, w8.2.2.2.2.2⟩
      · rw [e, z_sp0 h55]; exact hq'
