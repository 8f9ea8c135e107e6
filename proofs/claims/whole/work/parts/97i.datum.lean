/-! a datum, read by both: from the deepest level up -/
theorem z_RD_at2 {σ τ : mj_S} {x : Int} (hX : z_X σ τ) (hY : z_Y σ τ) (hS : z_So σ τ) (h0 : 0 ≤ x) (h1 : x ≤ σ 3 3) : z_RD (mj_up σ 3 4 x) (mj_up τ 0 4 x) := by
  refine ⟨?_, ?_, ?_, ?_⟩
  · unfold z_X at *
    simp only [z_rq _ _ _ _ 18 (show 18 ≠ 3 by decide), z_rq _ _ _ _ 1 (show 1 ≠ 0 by decide)]
    rw [mj_up_ne (by omega), mj_up_ne (by omega)]
    exact hX
  · unfold z_Y at *
    simp only [z_rq _ _ _ _ 1 (show 1 ≠ 3 by decide), z_rq _ _ _ _ 9 (show 9 ≠ 3 by decide), z_rq _ _ _ _ 10 (show 10 ≠ 3 by decide), z_rq _ _ _ _ 2 (show 2 ≠ 0 by decide), z_rq _ _ _ _ 3 (show 3 ≠ 0 by decide)]
    rw [mj_up_ne (by omega)]
    exact hY
  · unfold z_So at *
    simp only [z_rq _ _ _ _ 1 (show 1 ≠ 3 by decide), z_rq _ _ _ _ 2 (show 2 ≠ 3 by decide), z_rq _ _ _ _ 11 (show 11 ≠ 3 by decide), z_rq _ _ _ _ 12 (show 12 ≠ 3 by decide), z_rq _ _ _ _ 4 (show 4 ≠ 0 by decide), z_rq _ _ _ _ 5 (show 5 ≠ 0 by decide)]
    rw [mj_up_ne (by omega)]
    exact hS
  · refine ⟨by rw [mj_up_eq, mj_up_eq], by rw [mj_up_eq]; exact h0, ?_⟩
    rw [mj_up_eq, mj_up_ne (by omega)]
    exact h1
theorem z_XY_co {σ τ τ' : mj_S} (hX : z_X σ τ) (hY : z_Y σ τ) (h : ∀ q k, (1 ≤ q ∧ q ≤ 3) ∨ (q = 0 ∧ (k = 2 ∨ k = 6)) → τ' q k = τ q k) : z_X σ τ' ∧ z_Y σ τ' := by
  obtain ⟨x1, x2, x3, x4, x5⟩ := hX
  obtain ⟨y1, y2, y3, y4⟩ := hY
  refine ⟨⟨?_, x2, ?_, x4, x5⟩, ⟨?_, y2, y3, fun i hi => ?_⟩⟩
  · funext i; rw [h 1 i (by omega), x1]
  · rw [h 0 2 (by omega)]; exact x3
  · rw [h 0 6 (by omega)]; exact y1
  · obtain ⟨q1, q2, q3, q4⟩ := y4 i hi
    refine ⟨by rw [h 3 i (by omega)]; exact q1, q2, q3, fun k hk => ?_⟩
    rw [h 2 _ (by omega)]
    exact q4 k hk
set_option maxHeartbeats 4000000 in
/-- what is quoted -/
theorem r_quote {L : Nat} (hL12 : L ≤ 12) {K0 : Nat} (ih : z_DAd (L + 1) (K0 + 4)) {σ τ : mj_S} {Q : mj_Q}
    (hv : ∀ (v : Int) (σ' τ' : mj_S), z_F L σ τ σ' τ' → z_RD σ' τ' → τ' 0 5 = 0 → τ' 0 17 = L → σ 3 4 < σ' 3 4 → 0 ≤ v → (v < 536870912 → v < 268435456 + σ' 1 2) → z_D (σ' 11) (σ' 12) 536870912 (σ 2 8).toNat (σ' 2 8).toNat (12 - L) (σ' 2 8 - σ 2 8).toNat v → z_gv τ τ' v → Q (some (.inl v)) σ')
    (hx : ∀ (c : Int) (σ' τ' : mj_S), z_F L σ τ σ' τ' → z_X σ' τ' → z_Y σ' τ' → τ' 0 5 = c → ((c = 1 ∨ c = 11) ∧ z_pl τ') → z_gh τ τ' → Q (some (.inl (-c))) σ')
    {σ4 τ2 : mj_S} {n e : Nat} (hF : z_F L σ τ σ4 τ2) (hR : z_RD σ4 τ2) (h5 : τ2 0 5 = 0) (h17 : τ2 0 17 = (L : Int) + 1) (h9 : τ2 9 L = 1) (h12 : τ2 12 L = 0) (hn : σ4 3 3 = n) (he : σ4 3 4 = e) (hlt : σ 3 4 < σ4 3 4) (h28 : σ4 2 8 = σ 2 8) (gh : z_gh τ τ2) :
    mj_B mjc_L mjc_Ms (K0 + 6) 43 [.inr (.inl 3), .inl ((L + 1 : Nat) : Int)] σ4 (fun r σ5 => ∃ v, r = some (.inl v) ∧ Q (some (.inl v)) σ5) := by
  have hR0 := hR
  obtain ⟨hX, hY, hS, ⟨t1, t2, t3⟩⟩ := hR
  have hs0 := hS.2.1
  refine wq_c43 (d := K0 + 4) (wq_c41 (d := K0 + 3) (ih σ4 τ2 _ n (z_sk (σ4 18) n (n - e) false) hX hY hS hn ⟨e, he, by omega, rfl⟩ ⟨e, by omega, by omega, rfl⟩ h5 (by omega) (fun _ => by rw [Nat.add_sub_cancel, h12]; decide) (Or.inr (Or.inl (by rw [Nat.add_sub_cancel]; exact h9))) (fun c13 => Or.inl (by rw [show 12 = L by omega, h9]; decide)) (fun v σ' τ' f0' f1 f2 f3 f4 f5 f6 f7 f8 f9 => ?_) (fun c σ' τ' f1 f2 f3 f4 f5 f6 => ?_)))
  · have f2c := f2
    obtain ⟨r1, r2, ⟨u1, u2, u3, u4⟩, ⟨r4, r5, r6⟩⟩ := f2c
    have g28 := f1.2.2.2.2.2.1
    obtain ⟨p, hp⟩ : ∃ p : Nat, σ' 2 8 = p := ⟨(σ' 2 8).toNat, by omega⟩
    have F2 : z_F L σ τ σ' τ' := z_F_tr (by omega) hF f1
    have k9 : τ' 9 L = 1 := by rw [(f1.2.2.2.1 L (by omega)).1]; exact h9
    have k17 : τ' 0 17 = (L : Int) + 1 := by rw [f4]; omega
    have tk : ∀ {dd : Nat} {Q2 : mj_Q}, mj_B mjm_L mjm_Ms (dd + 10) 23 [.inr (.inl 0), .inl v] τ' (fun r τ2 => ∃ v2, r = some (.inl v2) ∧ ∀ y, qh_m20_158 (dd + 10) Q2 y v2 τ2) → qh_m20_5 (dd + 10) Q2 τ := fun {dd Q2} q => by
      refine gh dd Q2 (f9 dd Q2 (fun y => qw_m20_158 (d := dd + 9) ⟨fun z => absurd z (by omega), fun _ => ⟨fun z => absurd f3 z, fun _ => ⟨fun _ => mj_B_mono _ _ _ _ _ _ (fun r τ2 ⟨v2, q1, q2⟩ => ⟨v2, q1, q2 y⟩) q, fun z => absurd z (by omega)⟩⟩⟩))
    rw [hp]
    refine ⟨_, rfl, fun _ => ⟨by omega, fun σ3 e3 => ?_⟩, fun z => absurd z (by omega)⟩
    by_cases hp4 : p = 400
    · have e3' : σ3 = σ' := by rw [e3]; unfold z_sto; rw [if_neg (by omega)]
      rw [if_neg (by omega), e3']
      refine ⟨_, rfl, fun z => absurd z (by decide), fun _ => ⟨_, rfl, ?_⟩⟩
      obtain ⟨X2, Y2⟩ := z_XY_co (τ' := mj_up (mj_up τ' 0 17 (L : Int)) 0 5 11) r1 r2 (fun q k c => by rw [mj_up_ne (by omega), mj_up_ne (by omega)])
      refine hx 11 σ' _ (z_F_m F2 (fun q k c => by rw [mj_up_ne (by omega), mj_up_ne (by omega)])) X2 Y2 mj_up_eq ⟨Or.inr rfl, z_pl_fr (z_pl_R f2) (by rw [mj_up_ne (by omega), mj_up_ne (by omega)]) (by rw [mj_up_ne (by omega), mj_up_ne (by omega)])⟩ (fun d' Q' h => tk (r_takeq (d := d' + 7) (L := L) (p := p) k17 (by omega) f3 k9 (by omega) (by omega) (fun _ τ3 z => ?_) (fun z => absurd z (by omega))))
      rcases z with ⟨_, z⟩ | ⟨z, _⟩
      · rw [z]; exact ⟨_, rfl, fun y => r_er (by rw [mj_up_eq]; decide) h y⟩
      · omega
    · have hp5 : p < 400 := by omega
      have e3' : σ3 = z_s1 σ' p v 268435456 := by rw [e3]; exact z_sto_1 hp hp5
      have w28 : z_s1 σ' p v 268435456 2 8 = ((p + 1 : Nat) : Int) := by rw [z_s1_v.2.2]; omega
      have R3 : z_RD (z_s1 σ' p v 268435456) (z_s2 (mj_up τ' 0 17 (L : Int)) p v 268435456) := z_RD_s (z_RD_co f2 (fun x y _ _ => mj_up_ne (by omega)) (mj_up_ne (by omega)) (mj_up_ne (by omega)) (mj_up_ne (by omega)) (mj_up_ne (by omega))) hp hp5 f7 (fun _ => by have := r2.2.1; omega)
      have F3 : z_F L σ τ (z_s1 σ' p v 268435456) (z_s2 (mj_up τ' 0 17 (L : Int)) p v 268435456) := z_F_tr (Nat.le_refl _) (z_F_m F2 (fun q k c => mj_up_ne (by omega))) (z_F_s hp hp5)
      rw [if_pos (by omega), e3']
      refine ⟨_, rfl, fun _ => ⟨by rw [w28]; omega, fun σ9 e9 => ⟨_, rfl, ?_⟩⟩, fun z => absurd z (by omega)⟩
      rw [w28]
      by_cases hp6 : p = 399
      · have e9' : σ9 = z_s1 σ' p v 268435456 := by rw [e9]; unfold z_sto; rw [if_neg (by rw [w28]; omega)]
        rw [if_neg (by omega), e9']
        obtain ⟨X2, Y2⟩ := z_XY_co (τ' := mj_up (z_s2 (mj_up τ' 0 17 (L : Int)) p v 268435456) 0 5 11) R3.1 R3.2.1 (fun q k c => mj_up_ne (by omega))
        refine hx 11 _ _ (z_F_m F3 (fun q k c => mj_up_ne (by omega))) X2 Y2 mj_up_eq ⟨Or.inr rfl, z_pl_fr (z_pl_R R3) (mj_up_ne (by omega)) (mj_up_ne (by omega))⟩ (fun d' Q' h => tk (r_takeq (d := d' + 7) (L := L) (p := p) k17 (by omega) f3 k9 (by omega) (by omega) (fun _ τ3 z => ?_) (fun z => absurd z (by omega))))
        rcases z with ⟨z, _⟩ | ⟨_, z⟩
        · omega
        · rw [z]; exact ⟨_, rfl, fun y => r_er (by rw [mj_up_eq]; decide) h y⟩
      · have e9' : σ9 = z_s1 (z_s1 σ' p v 268435456) (p + 1) 268435458 (536870912 + (p : Int)) := by rw [e9]; exact z_sto_1 w28 (by omega)
        rw [if_pos (by omega), e9']
        have x12 : z_s1 σ' p v 268435456 1 2 = σ' 1 2 := z_s1_o (by omega)
        have R4 := z_RD_s (a := 268435458) (b := 536870912 + (p : Int)) R3 w28 (by omega) (fun _ => by rw [x12]; have := r2.2.1; omega) (fun z => absurd z (by omega))
        have F4 := z_F_tr (Nat.le_refl _) F3 (z_F_s (l := L) (τ := z_s2 (mj_up τ' 0 17 (L : Int)) p v 268435456) (a := 268435458) (b := 536870912 + (p : Int)) w28 (by omega))
        refine hv _ _ _ F4 R4 ?_ ?_ ?_ (by omega) (fun z => absurd z (by omega)) ?_ (fun d' Q' h => tk (r_takeq (d := d' + 7) (L := L) (p := p) k17 (by omega) f3 k9 (by omega) (by omega) (fun z => absurd z (by omega)) (fun _ => ⟨_, rfl, h⟩)))
        · rw [z_s2_o (by omega), z_s2_o (by omega), mj_up_ne (by omega)]; exact f3
        · rw [z_s2_o (by omega), z_s2_o (by omega), mj_up_eq]
        · rw [z_s1_o (by omega), z_s1_o (by omega)]; omega
        · have y28 : z_s1 (z_s1 σ' p v 268435456) (p + 1) 268435458 (536870912 + (p : Int)) 2 8 = ((p + 2 : Nat) : Int) := by rw [z_s1_v.2.2]; omega
          have o11 : ∀ i, i ≤ p → z_s1 (z_s1 σ' p v 268435456) (p + 1) 268435458 (536870912 + (p : Int)) 11 i = z_s1 σ' p v 268435456 11 i := fun i hi => z_s1_o (by omega)
          have o12 : ∀ i, i ≤ p → z_s1 (z_s1 σ' p v 268435456) (p + 1) 268435458 (536870912 + (p : Int)) 12 i = z_s1 σ' p v 268435456 12 i := fun i hi => z_s1_o (by omega)
          obtain ⟨z1, z2, _⟩ := @z_s1_v (z_s1 σ' p v 268435456) (p + 1) 268435458 (536870912 + (p : Int))
          obtain ⟨z3, z4, _⟩ := @z_s1_v σ' p v 268435456
          rw [y28, Int.toNat_natCast]
          have kk : 12 - L = 12 - (L + 1) + 1 := by omega
          rw [kk, show (((p + 2 : Nat) : Int) - σ 2 8).toNat = 0 + ((σ' 2 8 - σ4 2 8).toNat + 0 + 1) + 1 by omega]
          refine z_D_pair (by omega) (by omega) (by omega) (by rw [z1]; exact z_D_atom (by decide) (by decide)) ?_
          rw [z2]
          refine z_D_pair (p := p) (s1 := (σ' 2 8 - σ4 2 8).toNat) (s2 := 0) (by omega) (by omega) (by omega) ?_ (by rw [o12 p (Nat.le_refl _), z4]; exact z_D_atom (by decide) (by decide))
          rw [o11 p (Nat.le_refl _), z3]
          rw [hp, Int.toNat_natCast, ← hp] at f8
          refine z_D_mono (lo := (σ4 2 8).toNat) (Int.le_refl _) (by omega) (Nat.le_refl _) (Nat.le_refl _) (z_D_frame (b := p) (A := σ' 11) (B := σ' 12) (fun i _ hi _ => ⟨?_, ?_⟩) f8)
          · rw [o11 i (by omega), z_s1_o (by omega)]
          · rw [o12 i (by omega), z_s1_o (by omega)]
  · exact ⟨_, rfl, fun z => absurd z (by omega), fun _ => ⟨_, rfl, fun z => absurd z (by omega), fun _ => ⟨_, rfl, hx c σ' τ' (z_F_tr (by omega) hF f1) f2 f3 f4 f5 (fun d' Q' h => gh d' Q' (f6 d' Q' h))⟩⟩⟩
set_option maxHeartbeats 4000000 in
theorem r_DAs {L : Nat} (hL12 : L ≤ 12) (ih : z_DA (L + 1)) : z_DA L := by
  intro d σ τ Q n s hX hY hS hn ha hb h5 h17 hd2 ctx ctx13 hv hx
  obtain ⟨K0, hK0⟩ : ∃ K0, K0 = d + 3 * (12 - L) + 6 := ⟨_, rfl⟩
  have ih' : z_DAd (L + 1) (K0 + 4) := by
    have := ih d
    rw [show d + 3 * (13 - (L + 1)) + 10 = K0 + 4 by omega] at this
    exact this
  rw [show d + 3 * (13 - L) + 10 = K0 + 7 by omega]
  have hv' := fun (v : Int) (σ' τ' : mj_S) => hv v σ' τ' hL12
  obtain ⟨a, a1, a2, a3⟩ := ha
  obtain ⟨b, b1, b2, b3⟩ := hb
  have hX0 := hX
  have hS0 := hS
  obtain ⟨x1, x2, x3, x4, x5⟩ := hX
  have x2' : ∀ i, 0 ≤ τ 1 i ∧ τ 1 i ≤ 65535 := by rw [← x1]; exact x2
  have hle := z_sk_le (σ 18) n (n - a) false (by omega)
  have hbl := z_sk_at (σ 18) n (n - a) false (by omega)
  rw [a3] at hle hbl
  have hs' : z_sk (τ 1) n (n - b) false = s := by rw [← x1]; exact b3
  have hs28 := hS.2.1
  refine wq_c39 (d := K0 + 5) ⟨fun _ => t_c48 (d := K0 + 5) hn (by omega) a1 a2 (fun σ1 e1 => ?_), fun c => absurd c (by omega)⟩
  rw [a3] at e1
  have e33 : σ1 3 3 = n := by rw [e1, mj_up_ne (by omega)]; exact hn
  have e34 : σ1 3 4 = s := by rw [e1, mj_up_eq]
  have e18 : σ1 18 = σ 18 := by rw [e1]; exact z_rq _ _ _ _ _ (by decide)
  have R1 : z_RD σ1 (mj_up τ 0 4 (s : Int)) := by rw [e1]; exact z_RD_at2 hX0 hY hS0 (by omega) (by omega)
  have F1 : z_F L σ τ σ1 (mj_up τ 0 4 (s : Int)) := by rw [e1]; exact z_F_at (by omega)
  have q5 : mj_up τ 0 4 (s : Int) 0 5 = 0 := by rw [mj_up_ne (by omega)]; exact h5
  have q17 : mj_up τ 0 4 (s : Int) 0 17 = L := by rw [mj_up_ne (by omega)]; exact h17
  -- both after a character that begins a list or a quotation
  have opn : ∀ k : Int, s < n → z_RD (mj_up σ 3 4 ((s : Int) + 1)) (z_opn (mj_up τ 0 4 (s : Int)) k L s) ∧ z_F L σ τ (mj_up σ 3 4 ((s : Int) + 1)) (z_opn (mj_up τ 0 4 (s : Int)) k L s) ∧ z_opn (mj_up τ 0 4 (s : Int)) k L s 0 5 = 0 ∧ z_opn (mj_up τ 0 4 (s : Int)) k L s 0 17 = (L : Int) + 1 := fun k csn => by
    obtain ⟨o1, o2, o3, o4, o5, o6⟩ := @z_opn_v (mj_up τ 0 4 (s : Int)) k L s
    have same : ∀ q j, ¬ ((9 ≤ q ∧ q ≤ 12 ∧ j = L) ∨ (q = 0 ∧ j = 17)) → z_opn (mj_up τ 0 4 (s : Int)) k L s q j = mj_up τ 0 4 ((s : Int) + 1) q j := fun q j c => by
      by_cases c4 : q = 0 ∧ j = 4
      · rw [c4.1, c4.2, o6, mj_up_eq]
      · rw [z_opn_o (by omega), mj_up_ne (by omega), mj_up_ne (by omega)]
    refine ⟨z_RD_co (z_RD_at2 (x := (s : Int) + 1) hX0 hY hS0 (by omega) (by omega)) (fun x y _ _ => same x y (by omega)) (same 0 2 (by omega)) (same 0 4 (by omega)) (same 0 6 (by omega)) (same 0 11 (by omega)), z_F_m (z_F_at (y := (s : Int) + 1) (by omega)) (fun q j c => same q j (by omega)), ?_, o5⟩
    rw [z_opn_o (by omega)]; exact q5
  have ghk : ∀ k : Int, s < n → (k = 0 ∧ σ 18 s = 40 ∨ k = 1 ∧ σ 18 s = 39) → z_gh τ (z_opn (mj_up τ 0 4 (s : Int)) k L s) := fun k csn hk d' Q' h => by
    rw [x1] at hk
    refine rh (L := L) (s := s) h5 (by omega) (by omega) b1 b2 (fun i => (x2' i).1) hs' rfl h17 (by omega) (fun c => absurd c (by omega)) (fun _ c => absurd c (by omega)) (fun _ _ c1 c2 => absurd c2 (hd2 c1)) (fun _ _ _ c => absurd c (by omega)) (fun _ _ c => absurd c (by omega)) (fun _ _ c _ => ?_) (fun _ _ c _ => ?_) (fun _ _ _ c1 c2 => absurd hk (by omega))
    · have hk0 : k = 0 := by omega
      rw [hk0] at h
      exact r_open (d := d' + 9) (L := L) (s := s) q17 (by omega) mj_up_eq (by omega) (fun τ' e' => ⟨rfl, fun y => by rw [e']; exact r_neg h y⟩)
    · have hk1 : k = 1 := by omega
      rw [hk1] at h
      exact r_open (d := d' + 9) (L := L) (s := s) q17 (by omega) mj_up_eq (by omega) (fun τ' e' => ⟨rfl, fun y => by rw [e']; exact r_neg h y⟩)
  rw [e33, e34, e18, Int.toNat_natCast]
  refine ⟨rfl, by omega, by omega, fun c40 => ⟨by omega, by omega, fun c39 => ?_, fun c39 => ⟨by unfold mj_r; omega, fun σ4 e4 => ⟨by unfold mj_r; omega, ?_⟩⟩⟩, fun c40 => ⟨by unfold mj_r; omega, fun σ7 e7 => ⟨by unfold mj_r; omega, ?_⟩⟩⟩
  · -- a row, or nothing
    by_cases cz : s < n ∧ ¬ σ 18 s = 41
    · obtain ⟨csn, c41⟩ := cz
      obtain ⟨z32, z10, z59⟩ := hbl csn
      have hne : ¬ z_er (σ 18 s) := by
        rintro (z | z | z | z | z | z)
        · exact z32 z
        · exact z10 z
        · exact z59 z
        · exact c40 ⟨by omega, z⟩
        · exact c41 z
        · exact c39 ⟨by omega, z⟩
      have hre := z_re_le (σ 18) n (n - s) (by omega)
      have hse : s < z_re (σ 18) n (n - s) := by
        by_cases c : s < z_re (σ 18) n (n - s)
        · exact c
        · have e : z_re (σ 18) n (n - s) = s := by omega
          have := z_re_at (σ 18) n (n - s) (by omega) (by omega)
          rw [e] at this
          exact absurd this hne
      generalize he : z_re (σ 18) n (n - s) = e at hre hse
      -- the reference reads a token here
      have tok : ∀ (d' : Nat) (Q' : mj_Q), mj_B mjm_L mjm_Ms (d' + 10) 16 [.inr (.inl 0)] (mj_up τ 0 4 (s : Int)) (fun r τ' => ∃ v, r = some (.inl v) ∧ ∀ y, qh_m20_148 (d' + 10) Q' y v τ') → qh_m20_5 (d' + 10) Q' τ := fun d' Q' h => by
        rw [x1] at c41 c40 c39
        exact rh (L := L) (s := s) h5 (by omega) (by omega) b1 b2 (fun i => (x2' i).1) hs' rfl h17 (by omega) (fun c => absurd c (by omega)) (fun _ c => absurd c c41) (fun _ _ c1 c2 => absurd c2 (hd2 c1)) (fun _ _ _ c => absurd c (by omega)) (fun _ _ c => absurd c (by omega)) (fun _ _ c => absurd ⟨by omega, c⟩ c40) (fun _ _ c => absurd ⟨by omega, c⟩ c39) (fun _ _ _ _ _ _ => h)
      refine r_row (d := K0 + 2) R1 q5 e33 e34 (by rw [e18]; exact he) hse (fun v σ' τ' f1 f2 f3 f4 f5 f6 f7 f8 f9 => ⟨_, rfl, ?_⟩) (fun c σ' τ' f1 f2 f3 f4 f5 f6 => ⟨_, rfl, ?_⟩) (fun d1 d2 => ⟨_, rfl, ?_⟩)
      · have h28 : σ' 2 8 = σ 2 8 := by rw [f8, e1, mj_up_ne (by omega)]
        have hy := f2.2.1.2.2.1
        refine hv' v σ' τ' (z_F_tr (by omega) F1 f1) f2 f3 (by rw [f4]; exact q17) (by rw [f7]; omega) f5 (fun _ => f6) ?_ (fun d' Q' h => tok d' Q' (f9 (d' + 6) _ ⟨_, rfl, fun y => r_148 f5 (h y)⟩))
        rw [h28, Int.sub_self]
        exact z_D_atom f5 (by omega)
      · refine hx c σ' τ' (z_F_tr (by omega) F1 f1) f2 f3 f4 f5 (fun d' Q' h => tok d' Q' (f6 (d' + 6) _ ⟨_, rfl, fun y => r_148 (by decide) (r_er (by omega) h y)⟩))
      · -- a dot where none may stand
        rw [e18] at d2
        have R2 : z_RD (mj_up σ1 3 4 (e : Int)) (mj_up (mj_up τ 0 4 (s : Int)) 0 4 (e : Int)) := z_RD_at R1 (by omega) (by rw [e33]; omega)
        obtain ⟨X2, Y2, _⟩ := z_XY_er (e := 1) R2.1 R2.2.1 R2.2.2.1
        have m1 : mj_up (mj_up τ 0 4 (s : Int)) 0 4 (e : Int) 1 = τ 1 := by rw [z_rq _ _ _ _ _ (by decide), z_rq _ _ _ _ _ (by decide)]
        have m2 : mj_up (mj_up τ 0 4 (s : Int)) 0 4 (e : Int) 0 2 = n := by rw [mj_up_ne (by omega), mj_up_ne (by omega)]; omega
        refine hx 1 _ _ (z_F_tr (Nat.le_refl _) (z_F_tr (Nat.le_refl _) F1 (z_F_at (by rw [e34]; omega))) z_F_er) X2 Y2 mj_up_eq ⟨Or.inl rfl, z_pl_fr (z_pl_R R2) (mj_up_ne (by omega)) (mj_up_ne (by omega))⟩ (fun d' Q' h => tok d' Q' (r_dot (d := d' + 6) (n := n) (a := s) (e := e) R1 e33 e34 (by rw [e18]; exact he) d1 (by rw [e18]; exact d2) ⟨_, rfl, fun y => qw_m20_148 (d := d' + 9) ⟨fun z => absurd rfl z, fun _ => r_dotx (d := d' + 8) (L := L) (by rw [mj_up_ne (by omega)]; exact q17) (by omega) (by rw [mj_up_eq]; omega) (by rw [m2]; omega) (by rw [mj_up_ne (by omega)]; exact q5) ?_ ?_ ⟨_, rfl, qw_m20_158 (d := d' + 9) ⟨fun _ => h, fun z => absurd z (by decide)⟩⟩⟩⟩))
        · unfold z_lk
          rw [m2, mj_up_eq, m1, Int.toNat_natCast]
          by_cases c : (e : Int) < n
          · rw [if_pos c]
            have := z_re_at (σ 18) n (n - s) (by omega) (by rw [he]; omega)
            rw [he, x1] at this
            intro z
            rw [z] at this
            exact absurd this (by decide)
          · rw [if_neg c]; decide
        · rw [mj_up_ne (by omega), mj_up_ne (by omega), mj_up_ne (by omega), mj_up_ne (by omega), mj_up_ne (by omega), mj_up_ne (by omega)]
          rcases ctx with z | z | z | z
          · exact Or.inl z
          · exact Or.inr (Or.inl (by rw [z]; decide))
          · exact Or.inr (Or.inr (Or.inr (by rw [z]; decide)))
          · exact absurd ⟨d2, by rw [he]; exact d1⟩ (z csn).2
    · -- nothing there, or a closing
      have hre : z_re (σ 18) n (n - s) = s := z_re_un (σ 18) n (Nat.le_refl _) (by omega) (fun i h1 h2 => absurd h2 (by omega)) (fun c => by
        have : σ 18 s = 41 := by
          by_cases c2 : σ 18 s = 41
          · exact c2
          · exact absurd ⟨c, c2⟩ cz
        rw [this]; decide)
      obtain ⟨X2, Y2, _⟩ := z_XY_er (e := 1) R1.1 R1.2.1 R1.2.2.1
      refine t_c44 (d := K0 + 2) e33 (by omega) e34 (by omega) (e := s) (by rw [e18]; exact hre) (by rw [e18]; exact x2) (fun _ => ⟨_, rfl, ?_⟩) (fun c => absurd c (Nat.lt_irrefl _)) (fun c => absurd c (Nat.lt_irrefl _)) (fun c => absurd c (Nat.lt_irrefl _))
      refine hx 1 σ1 _ (z_F_tr (Nat.le_refl _) F1 z_F_er) X2 Y2 mj_up_eq ⟨Or.inl rfl, z_pl_fr (z_pl_R R1) (mj_up_ne (by omega)) (mj_up_ne (by omega))⟩ (fun d' Q' h => ?_)
      rw [x1] at c40 c39 cz
      refine rh (L := L) (s := s) h5 (by omega) (by omega) b1 b2 (fun i => (x2' i).1) hs' rfl h17 (by omega) (fun c y => r_neg h y) (fun c1 c2 => r_closex (d := d' + 8) (L := L) q17 (by omega) q5 ?_ ⟨_, rfl, fun y => r_148 (by decide) (r_er (by rw [mj_up_eq]; decide) h y)⟩) (fun _ _ c1 c2 => absurd c2 (hd2 c1)) (fun _ _ _ c => absurd c (by omega)) (fun _ _ c => absurd c (by omega)) (fun _ _ c => absurd ⟨by omega, c⟩ c40) (fun _ _ c => absurd ⟨by omega, c⟩ c39) (fun _ c1 c2 => absurd ⟨c1, c2⟩ cz)
      rw [mj_up_ne (by omega), mj_up_ne (by omega)]
      rcases ctx with z | z | z | z
      · exact Or.inl z
      · exact Or.inr (Or.inl z)
      · exact Or.inr (Or.inr z)
      · rw [← x1] at c2
        exact absurd c2 (z c1).1
  · -- a quotation
    have e4' : σ4 = mj_up σ 3 4 ((s : Int) + 1) := by rw [e4, e1, z_uu]
    obtain ⟨o1, o2, o3, o4, o5, o6⟩ := @z_opn_v (mj_up τ 0 4 (s : Int)) 1 L s
    obtain ⟨p1, p2, p3, p4⟩ := opn 1 (by omega)
    rw [e4', show (L : Int) + 1 = ((L + 1 : Nat) : Int) by omega]
    exact r_quote hL12 ih' hv' hx p2 p1 p3 p4 o1 o4 (n := n) (e := s + 1) (by rw [mj_up_ne (by omega)]; exact hn) (by rw [mj_up_eq]; omega) (by rw [mj_up_eq]; omega) (mj_up_ne (by omega)) (ghk 1 (by omega) (Or.inr ⟨rfl, c39.2⟩))
  · -- a list
    have e7' : σ7 = mj_up σ 3 4 ((s : Int) + 1) := by rw [e7, e1, z_uu]
    obtain ⟨o1, o2, o3, o4, o5, o6⟩ := @z_opn_v (mj_up τ 0 4 (s : Int)) 0 L s
    obtain ⟨p1, p2, p3, p4⟩ := opn 0 (by omega)
    rw [e7', show (L : Int) + 1 = ((L + 1 : Nat) : Int) by omega]
    refine wq_c40 (d := K0 + 4) (r_list hL12 ih' (σ0 := σ) (τ0 := τ) (fun v σ' τ' h1 h2 h3 h4 h5 h6 h7 h8 h9 => ⟨_, rfl, hv' v σ' τ' h1 h2 h3 h4 h5 h6 h7 h8 h9⟩) (fun c σ' τ' h1 h2 h3 h4 h5 h6 => ⟨_, rfl, hx c σ' τ' h1 h2 h3 h4 h5 h6⟩) _ _ (z_opn (mj_up τ 0 4 (s : Int)) 0 L s) 268435456 (-1) 0 ⟨p2, p1, p3, p4, o1, o4, o2, by rw [mj_up_eq]; omega, by rw [mj_up_eq]; omega, Or.inl ⟨rfl, rfl, o3, mj_up_ne (by omega)⟩⟩ (ghk 0 (by omega) (Or.inl ⟨rfl, c40.2⟩)) rfl)
theorem r_DA : ∀ j L : Nat, L + j = 13 → z_DA L
  | 0, L, h => by
    have : L = 13 := by omega
    subst this
    exact r_DA13
  | j + 1, L, h => r_DAs (by omega) (r_DA j (L + 1) (by omega))
/-- reading a datum: the program's next, the reference's read -/
theorem r_next {d : Nat} {Q : mj_Q} {σ τ : mj_S} (R : z_RD σ τ) (h5 : τ 0 5 = 0)
    (hv : ∀ (v : Int) (σ' τ' : mj_S), z_F 0 σ τ σ' τ' → z_RD σ' τ' → τ' 0 5 = 0 → σ 3 4 < σ' 3 4 → 0 ≤ v → (v < 536870912 → v < 268435456 + σ' 1 2) → z_D (σ' 11) (σ' 12) 536870912 (σ 2 8).toNat (σ' 2 8).toNat 12 (σ' 2 8 - σ 2 8).toNat v → (∀ (d' : Nat) (Q' : mj_Q), Q' (some (.inl v)) τ' → mj_B mjm_L mjm_Ms (d' + 11) 20 [.inr (.inl 0)] τ Q') → Q (some (.inl v)) σ')
    (hx : ∀ (c : Int) (σ' τ' : mj_S), z_F 0 σ τ σ' τ' → z_X σ' τ' → z_Y σ' τ' → τ' 0 5 = c → ((c = 1 ∨ c = 11) ∧ z_pl τ') → (∀ (d' : Nat) (Q' : mj_Q), Q' (some (.inl 268435456)) τ' → mj_B mjm_L mjm_Ms (d' + 11) 20 [.inr (.inl 0)] τ Q') → Q (some (.inl (-c))) σ') : mj_B mjc_L mjc_Ms (d + 50) 38 [.inr (.inl 3)] σ Q := by
  obtain ⟨hX, hY, hS, ⟨t1, t2, t3⟩⟩ := R
  obtain ⟨n, hn⟩ : ∃ n : Nat, σ 3 3 = n := ⟨(σ 3 3).toNat, by omega⟩
  obtain ⟨a, ha⟩ : ∃ a : Nat, σ 3 4 = a := ⟨(σ 3 4).toNat, by omega⟩
  have R0 : z_RD σ (mj_up τ 0 17 0) := z_RD_co ⟨hX, hY, hS, ⟨t1, t2, t3⟩⟩ (fun x y _ _ => mj_up_ne (by omega)) (mj_up_ne (by omega)) (mj_up_ne (by omega)) (mj_up_ne (by omega)) (mj_up_ne (by omega))
  have F0 : z_F 0 σ τ σ (mj_up τ 0 17 0) := z_F_m (z_F_rf _ _ _) (fun q k c => mj_up_ne (by omega))
  refine wq_c38 (d := d + 49) ?_
  refine r_DA 13 0 rfl d σ (mj_up τ 0 17 0) _ n (z_sk (σ 18) n (n - a) false) R0.1 R0.2.1 R0.2.2.1 hn ⟨a, ha, by omega, rfl⟩ ⟨a, by rw [mj_up_ne (by omega)]; omega, by omega, rfl⟩ (by rw [mj_up_ne (by omega)]; exact h5) mj_up_eq (fun c => absurd c (by decide)) (Or.inl rfl) (fun c => absurd c (by decide)) (fun v σ' τ' _ f1 f2 f3 f4 f5 f6 f7 f8 f9 => ?_) (fun c σ' τ' f1 f2 f3 f4 f5 f6 => ?_)
  · refine ⟨_, rfl, hv v σ' τ' (z_F_tr (Nat.le_refl _) F0 f1) f2 f3 f5 f6 f7 f8 (fun d' Q' h => wq_m20 (d := d' + 9) (fun σ1 e1 => ?_))⟩
    rw [e1]
    exact f9 d' Q' (fun y => qw_m20_158 (d := d' + 9) ⟨fun z => absurd z (by omega), fun _ => ⟨fun z => absurd f3 z, fun _ => ⟨fun z => absurd f4 z, fun _ => h⟩⟩⟩)
  · refine ⟨_, rfl, hx c σ' τ' (z_F_tr (Nat.le_refl _) F0 f1) f2 f3 f4 f5 (fun d' Q' h => wq_m20 (d := d' + 9) (fun σ1 e1 => ?_))⟩
    rw [e1]
    exact f6 d' Q' (qw_m20_5 (d := d' + 9) ⟨fun _ => h, fun z => absurd z (by omega)⟩)
