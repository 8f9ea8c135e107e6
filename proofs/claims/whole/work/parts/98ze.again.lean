/-! a definition that comes again: both compare data of the store -/
def z_sm (w : Nat → Nat) : Nat → Nat
  | 0 => 0
  | c + 1 => z_sm w c + (2 * w c + 1)
theorem z_sm_eq {w w' : Nat → Nat} : ∀ {c : Nat}, (∀ i, i < c → w' i = w i) → z_sm w' c = z_sm w c
  | 0, _ => rfl
  | c + 1, h => by
    show z_sm w' c + (2 * w' c + 1) = z_sm w c + (2 * w c + 1)
    rw [z_sm_eq (fun i hi => h i (by omega)), h c (by omega)]
theorem t_same0 {A B : Nat → Int} {st : Nat} {σ0 τ0 : mj_S} {d : Nat} {Q : mj_Q} {a1 a2 b1 b2 : Int} (hs : z_sa A B (σ0 11) (σ0 12) (τ0 4) (τ0 5) st)
    (hend : ∀ (v : Int) (σ τ : mj_S), (∀ q k, ¬ (q = 16 ∨ q = 17 ∨ (q = 2 ∧ k = 11)) → σ q k = σ0 q k) → (∀ q k, ¬ (q = 8) → τ q k = τ0 q k) → (v = 0 ∨ v = 1) → (∀ (d' : Nat) (Q' : mj_Q), Q' (some (.inl (1 - v))) τ → qh_m36_17 (d' + 2) Q' b1 b2 0 2 τ0) → Q (some (.inl v)) σ) :
    ∀ (N : Nat) (σ τ : mj_S) (c n K : Nat) (w : Nat → Nat), z_sm w c = N → n + N ≤ 2000 → K ≤ n → (∀ q k, ¬ (q = 16 ∨ q = 17 ∨ (q = 2 ∧ k = 11)) → σ q k = σ0 q k) → (∀ q k, ¬ (q = 8) → τ q k = τ0 q k) → σ 2 11 = K → c ≤ 13 → (∀ i, i < c → z_D A B (z_bw A) 0 st (12 - i) (w i) (σ 16 i) ∧ z_dt A B st (σ 17 i) ∧ τ 8 (2 * i) = σ 17 i ∧ τ 8 (2 * i + 1) = σ 16 i) → (∀ (d' : Nat) (Q' : mj_Q), qh_m36_17 (d' + 2) Q' b1 b2 0 ((2 * c : Nat) : Int) τ → qh_m36_17 (d' + 2) Q' b1 b2 0 2 τ0) → qh_c32_25 (d + 1) Q a1 a2 1000000 (c : Int) (n : Int) σ := by
  intro N
  induction N using Nat.strongRecOn with
  | ind N ihN =>
  intro σ τ c n K w hN hn hK fc fm h2 hc hst gs
  cases c with
  | zero =>
    refine qw_c32_25 ⟨fun z => absurd z (by omega), fun _ => ⟨fun _ => ?_, fun z => absurd z (by omega)⟩⟩
    exact hend 0 σ τ fc fm (Or.inl rfl) (fun d' Q' hq => gs d' Q' (qw_m36_17 ⟨fun _ => hq, fun z => absurd z (by omega)⟩))
  | succ e =>
    obtain ⟨v1, v2, v3, v4⟩ := hst e (by omega)
    have r1 := z_D_r (z_bw_le A) v1
    have r2 := z_dt_r v2
    have hN' : z_sm w e + (2 * w e + 1) = N := hN
    refine qw_c32_25 ⟨fun z => absurd z (by omega), fun _ => ⟨fun z => absurd z (by omega), fun _ => ?_⟩⟩
    rw [show ((e + 1 : Nat) : Int) + (-1) = (e : Int) by omega, Int.toNat_natCast]
    have ref : ∀ (d' : Nat) (Q' : mj_Q), (¬ (536870912 ≤ σ 16 e ∧ 536870912 ≤ σ 17 e) → σ 16 e = σ 17 e → qh_m36_17 (d' + 2) Q' b1 b2 0 ((2 * e : Nat) : Int) τ) → (¬ (536870912 ≤ σ 16 e ∧ 536870912 ≤ σ 17 e) → ¬ σ 16 e = σ 17 e → Q' (some (.inl 0)) τ) →
        (536870912 ≤ σ 16 e → 536870912 ≤ σ 17 e → qh_m36_17 (d' + 2) Q' b1 b2 0 ((2 * e + 4 : Nat) : Int) (mj_up (mj_up (mj_up (mj_up τ 8 (2 * e) (z_cd (τ 5) (σ 17 e))) 8 (2 * e + 1) (z_cd (τ 5) (σ 16 e))) 8 (2 * e + 2) (z_cd (τ 4) (σ 17 e))) 8 (2 * e + 3) (z_cd (τ 4) (σ 16 e)))) → qh_m36_17 (d' + 2) Q' b1 b2 0 ((2 * (e + 1) : Nat) : Int) τ := fun d' Q' k1 k2 k3 => by
      refine qw_m36_17 ⟨fun q2 => absurd q2 (by omega), fun _ => ?_⟩
      rw [show ((2 * (e + 1) : Nat) : Int) + (-2) = ((2 * e : Nat) : Int) by omega, show ((2 * e : Nat) : Int) + 1 = ((2 * e + 1 : Nat) : Int) by omega, show ((2 * e : Nat) : Int) + 2 = ((2 * e + 2 : Nat) : Int) by omega, show ((2 * e : Nat) : Int) + 3 = ((2 * e + 3 : Nat) : Int) by omega, show ((2 * e : Nat) : Int) + 4 = ((2 * e + 4 : Nat) : Int) by omega, Int.toNat_natCast, Int.toNat_natCast, Int.toNat_natCast, Int.toNat_natCast, v3, v4]
      refine ⟨by unfold mj_r; omega, by omega, by omega, by unfold mj_r; omega, by omega, by omega, fun p1 => ⟨fun p2 => k1 (by omega) (by omega), fun p2 => k2 (by omega) (by omega)⟩, fun p1 => ⟨fun p2 => ⟨fun p3 => k1 (by omega) (by omega), fun p3 => k2 (by omega) (by omega)⟩, fun p2 => ⟨fun _ => ?_, fun p3 => absurd rfl p3⟩⟩⟩
      refine ⟨by omega, by omega, by omega, fun σ6 e6 => ⟨by unfold mj_r; omega, by omega, by omega, by omega, fun σ7 e7 => ⟨by unfold mj_r; omega, by omega, by omega, by omega, fun σ8 e8 => ⟨by unfold mj_r; omega, by omega, by omega, by omega, fun σ9 e9 => ⟨by unfold mj_r; omega, ?_⟩⟩⟩⟩⟩
      have w65 : σ6 5 = τ 5 := by rw [e6, z_rq _ _ _ _ _ (by decide)]
      have w74 : σ7 4 = τ 4 := by rw [e7, z_rq _ _ _ _ _ (by decide), e6, z_rq _ _ _ _ _ (by decide)]
      have w84 : σ8 4 = τ 4 := by rw [e8, z_rq _ _ _ _ _ (by decide)]; exact w74
      have := k3 p2 p1
      rw [e9, w84, e8, w74, e7, w65, e6]
      exact this
    have diff : ¬ (536870912 ≤ σ 16 e ∧ 536870912 ≤ σ 17 e) → ¬ σ 16 e = σ 17 e → Q (some (.inl 1)) σ := fun p1 p2 => hend 1 σ τ fc fm (Or.inr rfl) (fun d' Q' hq => gs d' Q' (ref d' Q' (fun _ z => absurd z p2) (fun _ _ => hq) (fun z1 z2 => absurd ⟨z1, z2⟩ p1)))
    have same : ¬ (536870912 ≤ σ 16 e ∧ 536870912 ≤ σ 17 e) → σ 16 e = σ 17 e → mj_r ((n : Int) + 1) ∧ qh_c32_25 (d + 1) Q a1 a2 1000000 (e : Int) ((n : Int) + 1) σ := fun p1 p2 => by
      refine ⟨by unfold mj_r; omega, ?_⟩
      rw [show ((n : Int) + 1) = ((n + 1 : Nat) : Int) by omega]
      exact ihN (z_sm w e) (by omega) σ τ e (n + 1) K w rfl (by omega) (by omega) fc fm h2 (by omega) (fun i hi => hst i (by omega)) (fun d' Q' hq => gs d' Q' (ref d' Q' (fun _ _ => hq) (fun _ z => absurd p2 z) (fun z1 z2 => absurd ⟨z1, z2⟩ p1)))
    refine ⟨by unfold mj_r; omega, by omega, by omega, by omega, by omega, fun p1 => ⟨fun p2 => same (by omega) p2, fun p2 => diff (by omega) p2⟩, fun p1 => ⟨fun p2 => ⟨fun p3 => same (by omega) p3, fun p3 => diff (by omega) p3⟩, fun p2 => ⟨fun p3 => absurd p3 (by omega), fun p3 => ?_⟩⟩⟩
    -- two pairs
    have sa : z_sa A B (σ 11) (σ 12) (τ 4) (τ 5) st := fun i hi hi4 => by rw [fc 11 i (by omega), fc 12 i (by omega), fm 4 i (by omega), fm 5 i (by omega)]; exact hs i hi hi4
    obtain ⟨k', p, s1, s2, y1, y2, y3, y4, y5, y6, y7⟩ := z_D_p (z_bw_le A) v1 p1
    obtain ⟨x1, x2, x3⟩ := z_dt_cd v2 p2
    have cdl : z_cd (σ 11) (σ 16 e) = z_cd A (σ 16 e) ∧ z_cd (σ 12) (σ 16 e) = z_cd B (σ 16 e) ∧ z_cd (τ 4) (σ 16 e) = z_cd A (σ 16 e) ∧ z_cd (τ 5) (σ 16 e) = z_cd B (σ 16 e) := by
      have := sa p y3 y4
      rw [y2, z_cd_p (by omega), z_cd_p (by omega), z_cd_p (by omega), z_cd_p (by omega), z_cd_p (by omega), z_cd_p (by omega)]
      exact this
    have cdr : z_cd (σ 11) (σ 17 e) = z_cd A (σ 17 e) ∧ z_cd (σ 12) (σ 17 e) = z_cd B (σ 17 e) ∧ z_cd (τ 4) (σ 17 e) = z_cd A (σ 17 e) ∧ z_cd (τ 5) (σ 17 e) = z_cd B (σ 17 e) := by
      have := sa (σ 17 e - 536870912).toNat (by omega) (by omega)
      obtain ⟨p', ep⟩ : ∃ p' : Nat, σ 17 e = 536870912 + (p' : Int) := ⟨(σ 17 e - 536870912).toNat, by omega⟩
      rw [ep] at this ⊢
      rw [z_cd_p (by omega), z_cd_p (by omega), z_cd_p (by omega), z_cd_p (by omega), z_cd_p (by omega), z_cd_p (by omega)]
      rw [show (536870912 + (p' : Int) - 536870912).toNat = p' by omega] at this
      exact this
    refine ⟨by unfold mj_r; omega, fun _ => ⟨by rw [h2]; unfold mj_r; omega, fun σ1 e1 => ⟨by omega, by omega, fun σ2 e2 => ⟨by unfold mj_r; omega, by omega, by omega, fun σ3 e3 => ⟨by unfold mj_r; omega, by unfold mj_r; omega, ?_⟩⟩⟩⟩, fun z => absurd z (by omega)⟩
    have a12 : σ1 12 = σ 12 := by rw [e1]; exact z_rq _ _ _ _ _ (by decide)
    have e2' : σ2 = mj_up (mj_up σ1 16 e (z_cd (σ 12) (σ 16 e))) 17 e (z_cd (σ 12) (σ 17 e)) := by rw [e2, a12]; unfold z_aw; rw [if_pos (by omega), Int.toNat_natCast]
    have a11 : σ2 11 = σ 11 := by rw [e2', z_rq _ _ _ _ _ (by decide), z_rq _ _ _ _ _ (by decide), e1, z_rq _ _ _ _ _ (by decide)]
    have e3' : σ3 = mj_up (mj_up σ2 16 (e + 1) (z_cd (σ 11) (σ 16 e))) 17 (e + 1) (z_cd (σ 11) (σ 17 e)) := by rw [e3, a11]; unfold z_aw; rw [if_pos (by omega), show ((e : Int) + 1).toNat = e + 1 by omega]
    have o3 : ∀ q k, ¬ ((q = 16 ∨ q = 17) ∧ (k = e ∨ k = e + 1)) → ¬ (q = 2 ∧ k = 11) → σ3 q k = σ q k := fun q k z1 z2 => by rw [e3', mj_up_ne (by omega), mj_up_ne (by omega), e2', mj_up_ne (by omega), mj_up_ne (by omega), e1, mj_up_ne (by omega)]
    have k0 : σ3 16 e = z_cd B (σ 16 e) ∧ σ3 17 e = z_cd B (σ 17 e) := by
      rw [e3', ← cdl.2.1, ← cdr.2.1]
      refine ⟨?_, ?_⟩
      · rw [mj_up_ne (by omega), mj_up_ne (by omega), e2', mj_up_ne (by omega), mj_up_eq]
      · rw [mj_up_ne (by omega), mj_up_ne (by omega), e2', mj_up_eq]
    have k1 : σ3 16 (e + 1) = z_cd A (σ 16 e) ∧ σ3 17 (e + 1) = z_cd A (σ 17 e) := by
      rw [e3', ← cdl.1, ← cdr.1]
      refine ⟨?_, mj_up_eq⟩
      rw [mj_up_ne (by omega), mj_up_eq]
    have hN2 : z_sm (fun i => if i = e then s2 else if i = e + 1 then s1 else w i) (e + 2) = z_sm w e + (2 * s2 + 1) + (2 * s1 + 1) := by
      have h0 : z_sm (fun i => if i = e then s2 else if i = e + 1 then s1 else w i) e = z_sm w e := z_sm_eq (fun i hi => by rw [if_neg (by omega), if_neg (by omega)])
      show z_sm _ e + (2 * (if e = e then s2 else if e = e + 1 then s1 else w e) + 1) + (2 * (if e + 1 = e then s2 else if e + 1 = e + 1 then s1 else w (e + 1)) + 1) = _
      rw [h0, if_pos rfl, if_neg (by omega), if_pos rfl]
    rw [show ((e : Int) + 2) = ((e + 2 : Nat) : Int) by omega, show ((n : Int) + 1) = ((n + 1 : Nat) : Int) by omega]
    refine ihN (z_sm w e + (2 * s2 + 1) + (2 * s1 + 1)) (by omega) σ3 (mj_up (mj_up (mj_up (mj_up τ 8 (2 * e) (z_cd (τ 5) (σ 17 e))) 8 (2 * e + 1) (z_cd (τ 5) (σ 16 e))) 8 (2 * e + 2) (z_cd (τ 4) (σ 17 e))) 8 (2 * e + 3) (z_cd (τ 4) (σ 16 e))) (e + 2) (n + 1) (K + 1) _ hN2 (by omega) (by omega) (fun q k z => ?_) (fun q k z => ?_) ?_ (by omega) (fun i hi' => ?_) (fun d' Q' hq => gs d' Q' (ref d' Q' (fun z => absurd ⟨p1, p2⟩ z) (fun z => absurd ⟨p1, p2⟩ z) (fun _ _ => hq)))
    · rw [o3 q k (by omega) (by omega)]; exact fc q k z
    · rw [mj_up_ne (by omega), mj_up_ne (by omega), mj_up_ne (by omega), mj_up_ne (by omega)]; exact fm q k z
    · rw [e3', mj_up_ne (by omega), mj_up_ne (by omega), e2', mj_up_ne (by omega), mj_up_ne (by omega), e1, mj_up_eq]; omega
    · by_cases c1 : i = e + 1
      · subst c1
        rw [k1.1, k1.2, if_neg (by omega), if_pos rfl, show 2 * (e + 1) = 2 * e + 2 by omega, show 2 * e + 2 + 1 = 2 * e + 3 by omega, mj_up_eq, mj_up_ne (by omega), mj_up_eq, cdl.2.2.1, cdr.2.2.1]
        exact ⟨z_D_mono (Int.le_refl _) (Nat.le_refl _) (by omega) (by omega) y6, x2, rfl, rfl⟩
      · by_cases c2 : i = e
        · subst c2
          rw [k0.1, k0.2, if_pos rfl, mj_up_ne (by omega), mj_up_ne (by omega), mj_up_ne (by omega), mj_up_eq, mj_up_ne (by omega), mj_up_ne (by omega), mj_up_eq, cdl.2.2.2, cdr.2.2.2]
          exact ⟨z_D_mono (Int.le_refl _) (Nat.le_refl _) (by omega) (by omega) y7, x3, rfl, rfl⟩
        · rw [o3 16 i (by omega) (by omega), o3 17 i (by omega) (by omega), if_neg c2, if_neg c1]
          rw [mj_up_ne (by omega), mj_up_ne (by omega), mj_up_ne (by omega), mj_up_ne (by omega), mj_up_ne (by omega), mj_up_ne (by omega), mj_up_ne (by omega), mj_up_ne (by omega)]
          exact hst i (by omega)
/-- both answer alike, the program with its arguments the other way round -/
theorem t_again {A B : Nat → Int} {st : Nat} {σ τ : mj_S} (hs : z_sa A B (σ 11) (σ 12) (τ 4) (τ 5) st) {x y : Int} {s : Nat} (hx : z_D A B (z_bw A) 0 st 12 s x) (hsz : s ≤ 400) (hy : z_dt A B st y) {d : Nat} {Q : mj_Q}
    (hend : ∀ (v : Int) (σ' τ' : mj_S), (∀ q k, ¬ (q = 16 ∨ q = 17 ∨ (q = 2 ∧ k = 11)) → σ' q k = σ q k) → (∀ q k, ¬ (q = 8) → τ' q k = τ q k) → (v = 0 ∨ v = 1) → (∀ (d' : Nat) (Q' : mj_Q), Q' (some (.inl v)) τ' → mj_B mjm_L mjm_Ms (d' + 3) 36 [.inr (.inl 0), .inl y, .inl x, .inl 0] τ Q') → Q (some (.inl v)) σ') : mj_B mjc_L mjc_Ms (d + 3) 83 [.inr (.inl 6), .inl x, .inl y] σ Q := by
  refine wq_c83 (wq_c32 (d := d) (fun σ1 e1 => ⟨by decide, by decide, fun σ2 e2 => ⟨by decide, by decide, fun σ3 e3 => ?_⟩⟩))
  have f3 : ∀ q k, ¬ (q = 16 ∨ q = 17 ∨ (q = 2 ∧ k = 11)) → σ3 q k = σ q k := fun q k z => by rw [e3, mj_up_ne (by omega), e2, mj_up_ne (by omega), e1, mj_up_ne (by omega)]
  have g3 : ∀ q k, ¬ q = 8 → mj_up (mj_up τ 8 0 y) 8 1 x q k = τ q k := fun q k z => by rw [mj_up_ne (by omega), mj_up_ne (by omega)]
  have i11 : σ3 2 11 = 0 := by rw [e3, mj_up_ne (by omega), e2, mj_up_ne (by omega), e1, mj_up_eq]
  have i16 : σ3 16 0 = x := by rw [e3, mj_up_ne (by omega), e2]; exact mj_up_eq
  have i17 : σ3 17 0 = y := by rw [e3]; exact mj_up_eq
  have key := t_same0 (A := A) (B := B) (st := st) (σ0 := σ3) (τ0 := mj_up (mj_up τ 8 0 y) 8 1 x) (d := d) (a1 := x) (a2 := y) (b1 := y) (b2 := x) (Q := fun r σ1 => ∃ v2, r = some (.inl v2) ∧ (¬ v2 = 0 → Q (some (.inl 0)) σ1) ∧ (v2 = 0 → Q (some (.inl 1)) σ1))
    (fun i h1 h2 => by rw [f3 11 i (by omega), f3 12 i (by omega), g3 4 i (by omega), g3 5 i (by omega)]; exact hs i h1 h2)
    (fun v σ' τ' k1 k2 k3 k4 => ⟨v, rfl, fun z => ?_, fun z => ?_⟩) (2 * s + 1) σ3 (mj_up (mj_up τ 8 0 y) 8 1 x) 1 0 0 (fun _ => s) (by show 0 + (2 * s + 1) = _; omega) (by omega) (by omega) (fun _ _ _ => rfl) (fun _ _ _ => rfl) i11 (by omega) (fun i hi => ?_) (fun d' Q' hq => hq)
  · exact key
  · have hv : v = 1 := by omega
    subst hv
    refine hend 0 σ' τ' (fun q k z2 => by rw [k1 q k z2, f3 q k z2]) (fun q k z2 => by rw [k2 q k z2, g3 q k z2]) (Or.inl rfl) (fun d' Q' hq => wq_m36 (d := d') ⟨by decide, by decide, fun τ1 u1 => ⟨by decide, by decide, fun τ2 u2 => ?_⟩⟩)
    have := k4 d' Q' hq
    rw [u2, u1]
    exact this
  · subst z
    refine hend 1 σ' τ' (fun q k z2 => by rw [k1 q k z2, f3 q k z2]) (fun q k z2 => by rw [k2 q k z2, g3 q k z2]) (Or.inr rfl) (fun d' Q' hq => wq_m36 (d := d') ⟨by decide, by decide, fun τ1 u1 => ⟨by decide, by decide, fun τ2 u2 => ?_⟩⟩)
    have := k4 d' Q' hq
    rw [u2, u1]
    exact this
  · have : i = 0 := by omega
    subst this
    refine ⟨by rw [i16]; exact hx, by rw [i17]; exact hy, ?_, ?_⟩
    · rw [i17, mj_up_ne (by omega)]; exact mj_up_eq
    · rw [i16]; exact mj_up_eq
