/-! a list, read by both -/
def z_LI (L : Nat) (σ0 τ0 σ τ : mj_S) (f l : Int) (m : Nat) : Prop :=
  z_F L σ0 τ0 σ τ ∧ z_RD σ τ ∧ τ 0 5 = 0 ∧ τ 0 17 = (L : Int) + 1 ∧ τ 9 L = 0 ∧ τ 12 L = 0 ∧ τ 10 L = f ∧ σ0 3 4 < σ 3 4 ∧ (m : Int) ≤ σ 3 4 ∧
  ((l = -1 ∧ f = 268435456 ∧ τ 11 L = 268435456 ∧ σ 2 8 = σ0 2 8) ∨
   ∃ p nn s : Nat, L ≤ 11 ∧ l = 536870912 + (p : Int) ∧ τ 11 L = l ∧ σ 2 8 = (p : Int) + 1 ∧ p < 400 ∧ (s : Int) + σ0 2 8 = (p : Int) + 1 ∧ σ0 2 8 ≤ p ∧ 536870912 ≤ f ∧ z_Sp (σ 11) (σ 12) 536870912 (σ0 2 8).toNat nn p (12 - L) s f ∧ σ 12 p = 268435456)
set_option maxHeartbeats 4000000 in
theorem r_dotd {L : Nat} {K0 : Nat} (ih : z_DAd (L + 1) (K0 + 4)) {σ0 τ0 : mj_S} {Q : mj_Q}
    (hv : ∀ (v : Int) (σ' τ' : mj_S), z_F L σ0 τ0 σ' τ' → z_RD σ' τ' → τ' 0 5 = 0 → τ' 0 17 = L → σ0 3 4 < σ' 3 4 → 0 ≤ v → (v < 536870912 → v < 268435456 + σ' 1 2) → z_D (σ' 11) (σ' 12) 536870912 (σ0 2 8).toNat (σ' 2 8).toNat (12 - L) (σ' 2 8 - σ0 2 8).toNat v → z_gv τ0 τ' v → Q (some (.inl v)) σ')
    (hx : ∀ (c : Int) (σ' τ' : mj_S), z_F L σ0 τ0 σ' τ' → z_X σ' τ' → z_Y σ' τ' → τ' 0 5 = c → ((c = 1 ∨ c = 11) ∧ z_pl τ') → z_gh τ0 τ' → Q (some (.inl (-c))) σ')
    {σ τ : mj_S} {f l : Int} (hF : z_F L σ0 τ0 σ τ) (hR : z_RD σ τ) (h5 : τ 0 5 = 0) (h17 : τ 0 17 = (L : Int) + 1) (h9 : τ 9 L = 0) (h12 : τ 12 L = 0) (h10 : τ 10 L = f) (hlt : σ0 3 4 < σ 3 4)
    {p nn sz : Nat} (hL11 : L ≤ 11) (g2 : l = 536870912 + (p : Int)) (g3 : τ 11 L = l) (g4 : σ 2 8 = (p : Int) + 1) (g5 : p < 400) (g6 : (sz : Int) + σ0 2 8 = (p : Int) + 1) (g7 : σ0 2 8 ≤ p) (g8 : 536870912 ≤ f) (g9 : z_Sp (σ 11) (σ 12) 536870912 (σ0 2 8).toNat nn p (12 - L) sz f)
    (gh : z_gh τ0 τ) {n a s : Nat} (hn : σ 3 3 = n) (ha : σ 3 4 = a) (hs : z_sk (σ 18) n (n - a) false = s) (d1 : s < n) (d2 : σ 18 s = 46) (d3 : z_re (σ 18) n (n - s) = s + 1) :
    mj_B mjc_L mjc_Ms (K0 + 5) 42 [.inr (.inl 3), .inl f, .inl l, .inl ((L + 1 : Nat) : Int)] (mj_up σ 3 4 (s : Int)) (fun r σ8 => ∃ v9, r = some (.inl v9) ∧ Q (some (.inl v9)) σ8) := by
  have hR0 := hR
  obtain ⟨hX, hY, hS, ⟨t1, t2, t3⟩⟩ := hR
  obtain ⟨x1, x2, x3, x4, x5⟩ := hX
  have x2' : ∀ i, 0 ≤ τ 1 i ∧ τ 1 i ≤ 65535 := by rw [← x1]; exact x2
  have hle := z_sk_le (σ 18) n (n - a) false (by omega)
  rw [hs] at hle
  have hs' : z_sk (τ 1) n (n - a) false = s := by rw [← x1]; exact hs
  have b17 : τ 0 17 = ((L + 1 : Nat) : Int) := by omega
  have R1 : z_RD (mj_up σ 3 4 (s : Int)) (mj_up τ 0 4 (s : Int)) := z_RD_at hR0 (by omega) (by omega)
  have R2 : z_RD (mj_up σ 3 4 ((s + 1 : Nat) : Int)) (mj_up τ 0 4 ((s + 1 : Nat) : Int)) := z_RD_at hR0 (by omega) (by omega)
  have R3 : z_RD (mj_up σ 3 4 ((s + 1 : Nat) : Int)) (mj_up (mj_up τ 0 4 ((s + 1 : Nat) : Int)) 12 L 1) := z_RD_co R2 (fun x y _ _ => mj_up_ne (by omega)) (mj_up_ne (by omega)) (mj_up_ne (by omega)) (mj_up_ne (by omega)) (mj_up_ne (by omega))
  have F3 : z_F L σ0 τ0 (mj_up σ 3 4 ((s + 1 : Nat) : Int)) (mj_up (mj_up τ 0 4 ((s + 1 : Nat) : Int)) 12 L 1) := z_F_m (z_F_tr (Nat.le_refl _) hF (z_F_at (by omega))) (fun x y c => mj_up_ne (by omega))
  have q18 : mj_up σ 3 4 (s : Int) 18 = σ 18 := z_rq _ _ _ _ _ (by decide)
  have q18' : mj_up σ 3 4 ((s + 1 : Nat) : Int) 18 = σ 18 := z_rq _ _ _ _ _ (by decide)
  have m1 : mj_up τ 0 4 ((s + 1 : Nat) : Int) 1 = τ 1 := z_rq _ _ _ _ _ (by decide)
  have m2 : mj_up τ 0 4 ((s + 1 : Nat) : Int) 0 2 = n := by rw [mj_up_ne (by omega)]; omega
  have hlk : ¬ z_lk (mj_up τ 0 4 ((s + 1 : Nat) : Int)) = 46 := by
    unfold z_lk
    rw [m2, mj_up_eq, m1, Int.toNat_natCast]
    by_cases c : ((s + 1 : Nat) : Int) < n
    · rw [if_pos c]
      have := z_re_at (σ 18) n (n - s) (by omega) (by rw [d3]; omega)
      rw [d3, x1] at this
      intro z
      rw [z] at this
      exact absurd this (by decide)
    · rw [if_neg c]; decide
  have gh3 : z_gh τ0 (mj_up (mj_up τ 0 4 ((s + 1 : Nat) : Int)) 12 L 1) := fun d' Q' h => gh d' Q' (by
    refine rh (L := L + 1) h5 (by omega) (by omega) (b := a) (by omega) (by omega) (fun i => (x2' i).1) hs' rfl b17 (by omega) (fun c => absurd c (by omega)) (fun _ c => ?_) (fun _ _ _ c => ?_) (fun _ _ _ c => absurd c (by omega)) (fun _ _ c => absurd c (by omega)) (fun _ _ c => ?_) (fun _ _ c => ?_) (fun _ _ _ _ _ _ => ?_)
    · rw [← x1, d2] at c; exact absurd c (by decide)
    · rw [Nat.add_sub_cancel, h12] at c; exact absurd c (by decide)
    · rw [← x1, d2] at c; exact absurd c (by decide)
    · rw [← x1, d2] at c; exact absurd c (by decide)
    · refine r_dot (d := d' + 6) (n := n) (a := s) (e := s + 1) R1 (by rw [mj_up_ne (by omega)]; exact hn) mj_up_eq (by rw [q18]; exact d3) rfl (by rw [q18]; exact d2) ?_
      rw [z_uu]
      refine ⟨_, rfl, fun y => qw_m20_148 (d := d' + 9) ⟨fun z => absurd rfl z, fun _ => r_dotf (d := d' + 8) (L := L) (by rw [mj_up_ne (by omega)]; exact h17) (by omega) (by rw [mj_up_eq]; omega) (by rw [m2]; omega) hlk (by rw [mj_up_ne (by omega)]; exact h9) (by rw [mj_up_ne (by omega), g3, g2]; omega) (by rw [mj_up_ne (by omega)]; exact h12) (fun τ' e' => ⟨_, rfl, qw_m20_158 (d := d' + 9) ⟨fun _ => by rw [e']; exact h, fun z => absurd z (by decide)⟩⟩)⟩⟩)
  have c28 : mj_up σ 3 4 ((s + 1 : Nat) : Int) 2 8 = (p : Int) + 1 := by rw [mj_up_ne (by omega)]; exact g4
  have c33 : mj_up σ 3 4 ((s + 1 : Nat) : Int) 3 3 = n := by rw [mj_up_ne (by omega)]; exact hn
  have c34 : mj_up σ 3 4 ((s + 1 : Nat) : Int) 3 4 = ((s + 1 : Nat) : Int) := mj_up_eq
  refine wq_c42 (d := K0 + 3) ?_
  rw [mj_up_eq]
  refine ⟨by unfold mj_r; omega, fun σ1 e1 => ?_⟩
  have e1' : σ1 = mj_up σ 3 4 ((s + 1 : Nat) : Int) := by rw [e1, z_uu, show (s : Int) + 1 = ((s + 1 : Nat) : Int) by omega]
  rw [e1']
  refine ih _ (mj_up (mj_up τ 0 4 ((s + 1 : Nat) : Int)) 12 L 1) _ n (z_sk (σ 18) n (n - (s + 1)) false) R3.1 R3.2.1 R3.2.2.1 c33 ⟨s + 1, c34, by omega, by rw [q18']⟩ ⟨s + 1, by rw [mj_up_ne (by omega), mj_up_eq], by omega, by rw [q18']⟩ (by rw [mj_up_ne (by omega), mj_up_ne (by omega)]; exact h5) (by rw [mj_up_ne (by omega), mj_up_ne (by omega)]; exact b17) (fun _ => by rw [Nat.add_sub_cancel, mj_up_eq]; decide) (Or.inr (Or.inr (Or.inl (by rw [Nat.add_sub_cancel, mj_up_eq])))) (fun z => absurd z (by omega)) (fun v σ2 τ4 f0' f1 f2 f3 f4 f5 f6 f7 f8 f9 => ?_) (fun c σ2 τ4 f1 f2 f3 f4 f5 f6 => ?_)
  · have f2c := f2
    obtain ⟨⟨X1, X2, X3, X4, X5⟩, r2, ⟨u1, u2, u3, u4⟩, ⟨r4, r5, r6⟩⟩ := f2c
    have g28 := f1.2.2.2.2.2.1
    rw [c28] at g28
    have g33 : σ2 3 3 = n := by rw [f1.1 3 3 (by omega)]; exact c33
    obtain ⟨a2, ha2⟩ : ∃ a2 : Nat, σ2 3 4 = a2 := ⟨(σ2 3 4).toNat, by omega⟩
    have hle2 := z_sk_le (σ2 18) n (n - a2) false (by omega)
    generalize hs2 : z_sk (σ2 18) n (n - a2) false = s2 at hle2
    have hs2' : z_sk (τ4 1) n (n - a2) false = s2 := by rw [← X1]; exact hs2
    have k4 := f1.2.2.2.1 L (by omega)
    have k9 : τ4 9 L = 0 := by rw [k4.1, mj_up_ne (by omega), mj_up_ne (by omega)]; exact h9
    have k10 : τ4 10 L = f := by rw [k4.2.1, mj_up_ne (by omega), mj_up_ne (by omega)]; exact h10
    have k11 : τ4 11 L = 536870912 + (p : Int) := by rw [k4.2.2.1, mj_up_ne (by omega), mj_up_ne (by omega), g3]; exact g2
    have k12 : τ4 12 L = 1 := by rw [k4.2.2.2, mj_up_eq]
    have k17 : τ4 0 17 = (L : Int) + 1 := by rw [f4]; omega
    have X2' : ∀ i, 0 ≤ τ4 1 i ∧ τ4 1 i ≤ 65535 := by rw [← X1]; exact X2
    -- the reference takes it: the rest of the last pair, and a mark
    have gh5 : z_gh τ0 (mj_up (mj_up τ4 5 p v) 12 L 2) := fun d' Q' h => gh3 d' Q' (f9 d' Q' (fun y => qw_m20_158 (d := d' + 9) ⟨fun z => absurd z (by omega), fun _ => ⟨fun z => absurd f3 z, fun _ => ⟨fun _ => r_taked (d := d' + 7) (L := L) k17 (by omega) k9 k12 k11 g5 ⟨_, rfl, qw_m20_158 (d := d' + 9) ⟨fun _ => h, fun z => absurd z (by decide)⟩⟩, fun z => absurd z (by omega)⟩⟩⟩))
    have n5 : mj_up (mj_up τ4 5 p v) 12 L 2 0 5 = 0 := by rw [mj_up_ne (by omega), mj_up_ne (by omega)]; exact f3
    have n2 : mj_up (mj_up τ4 5 p v) 12 L 2 0 2 = n := by rw [mj_up_ne (by omega), mj_up_ne (by omega)]; omega
    have n4 : mj_up (mj_up τ4 5 p v) 12 L 2 0 4 = a2 := by rw [mj_up_ne (by omega), mj_up_ne (by omega)]; omega
    have n17 : mj_up (mj_up τ4 5 p v) 12 L 2 0 17 = ((L + 1 : Nat) : Int) := by rw [mj_up_ne (by omega), mj_up_ne (by omega)]; omega
    have n1 : mj_up (mj_up τ4 5 p v) 12 L 2 1 = τ4 1 := by rw [z_rq _ _ _ _ _ (by decide), z_rq _ _ _ _ _ (by decide)]
    have F4 : z_F L σ0 τ0 σ2 τ4 := z_F_tr (by omega) F3 f1
    refine ⟨_, rfl, fun _ => t_c48 (d := K0 + 3) g33 (by omega) ha2 (by omega) (fun σ4 e4 => ?_), fun z => absurd z (by omega)⟩
    rw [hs2] at e4
    have a33 : σ4 3 3 = n := by rw [e4, mj_up_ne (by omega)]; exact g33
    have a34 : σ4 3 4 = s2 := by rw [e4, mj_up_eq]
    have a18 : σ4 18 = σ2 18 := by rw [e4]; exact z_rq _ _ _ _ _ (by decide)
    rw [a33, a34, a18, Int.toNat_natCast]
    refine ⟨rfl, by omega, by omega, fun cp => ⟨by unfold mj_r; omega, fun σ5 e5 => ⟨by omega, ?_, fun σ6 e6 => ?_⟩⟩, fun cp => ?_⟩
    · rw [e5, mj_up_ne (by omega), e4, mj_up_ne (by omega)]; omega
    · have e5' : σ5 = mj_up σ2 3 4 ((s2 : Int) + 1) := by rw [e5, e4, z_uu]
      have w28 : σ5 2 8 = σ2 2 8 := by rw [e5', mj_up_ne (by omega)]
      have e6' : σ6 = mj_up (mj_up σ2 3 4 ((s2 : Int) + 1)) 12 p v := by
        rw [e6]; unfold z_ew; rw [if_pos (by rw [w28]; omega), g2, show (536870912 + (p : Int) - 536870912).toNat = p by omega, e5']
      have R5 : z_RD (mj_up σ2 3 4 ((s2 : Int) + 1)) (mj_up τ4 0 4 ((s2 : Int) + 1)) := z_RD_at f2 (by omega) (by omega)
      have y12 : mj_up σ2 3 4 ((s2 : Int) + 1) 1 2 = σ2 1 2 := mj_up_ne (by omega)
      have R6 : z_RD (mj_up (mj_up σ2 3 4 ((s2 : Int) + 1)) 12 p v) (mj_up (mj_up τ4 0 4 ((s2 : Int) + 1)) 5 p v) := z_RD_ew R5 (by rw [y12]; exact f7)
      have F6 : z_F L σ0 τ0 (mj_up (mj_up σ2 3 4 ((s2 : Int) + 1)) 12 p v) (mj_up (mj_up τ4 0 4 ((s2 : Int) + 1)) 5 p v) := z_F_ew (z_F_tr (Nat.le_refl _) F4 (z_F_at (by omega))) g7 g5
      rw [e6']
      -- the reference behind the closing: all its changes
      have same : ∀ q k, ¬ ((q = 12 ∧ k = L) ∨ (q = 0 ∧ k = 17)) → mj_up (mj_up (mj_up (mj_up τ4 5 p v) 12 L 2) 0 4 ((s2 : Int) + 1)) 0 17 (L : Int) q k = mj_up (mj_up τ4 0 4 ((s2 : Int) + 1)) 5 p v q k := fun q k c => by
        rw [mj_up_ne (by omega), z_rd, z_rd, z_rd, z_rd, z_rd]
        by_cases c1 : q = 0 ∧ k = 4
        · rw [if_pos c1, if_neg (by omega), if_pos c1]
        · rw [if_neg c1, if_neg (show ¬ (q = 12 ∧ k = L) by omega)]
          by_cases c2 : q = 5 ∧ k = p
          · rw [if_pos c2, if_pos c2]
          · rw [if_neg c2, if_neg c2, if_neg c1]
      refine ⟨_, rfl, hv f _ (mj_up (mj_up (mj_up (mj_up τ4 5 p v) 12 L 2) 0 4 ((s2 : Int) + 1)) 0 17 (L : Int)) (z_F_m F6 (fun q k c => same q k (by omega))) (z_RD_co R6 (fun x y _ _ => same x y (by omega)) (same 0 2 (by omega)) (same 0 4 (by omega)) (same 0 6 (by omega)) (same 0 11 (by omega))) (by rw [mj_up_ne (by omega), mj_up_ne (by omega)]; exact n5) mj_up_eq (by rw [mj_up_ne (by omega), mj_up_eq]; omega) (by omega) (fun z => absurd z (by omega)) ?_ (fun d' Q' h => gh5 d' Q' ?_)⟩
      · have v28 : mj_up (mj_up σ2 3 4 ((s2 : Int) + 1)) 12 p v 2 8 = σ2 2 8 := by rw [mj_up_ne (by omega), mj_up_ne (by omega)]
        have b11 : mj_up (mj_up σ2 3 4 ((s2 : Int) + 1)) 12 p v 11 = σ2 11 := by rw [z_rq _ _ _ _ _ (by decide), z_rq _ _ _ _ _ (by decide)]
        rw [v28, b11]
        rw [c28] at f8
        have fr : z_Sp (σ2 11) (mj_up (mj_up σ2 3 4 ((s2 : Int) + 1)) 12 p v 12) 536870912 (σ0 2 8).toNat nn p (12 - L) sz f := by
          refine z_Sp_frame (A := σ 11) (B := σ 12) (fun i _ hi _ => ?_) (fun i _ hi _ => ?_) g9
          · rw [(f1.2.2.1 i (by omega)).1, mj_up_ne (by omega)]
          · rw [mj_up_ne (by omega), mj_up_ne (by omega), (f1.2.2.1 i (by omega)).2.1, mj_up_ne (by omega)]
        have hd : z_D (σ2 11) (mj_up (mj_up σ2 3 4 ((s2 : Int) + 1)) 12 p v 12) 536870912 (σ0 2 8).toNat (σ2 2 8).toNat (12 - L) (σ2 2 8 - ((p : Int) + 1)).toNat (mj_up (mj_up σ2 3 4 ((s2 : Int) + 1)) 12 p v 12 p) := by
          rw [mj_up_eq]
          refine z_D_mono (Int.le_refl _) (by omega) (Nat.le_refl _) (by omega) (z_D_frame (A := σ2 11) (B := σ2 12) (fun i hi0 hi _ => ⟨rfl, ?_⟩) f8)
          rw [mj_up_ne (by omega), mj_up_ne (by omega)]
        have := z_Sp_close (b := (σ2 2 8).toNat) (by omega) hd fr
        rw [show (σ2 2 8 - σ0 2 8).toNat = sz + (σ2 2 8 - ((p : Int) + 1)).toNat by omega]
        exact this
      · refine rh (L := L + 1) (s := s2) n5 n2 (by omega) (b := a2) n4 (by omega) (fun i => by rw [n1]; exact (X2' i).1) (by rw [n1]; exact hs2') rfl n17 (by omega) (fun c => absurd c (by omega)) (fun _ _ => ?_) (fun _ c => ?_) (fun _ _ c => ?_) (fun c => ?_) (fun c => ?_) (fun c => ?_) (fun c => ?_)
        · refine r_close (d := d' + 8) (L := L) (s := s2) (by rw [mj_up_ne (by omega)]; omega) (by omega) mj_up_eq (by omega) (by rw [mj_up_ne (by omega), mj_up_ne (by omega), mj_up_ne (by omega), k9]; decide) (by rw [mj_up_ne (by omega), mj_up_eq]; decide) (fun τ' e' => ⟨_, rfl, fun y => ?_⟩)
          rw [e', z_uu, mj_up_ne (by omega), mj_up_ne (by omega), mj_up_ne (by omega), k10]
          exact r_148 (by omega) (h y)
        · rw [n1, ← X1] at c; exact absurd cp.2 c
        · rw [n1, ← X1] at c; exact absurd cp.2 c
        · exact absurd (by rw [Nat.add_sub_cancel, mj_up_eq]) (c (by omega))
        · exact absurd (by rw [Nat.add_sub_cancel, mj_up_eq]) (c (by omega))
        · exact absurd (by rw [Nat.add_sub_cancel, mj_up_eq]) (c (by omega))
        · exact absurd (by rw [Nat.add_sub_cancel, mj_up_eq]) (c (by omega))
    · -- no closing there
      have mm : ∀ q k, ¬ ((q = 5 ∧ k = p) ∨ (q = 12 ∧ k = L) ∨ (q = 0 ∧ (k = 4 ∨ k = 5))) → mj_up (mj_up (mj_up (mj_up τ4 5 p v) 12 L 2) 0 4 (s2 : Int)) 0 5 1 q k = τ4 q k := fun q k c => by
        rw [mj_up_ne (by omega), mj_up_ne (by omega), mj_up_ne (by omega), mj_up_ne (by omega)]
      have cc : ∀ q k, ¬ (q = 3 ∧ k = 4) → σ4 q k = σ2 q k := fun q k c => by rw [e4, mj_up_ne (by omega)]
      obtain ⟨F41, F42, F43, F44, F45, F46, F47⟩ := F4
      refine ⟨_, rfl, hx 1 σ4 (mj_up (mj_up (mj_up (mj_up τ4 5 p v) 12 L 2) 0 4 (s2 : Int)) 0 5 1) ⟨fun q k c => ?_, fun q k c => ?_, fun i hi => ?_, fun j hj => ?_, ?_, ?_, ?_⟩ ⟨?_, ?_, ?_, ?_, ?_⟩ ⟨?_, ?_, ?_, fun i hi => ?_⟩ mj_up_eq ⟨Or.inl rfl, z_pl_1 (by omega) (by rw [mj_up_ne (by omega), mj_up_ne (by omega)]; omega)⟩ (fun d' Q' h => gh5 d' Q' ?_)⟩
      · rw [cc q k (by omega)]; exact F41 q k c
      · rw [mm q k (by omega)]; exact F42 q k c
      · rw [cc 11 i (by omega), cc 12 i (by omega), mm 4 i (by omega), mm 5 i (by omega)]; exact F43 i hi
      · rw [mm 9 j (by omega), mm 10 j (by omega), mm 11 j (by omega), mm 12 j (by omega)]; exact F44 j hj
      · rw [cc 1 2 (by omega)]; exact F45
      · rw [cc 2 8 (by omega)]; exact F46
      · rw [a34]; omega
      · funext i; rw [a18, mm 1 i (by omega), X1]
      · rw [a18]; exact X2
      · rw [a33, mm 0 2 (by omega)]; omega
      · rw [a33]; omega
      · rw [a33]; omega
      · rw [cc 1 2 (by omega), mm 0 6 (by omega)]; exact r2.1
      · rw [cc 1 2 (by omega)]; exact r2.2.1
      · rw [cc 1 2 (by omega)]; exact r2.2.2.1
      · rw [cc 1 2 (by omega)] at hi
        obtain ⟨q1, q2, q3, q4⟩ := r2.2.2.2 i hi
        rw [cc 10 i (by omega), mm 3 i (by omega)]
        refine ⟨q1, q2, q3, fun k hk => ?_⟩
        rw [cc 9 _ (by omega), mm 2 _ (by omega)]
        exact q4 k hk
      · refine rh (L := L + 1) (s := s2) n5 n2 (by omega) (b := a2) n4 (by omega) (fun i => by rw [n1]; exact (X2' i).1) (by rw [n1]; exact hs2') rfl n17 (by omega) (fun c y => r_neg h y) (fun c1 c2 => ?_) (fun _ _ _ _ y => r_neg h y) (fun c => ?_) (fun c => ?_) (fun c => ?_) (fun c => ?_) (fun c => ?_)
        · rw [n1, ← X1] at c2; exact absurd ⟨by omega, c2⟩ cp
        · exact absurd (by rw [Nat.add_sub_cancel, mj_up_eq]) (c (by omega))
        · exact absurd (by rw [Nat.add_sub_cancel, mj_up_eq]) (c (by omega))
        · exact absurd (by rw [Nat.add_sub_cancel, mj_up_eq]) (c (by omega))
        · exact absurd (by rw [Nat.add_sub_cancel, mj_up_eq]) (c (by omega))
        · exact absurd (by rw [Nat.add_sub_cancel, mj_up_eq]) (c (by omega))
  · exact ⟨_, rfl, fun z => absurd z (by omega), fun _ => ⟨_, rfl, hx c σ2 τ4 (z_F_tr (by omega) F3 f1) f2 f3 f4 f5 (fun d' Q' h => gh3 d' Q' (f6 d' Q' h))⟩⟩
set_option maxHeartbeats 1000000 in
theorem r_lend {L : Nat} (hL12 : L ≤ 12) {σ0 τ0 : mj_S} {Q : mj_Q}
    (hv : ∀ (v : Int) (σ' τ' : mj_S), z_F L σ0 τ0 σ' τ' → z_RD σ' τ' → τ' 0 5 = 0 → τ' 0 17 = L → σ0 3 4 < σ' 3 4 → 0 ≤ v → (v < 536870912 → v < 268435456 + σ' 1 2) → z_D (σ' 11) (σ' 12) 536870912 (σ0 2 8).toNat (σ' 2 8).toNat (12 - L) (σ' 2 8 - σ0 2 8).toNat v → z_gv τ0 τ' v → Q (some (.inl v)) σ')
    {σ τ : mj_S} {f l : Int} (hF : z_F L σ0 τ0 σ τ) (hR : z_RD σ τ) (h5 : τ 0 5 = 0) (h17 : τ 0 17 = (L : Int) + 1) (h9 : τ 9 L = 0) (h12 : τ 12 L = 0) (h10 : τ 10 L = f) (hlt : σ0 3 4 < σ 3 4) (hcase : ((l = -1 ∧ f = 268435456 ∧ τ 11 L = 268435456 ∧ σ 2 8 = σ0 2 8) ∨
   ∃ p nn s : Nat, L ≤ 11 ∧ l = 536870912 + (p : Int) ∧ τ 11 L = l ∧ σ 2 8 = (p : Int) + 1 ∧ p < 400 ∧ (s : Int) + σ0 2 8 = (p : Int) + 1 ∧ σ0 2 8 ≤ p ∧ 536870912 ≤ f ∧ z_Sp (σ 11) (σ 12) 536870912 (σ0 2 8).toNat nn p (12 - L) s f ∧ σ 12 p = 268435456)) (gh : z_gh τ0 τ)
    {n a s : Nat} (hn : σ 3 3 = n) (ha : σ 3 4 = a) (hs : z_sk (σ 18) n (n - a) false = s) (f0 : 0 ≤ f) (csn : s < n) (cp : σ 18 s = 41) : Q (some (.inl f)) (mj_up σ 3 4 ((s : Int) + 1)) := by
  have hR0 := hR
  obtain ⟨hX, hY, hS, ⟨t1, t2, t3⟩⟩ := hR
  obtain ⟨x1, x2, x3, x4, x5⟩ := hX
  obtain ⟨s1, s2, s3, s4⟩ := hS
  have x2' : ∀ i, 0 ≤ τ 1 i ∧ τ 1 i ≤ 65535 := by rw [← x1]; exact x2
  have hle := z_sk_le (σ 18) n (n - a) false (by omega)
  rw [hs] at hle
  have hs' : z_sk (τ 1) n (n - a) false = s := by rw [← x1]; exact hs
  have b17 : τ 0 17 = ((L + 1 : Nat) : Int) := by omega
  have hs20 : σ0 2 8 ≤ σ 2 8 := hF.2.2.2.2.2.1
  have R1 : z_RD (mj_up σ 3 4 ((s : Int) + 1)) (mj_up τ 0 4 ((s : Int) + 1)) := z_RD_at hR0 (by omega) (by omega)
  have F1 : z_F L σ0 τ0 (mj_up σ 3 4 ((s : Int) + 1)) (mj_up τ 0 4 ((s : Int) + 1)) := z_F_tr (Nat.le_refl _) hF (z_F_at (by omega))
  have b28 : mj_up σ 3 4 ((s : Int) + 1) 2 8 = σ 2 8 := mj_up_ne (by omega)
  have b11 : mj_up σ 3 4 ((s : Int) + 1) 11 = σ 11 := z_rq _ _ _ _ _ (by decide)
  have b12 : mj_up σ 3 4 ((s : Int) + 1) 12 = σ 12 := z_rq _ _ _ _ _ (by decide)
  have b1 : mj_up σ 3 4 ((s : Int) + 1) 1 2 = σ 1 2 := mj_up_ne (by omega)
  refine hv f _ (mj_up (mj_up τ 0 4 ((s : Int) + 1)) 0 17 (L : Int)) (z_F_m F1 (fun q k c => mj_up_ne (by omega))) (z_RD_co R1 (fun q k _ _ => mj_up_ne (by omega)) (mj_up_ne (by omega)) (mj_up_ne (by omega)) (mj_up_ne (by omega)) (mj_up_ne (by omega))) (by rw [mj_up_ne (by omega), mj_up_ne (by omega)]; exact h5) mj_up_eq (by rw [mj_up_eq]; omega) f0 ?_ ?_ (fun d' Q' h => gh d' Q' ?_)
  · rw [b1]
    intro z
    obtain ⟨y1, y2, y3, y4⟩ := hY
    rcases hcase with ⟨_, g, _⟩ | ⟨p, nn, sz, _, _, _, _, _, _, _, g, _⟩ <;> omega
  · rw [b28, b11, b12]
    rcases hcase with ⟨_, g, _, g2⟩ | ⟨p, nn, sz, g1, g2, g3, g4, g5, g6, g7, g8, g9, g10⟩
    · rw [g, g2, Int.sub_self]
      exact z_D_atom (by decide) (by decide)
    · rw [show (σ 2 8 - σ0 2 8).toNat = sz + 0 by omega]
      exact z_Sp_close (by omega) (by rw [g10]; exact z_D_atom (by decide) (by decide)) g9
  · refine rh (L := L + 1) h5 (by omega) (by omega) (b := a) (by omega) (by omega) (fun i => (x2' i).1) hs' rfl b17 (by omega) (fun c => absurd c (by omega)) (fun _ _ => ?_) (fun _ c => absurd (by rw [← x1]; exact cp) c) (fun _ _ c => absurd (by rw [← x1]; exact cp) c) (fun _ _ _ c => ?_) (fun _ _ c => ?_) (fun _ _ c => ?_) (fun _ _ c => absurd (by rw [← x1]; exact cp) c)
    · refine r_close (d := d' + 8) (L := L) (s := s) (by rw [mj_up_ne (by omega)]; exact h17) (by omega) mj_up_eq (by omega) (by rw [mj_up_ne (by omega), h9]; decide) (by rw [mj_up_ne (by omega), h12]; decide) (fun τ' e' => ⟨_, rfl, fun y => ?_⟩)
      rw [e', z_uu, mj_up_ne (by omega), h10]
      exact r_148 f0 (h y)
    · rw [← x1, cp] at c; exact absurd c (by decide)
    · rw [← x1, cp] at c; exact absurd c (by decide)
    · rw [← x1, cp] at c; exact absurd c (by decide)
set_option maxHeartbeats 1000000 in
theorem r_ldot {L : Nat} (hL12 : L ≤ 12) {σ0 τ0 : mj_S} {Q : mj_Q}
    (hx : ∀ (c : Int) (σ' τ' : mj_S), z_F L σ0 τ0 σ' τ' → z_X σ' τ' → z_Y σ' τ' → τ' 0 5 = c → ((c = 1 ∨ c = 11) ∧ z_pl τ') → z_gh τ0 τ' → Q (some (.inl (-c))) σ')
    {σ τ : mj_S} {f l : Int} (hF : z_F L σ0 τ0 σ τ) (hR : z_RD σ τ) (h5 : τ 0 5 = 0) (h17 : τ 0 17 = (L : Int) + 1) (h9 : τ 9 L = 0) (h12 : τ 12 L = 0) (h10 : τ 10 L = f) (hlt : σ0 3 4 < σ 3 4) (hcase : ((l = -1 ∧ f = 268435456 ∧ τ 11 L = 268435456 ∧ σ 2 8 = σ0 2 8) ∨
   ∃ p nn s : Nat, L ≤ 11 ∧ l = 536870912 + (p : Int) ∧ τ 11 L = l ∧ σ 2 8 = (p : Int) + 1 ∧ p < 400 ∧ (s : Int) + σ0 2 8 = (p : Int) + 1 ∧ σ0 2 8 ≤ p ∧ 536870912 ≤ f ∧ z_Sp (σ 11) (σ 12) 536870912 (σ0 2 8).toNat nn p (12 - L) s f ∧ σ 12 p = 268435456)) (gh : z_gh τ0 τ)
    {n a s : Nat} (hn : σ 3 3 = n) (ha : σ 3 4 = a) (hs : z_sk (σ 18) n (n - a) false = s)
    {σ1 : mj_S} (e1 : σ1 = mj_up σ 3 4 (s : Int)) (a33 : σ1 3 3 = n) (a34 : σ1 3 4 = s) (a18 : σ1 18 = σ 18) (aF : z_F L σ0 τ0 σ1 τ) (aX : z_X σ1 τ) (a28 : σ1 2 8 = σ 2 8) (aY : z_Y σ1 τ) (aS : z_So σ1 τ)
    (cl : l = -1) (d1 : s < n) (d2 : σ1 18 s = 46) (d3 : z_re (σ1 18) n (n - s) = s + 1) : Q (some (.inl (-1))) σ1 := by
  have hR0 := hR
  obtain ⟨hX, hY, hS, ⟨t1, t2, t3⟩⟩ := hR
  obtain ⟨x1, x2, x3, x4, x5⟩ := hX
  obtain ⟨s1, s2, s3, s4⟩ := hS
  have x2' : ∀ i, 0 ≤ τ 1 i ∧ τ 1 i ≤ 65535 := by rw [← x1]; exact x2
  have hle := z_sk_le (σ 18) n (n - a) false (by omega)
  rw [hs] at hle
  have hs' : z_sk (τ 1) n (n - a) false = s := by rw [← x1]; exact hs
  have b17 : τ 0 17 = ((L + 1 : Nat) : Int) := by omega
  have c11 : τ 11 L = 268435456 := by
    rcases hcase with ⟨_, _, g, _⟩ | ⟨p, nn, sz, g1, g2, _⟩
    · exact g
    · omega
  rw [a18] at d2 d3
  have R1 : z_RD (mj_up σ 3 4 (s : Int)) (mj_up τ 0 4 (s : Int)) := z_RD_at hR0 (by omega) (by omega)
  have q18 : mj_up σ 3 4 (s : Int) 18 = σ 18 := z_rq _ _ _ _ _ (by decide)
  have m1 : mj_up τ 0 4 ((s + 1 : Nat) : Int) 1 = τ 1 := z_rq _ _ _ _ _ (by decide)
  have m2 : mj_up τ 0 4 ((s + 1 : Nat) : Int) 0 2 = n := by rw [mj_up_ne (by omega)]; omega
  have hlk : ¬ z_lk (mj_up τ 0 4 ((s + 1 : Nat) : Int)) = 46 := by
    unfold z_lk
    rw [m2, mj_up_eq, m1, Int.toNat_natCast]
    by_cases c : ((s + 1 : Nat) : Int) < n
    · rw [if_pos c]
      have := z_re_at (σ 18) n (n - s) (by omega) (by rw [d3]; omega)
      rw [d3, x1] at this
      intro z
      rw [z] at this
      exact absurd this (by decide)
    · rw [if_neg c]; decide
  refine hx 1 σ1 (mj_up (mj_up τ 0 4 ((s + 1 : Nat) : Int)) 0 5 1) (z_F_m aF (fun q k c => by rw [mj_up_ne (by omega), mj_up_ne (by omega)])) ⟨?_, aX.2.1, ?_, aX.2.2.2.1, aX.2.2.2.2⟩ ⟨?_, aY.2.1, aY.2.2.1, fun i hi => ?_⟩ mj_up_eq ⟨Or.inl rfl, z_pl_1 (by omega) (by omega)⟩ (fun d' Q' h => gh d' Q' ?_)
  · funext i; rw [mj_up_ne (by omega), mj_up_ne (by omega), a18, x1]
  · rw [mj_up_ne (by omega), mj_up_ne (by omega)]; exact aX.2.2.1
  · rw [mj_up_ne (by omega), mj_up_ne (by omega)]; exact aY.1
  · obtain ⟨q1, q2, q3, q4⟩ := aY.2.2.2 i hi
    refine ⟨?_, q2, q3, fun k hk => ?_⟩
    · rw [mj_up_ne (by omega), mj_up_ne (by omega)]; exact q1
    · rw [mj_up_ne (by omega), mj_up_ne (by omega)]; exact q4 k hk
  · have tok : ∀ {dd : Nat} {Q2 : mj_Q}, Q2 (some (.inl (-1))) (mj_up τ 0 4 ((s + 1 : Nat) : Int)) → mj_B mjm_L mjm_Ms (dd + 4) 16 [.inr (.inl 0)] (mj_up τ 0 4 (s : Int)) Q2 := fun {dd Q2} q => by
      refine r_dot (n := n) (a := s) (e := s + 1) R1 (by rw [mj_up_ne (by omega)]; exact hn) mj_up_eq (by rw [q18]; exact d3) rfl (by rw [q18]; exact d2) ?_
      rw [z_uu]; exact q
    refine rh (L := L + 1) h5 (by omega) (by omega) (b := a) (by omega) (by omega) (fun i => (x2' i).1) hs' rfl b17 (by omega) (fun c => absurd c (by omega)) (fun _ c => ?_) (fun _ _ _ c => ?_) (fun _ _ _ _ c => ?_) (fun _ _ c13 _ => ?_) (fun _ _ c => ?_) (fun _ _ c => ?_) (fun _ _ _ _ _ _ => ?_)
    · rw [← x1, d2] at c; exact absurd c (by decide)
    · rw [Nat.add_sub_cancel, h12] at c; exact absurd c (by decide)
    · rw [← x1, d2] at c; exact absurd rfl c
    · have hL : L = 12 := by omega
      refine r_dot13 (d := d' + 8) (by rw [mj_up_eq]; omega) (by rw [mj_up_ne (by omega)]; omega) ?_ (tok (dd := d' + 5) ⟨_, rfl, ?_, ?_, _, rfl, fun y => ?_⟩)
      · unfold z_lk
        rw [mj_up_eq, mj_up_ne (by omega), z_rq _ _ _ _ 1 (by decide), Int.toNat_natCast, if_pos (by omega), ← x1]
        exact d2
      · rw [mj_up_ne (by omega)]; omega
      · refine Or.inr (Or.inl ?_)
        rw [mj_up_ne (by omega), ← hL]; exact c11
      · rw [z_sp0 (by rw [mj_up_ne (by omega)]; exact h5)]
        exact r_neg h y
    · rw [← x1, d2] at c; exact absurd c (by decide)
    · rw [← x1, d2] at c; exact absurd c (by decide)
    · refine tok (dd := d' + 6) ⟨_, rfl, fun y => qw_m20_148 (d := d' + 9) ⟨fun z => absurd rfl z, fun _ => r_dotx (d := d' + 8) (L := L + 1) (by rw [mj_up_ne (by omega)]; exact b17) (by omega) (by rw [mj_up_eq]; omega) (by rw [m2]; omega) (by rw [mj_up_ne (by omega)]; exact h5) hlk (Or.inr (Or.inr (Or.inl ?_))) ⟨_, rfl, qw_m20_158 (d := d' + 9) ⟨fun _ => h, fun z => absurd z (by decide)⟩⟩⟩⟩
      rw [Nat.add_sub_cancel, mj_up_ne (by omega)]; exact c11
set_option maxHeartbeats 2000000 in
theorem r_lmem {L : Nat} (hL12 : L ≤ 12) {K0 : Nat} (ih : z_DAd (L + 1) (K0 + 4)) {σ0 τ0 : mj_S} {Q : mj_Q}
    (hx : ∀ (c : Int) (σ' τ' : mj_S), z_F L σ0 τ0 σ' τ' → z_X σ' τ' → z_Y σ' τ' → τ' 0 5 = c → ((c = 1 ∨ c = 11) ∧ z_pl τ') → z_gh τ0 τ' → Q (some (.inl (-c))) σ')
    {σ τ : mj_S} {f l : Int} (hF : z_F L σ0 τ0 σ τ) (hR : z_RD σ τ) (h5 : τ 0 5 = 0) (h17 : τ 0 17 = (L : Int) + 1) (h9 : τ 9 L = 0) (h12 : τ 12 L = 0) (h10 : τ 10 L = f) (hlt : σ0 3 4 < σ 3 4) (hcase : ((l = -1 ∧ f = 268435456 ∧ τ 11 L = 268435456 ∧ σ 2 8 = σ0 2 8) ∨
   ∃ p nn s : Nat, L ≤ 11 ∧ l = 536870912 + (p : Int) ∧ τ 11 L = l ∧ σ 2 8 = (p : Int) + 1 ∧ p < 400 ∧ (s : Int) + σ0 2 8 = (p : Int) + 1 ∧ σ0 2 8 ≤ p ∧ 536870912 ≤ f ∧ z_Sp (σ 11) (σ 12) 536870912 (σ0 2 8).toNat nn p (12 - L) s f ∧ σ 12 p = 268435456)) (gh : z_gh τ0 τ)
    {n a s : Nat} (hn : σ 3 3 = n) (ha : σ 3 4 = a) (hs : z_sk (σ 18) n (n - a) false = s) {m : Nat} (hm : (m : Int) ≤ σ 3 4)
    {σ1 : mj_S} (e1 : σ1 = mj_up σ 3 4 (s : Int)) (a33 : σ1 3 3 = n) (a34 : σ1 3 4 = s) (a18 : σ1 18 = σ 18) (aF : z_F L σ0 τ0 σ1 τ) (aX : z_X σ1 τ) (a28 : σ1 2 8 = σ 2 8) (aY : z_Y σ1 τ) (aS : z_So σ1 τ)
    (hnd : s < n → ¬ σ 18 s = 41 ∧ ¬ (σ 18 s = 46 ∧ z_re (σ 18) n (n - s) = s + 1))
    (hnext : ∀ (σ6 τ5 : mj_S) (f' l' : Int), z_LI L σ0 τ0 σ6 τ5 f' l' (m + 1) → z_gh τ0 τ5 → σ6 3 3 = n → σ 3 4 < σ6 3 4 → qh_c40_8 (K0 + 5) Q ((L + 1 : Nat) : Int) f' l' ((m + 1 : Nat) : Int) σ6) :
    mj_B mjc_L mjc_Ms (K0 + 5) 41 [.inr (.inl 3), .inl ((L + 1 : Nat) : Int)] σ1 (fun r σ4 => ∃ v5, r = some (.inl v5) ∧ (0 ≤ v5 → (¬ l = (-1) → z_dr l ∧ σ4 2 8 ≤ 400 ∧ ∀ σ6, σ6 = z_ew σ4 l v5 → mj_r ((m : Int) + 1) ∧ qh_c40_8 (K0 + 5) Q ((L + 1 : Nat) : Int) f v5 ((m : Int) + 1) σ6) ∧ (l = (-1) → z_dr l ∧ σ4 2 8 ≤ 400 ∧ ∀ σ7, σ7 = z_ew σ4 l v5 → mj_r ((m : Int) + 1) ∧ qh_c40_8 (K0 + 5) Q ((L + 1 : Nat) : Int) v5 v5 ((m : Int) + 1) σ7)) ∧ (v5 < 0 → Q (some (.inl v5)) σ4)) := by
  have hR0 := hR
  obtain ⟨hX, hY, hS, ⟨t1, t2, t3⟩⟩ := hR
  obtain ⟨x1, x2, x3, x4, x5⟩ := hX
  obtain ⟨s1, s2, s3, s4⟩ := hS
  have x2' : ∀ i, 0 ≤ τ 1 i ∧ τ 1 i ≤ 65535 := by rw [← x1]; exact x2
  have hle := z_sk_le (σ 18) n (n - a) false (by omega)
  rw [hs] at hle
  have hs' : z_sk (τ 1) n (n - a) false = s := by rw [← x1]; exact hs
  have b17 : τ 0 17 = ((L + 1 : Nat) : Int) := by omega
  have hid := z_sk_id (σ 18) n (n - a) false (by omega)
  rw [hs] at hid
  have hs20 : σ0 2 8 ≤ σ 2 8 := hF.2.2.2.2.2.1
  rw [show ((m : Int) + 1) = ((m + 1 : Nat) : Int) by omega]
  refine wq_c41 (d := K0 + 3) (ih σ1 τ _ n s aX aY aS a33 ⟨s, a34, by omega, by rw [a18]; exact hid⟩ ⟨a, by omega, by omega, by rw [a18]; exact hs⟩ h5 b17 (fun _ => by rw [Nat.add_sub_cancel, h12]; decide) (Or.inr (Or.inr (Or.inr (by rw [a18]; exact hnd)))) (fun c13 => ?_) (fun v σ' τ' f0' f1 f2 f3 f4 f5 f6 f7 f8 f9 => ?_) (fun c σ' τ' f1 f2 f3 f4 f5 f6 => ?_))
  · rcases hcase with ⟨_, _, g, _⟩ | ⟨p, nn, sz, g1, _⟩
    · refine Or.inr (Or.inl ?_)
      rw [show 12 = L by omega]; exact g
    · omega
  · have g28 := f1.2.2.2.2.2.1
    have g34 := f1.2.2.2.2.2.2
    have g12 := f1.2.2.2.2.1
    have f2c := f2
    obtain ⟨r1, r2, r3, ⟨r4, r5, r6⟩⟩ := f2c
    obtain ⟨u1, u2, u3, u4⟩ := r3
    obtain ⟨p, hp⟩ : ∃ p : Nat, σ' 2 8 = p := ⟨(σ' 2 8).toNat, by omega⟩
    have F2 : z_F L σ0 τ0 σ' τ' := z_F_tr (by omega) aF f1
    have k9 : τ' 9 L = 0 := by rw [(f1.2.2.2.1 L (by omega)).1]; exact h9
    have k10 : τ' 10 L = f := by rw [(f1.2.2.2.1 L (by omega)).2.1]; exact h10
    have k11 : τ' 11 L = τ 11 L := (f1.2.2.2.1 L (by omega)).2.2.1
    have k12 : τ' 12 L = 0 := by rw [(f1.2.2.2.1 L (by omega)).2.2.2]; exact h12
    have k17 : τ' 0 17 = (L : Int) + 1 := by rw [f4]; omega
    rw [hp]
    refine ⟨_, rfl, fun _ => ⟨by omega, fun σ3 e3 => ?_⟩, fun z => absurd z (by omega)⟩
    -- what the reference does with it
    have tk : ∀ {dd : Nat} {Q2 : mj_Q}, mj_B mjm_L mjm_Ms (dd + 10) 23 [.inr (.inl 0), .inl v] τ' (fun r τ2 => ∃ v2, r = some (.inl v2) ∧ ∀ y, qh_m20_158 (dd + 10) Q2 y v2 τ2) → qh_m20_5 (dd + 10) Q2 τ0 := fun {dd Q2} q => by
      refine gh dd Q2 (f9 dd Q2 (fun y => qw_m20_158 (d := dd + 9) ⟨fun z => absurd z (by omega), fun _ => ⟨fun z => absurd f3 z, fun _ => ⟨fun _ => mj_B_mono _ _ _ _ _ _ (fun r τ2 ⟨v2, q1, q2⟩ => ⟨v2, q1, q2 y⟩) q, fun z => absurd z (by omega)⟩⟩⟩))
    by_cases hp4 : p = 400
    · have e3' : σ3 = σ' := by rw [e3]; unfold z_sto; rw [if_neg (by omega)]
      rw [if_neg (by omega), e3']
      refine ⟨_, rfl, fun z => absurd z (by decide), fun _ => ?_⟩
      obtain ⟨X2, Y2, _⟩ := z_XY_er (e := 11) r1 r2 ⟨u1, u2, u3, u4⟩
      refine hx 11 σ' (mj_up τ' 0 5 11) (z_F_tr (Nat.le_refl _) F2 z_F_er) X2 Y2 mj_up_eq ⟨Or.inr rfl, z_pl_fr (z_pl_R f2) (mj_up_ne (by omega)) (mj_up_ne (by omega))⟩ (fun d' Q' h => tk (r_takem (d := d' + 7) (L := L) (p := p) k17 (by omega) f3 k9 k12 (by omega) (by omega) (fun _ => ⟨_, rfl, fun y => r_er (by rw [mj_up_eq]; decide) h y⟩) (fun z => absurd z (by omega)) (fun z => absurd z (by omega))))
    · have hp5 : p < 400 := by omega
      have e3' : σ3 = z_s1 σ' p v 268435456 := by rw [e3]; exact z_sto_1 hp hp5
      have hL11 : L ≤ 11 := by omega
      have R3 : z_RD (z_s1 σ' p v 268435456) (z_s2 τ' p v 268435456) := z_RD_s f2 hp hp5 f7 (fun _ => by have := r2.2.1; omega)
      have F3 : z_F L σ0 τ0 (z_s1 σ' p v 268435456) (z_s2 τ' p v 268435456) := z_F_tr (Nat.le_refl _) F2 (z_F_s hp hp5)
      have w28 : z_s1 σ' p v 268435456 2 8 = (p : Int) + 1 := z_s1_v.2.2
      have w34 : z_s1 σ' p v 268435456 3 4 = σ' 3 4 := z_s1_o (by omega)
      have w33 : z_s1 σ' p v 268435456 3 3 = σ' 3 3 := z_s1_o (by omega)
      have g33 : σ' 3 3 = n := by rw [f1.1 3 3 (by omega)]; exact a33
      have sv : z_D (z_s1 σ' p v 268435456 11) (z_s1 σ' p v 268435456 12) 536870912 (σ1 2 8).toNat p (12 - (L + 1)) (σ' 2 8 - σ1 2 8).toNat (z_s1 σ' p v 268435456 11 p) := by
        rw [z_s1_v.1]
        refine z_D_frame (A := σ' 11) (B := σ' 12) (fun i _ hi _ => ⟨z_s1_o (by omega), z_s1_o (by omega)⟩) ?_
        rw [hp, Int.toNat_natCast] at f8
        rw [hp]; exact f8
      have kk : 12 - L = 12 - (L + 1) + 1 := by omega
      rw [if_pos (by omega), e3']
      refine ⟨_, rfl, fun _ => ⟨fun cl => ?_, fun cl => ?_⟩, fun z => absurd z (by omega)⟩
      · rcases hcase with ⟨g, _⟩ | ⟨q, nn, sz, g1, g2, g3, g4, g5, g6, g7, g8, g9, g10⟩
        · exact absurd g cl
        have hq : q < p := by omega
        refine ⟨by omega, by omega, fun σ6 e6 => ⟨by unfold mj_r; omega, ?_⟩⟩
        have e6' : σ6 = mj_up (z_s1 σ' p v 268435456) 12 q (536870912 + (p : Int)) := by
          rw [e6]; unfold z_ew; rw [if_pos (by rw [w28]; omega), g2, show (536870912 + (q : Int) - 536870912).toNat = q by omega]
        have := hnext σ6 (mj_up (mj_up (z_s2 τ' p v 268435456) 5 q (536870912 + (p : Int))) 11 L (536870912 + (p : Int))) f (536870912 + (p : Int)) ?_ (fun d' Q' h => tk (r_takem (d := d' + 7) (L := L) (p := p) k17 (by omega) f3 k9 k12 (by omega) (by omega) (fun z => absurd z (by omega)) (fun _ z => absurd (k11.symm.trans z) (by rw [g3, g2]; omega)) (fun _ _ => ⟨q, by rw [k11, g3, g2], by omega, _, rfl, fun y => qw_m20_158 (d := d' + 9) ⟨fun _ => h, fun z => absurd z (by decide)⟩⟩))) (by rw [e6', mj_up_ne (by omega), w33, g33]) (by rw [e6', mj_up_ne (by omega), w34]; omega)
        · exact this
        rw [e6']
        refine ⟨z_F_m (z_F_ew F3 g7 (by omega)) (fun x y c => mj_up_ne (by omega)), z_RD_co (z_RD_ew R3 (fun z => absurd z (by omega))) (fun x y _ _ => mj_up_ne (by omega)) (mj_up_ne (by omega)) (mj_up_ne (by omega)) (mj_up_ne (by omega)) (mj_up_ne (by omega)), ?_, ?_, ?_, ?_, ?_, ?_, ?_, Or.inr ⟨p, nn + 1, sz + ((σ' 2 8 - σ1 2 8).toNat + 1), hL11, rfl, mj_up_eq, ?_, hp5, by omega, by omega, g8, ?_, ?_⟩⟩
        · rw [mj_up_ne (by omega), mj_up_ne (by omega), z_s2_o (by omega)]; exact f3
        · rw [mj_up_ne (by omega), mj_up_ne (by omega), z_s2_o (by omega)]; exact k17
        · rw [mj_up_ne (by omega), mj_up_ne (by omega), z_s2_o (by omega)]; exact k9
        · rw [mj_up_ne (by omega), mj_up_ne (by omega), z_s2_o (by omega)]; exact k12
        · rw [mj_up_ne (by omega), mj_up_ne (by omega), z_s2_o (by omega)]; exact k10
        · rw [mj_up_ne (by omega), w34]; omega
        · rw [mj_up_ne (by omega), w34]; omega
        · rw [mj_up_ne (by omega), w28]
        · have b11 : mj_up (z_s1 σ' p v 268435456) 12 q (536870912 + (p : Int)) 11 = z_s1 σ' p v 268435456 11 := z_rq _ _ _ _ _ (by decide)
          rw [b11]
          have fr : z_Sp (z_s1 σ' p v 268435456 11) (mj_up (z_s1 σ' p v 268435456) 12 q (536870912 + (p : Int)) 12) 536870912 (σ0 2 8).toNat nn q (12 - L) sz f := by
            refine z_Sp_frame (A := σ 11) (B := σ 12) (fun i _ hi _ => ?_) (fun i _ hi _ => ?_) g9
            · rw [z_s1_o (by omega), (f1.2.2.1 i (by omega)).1, e1, mj_up_ne (by omega)]
            · rw [mj_up_ne (by omega), z_s1_o (by omega), (f1.2.2.1 i (by omega)).2.1, e1, mj_up_ne (by omega)]
          rw [kk] at fr ⊢
          refine z_Sp_ext (by omega) hp5 ?_ hq mj_up_eq fr
          exact z_D_mono (Int.le_refl _) (by omega) (Nat.le_refl _) (Nat.le_refl _) (z_D_frame (fun i hi0 hi _ => ⟨rfl, mj_up_ne (by omega)⟩) sv)
        · rw [mj_up_ne (by omega)]; exact z_s1_v.2.1
      · obtain ⟨g, g1, g2, g3⟩ : l = -1 ∧ f = 268435456 ∧ τ 11 L = 268435456 ∧ σ 2 8 = σ0 2 8 := by
          rcases hcase with z | ⟨q, nn, sz, g1, g2, _⟩
          · exact z
          · omega
        refine ⟨by omega, by omega, fun σ7 e7 => ⟨by unfold mj_r; omega, ?_⟩⟩
        have e7' : σ7 = z_s1 σ' p v 268435456 := by
          rw [e7]; unfold z_ew; rw [if_neg (by omega)]
        have := hnext σ7 (mj_up (mj_up (z_s2 τ' p v 268435456) 10 L (536870912 + (p : Int))) 11 L (536870912 + (p : Int))) (536870912 + (p : Int)) (536870912 + (p : Int)) ?_ (fun d' Q' h => tk (r_takem (d := d' + 7) (L := L) (p := p) k17 (by omega) f3 k9 k12 (by omega) (by omega) (fun z => absurd z (by omega)) (fun _ _ => ⟨_, rfl, fun y => qw_m20_158 (d := d' + 9) ⟨fun _ => h, fun z => absurd z (by decide)⟩⟩) (fun _ z => absurd (k11.trans g2) z))) (by rw [e7', w33, g33]) (by rw [e7', w34]; omega)
        · exact this
        rw [e7']
        refine ⟨z_F_m F3 (fun x y c => by rw [mj_up_ne (by omega), mj_up_ne (by omega)]), z_RD_co R3 (fun x y _ _ => by rw [mj_up_ne (by omega), mj_up_ne (by omega)]) (by rw [mj_up_ne (by omega), mj_up_ne (by omega)]) (by rw [mj_up_ne (by omega), mj_up_ne (by omega)]) (by rw [mj_up_ne (by omega), mj_up_ne (by omega)]) (by rw [mj_up_ne (by omega), mj_up_ne (by omega)]), ?_, ?_, ?_, ?_, ?_, ?_, ?_, Or.inr ⟨p, 1, (σ' 2 8 - σ1 2 8).toNat + 1, hL11, rfl, mj_up_eq, w28, hp5, by omega, by omega, by omega, ?_, z_s1_v.2.1⟩⟩
        · rw [mj_up_ne (by omega), mj_up_ne (by omega), z_s2_o (by omega)]; exact f3
        · rw [mj_up_ne (by omega), mj_up_ne (by omega), z_s2_o (by omega)]; exact k17
        · rw [mj_up_ne (by omega), mj_up_ne (by omega), z_s2_o (by omega)]; exact k9
        · rw [mj_up_ne (by omega), mj_up_ne (by omega), z_s2_o (by omega)]; exact k12
        · rw [mj_up_ne (by omega), mj_up_eq]
        · rw [w34]; omega
        · rw [w34]; omega
        · rw [kk]
          exact z_Sp_one (by omega) hp5 (by rw [a28, g3] at sv; rw [a28, g3]; exact sv)
  · exact ⟨_, rfl, fun z => absurd z (by omega), fun _ => ⟨_, rfl, fun z => absurd z (by omega), fun _ => hx c σ' τ' (z_F_tr (by omega) aF f1) f2 f3 f4 f5 (fun d' Q' h => gh d' Q' (f6 d' Q' h))⟩⟩
set_option maxHeartbeats 4000000 in
theorem r_list {L : Nat} (hL12 : L ≤ 12) {K0 : Nat} (ih : z_DAd (L + 1) (K0 + 4))
    {σ0 τ0 : mj_S} {Q : mj_Q}
    (hv : ∀ (v : Int) (σ' τ' : mj_S), z_F L σ0 τ0 σ' τ' → z_RD σ' τ' → τ' 0 5 = 0 → τ' 0 17 = L → σ0 3 4 < σ' 3 4 → 0 ≤ v → (v < 536870912 → v < 268435456 + σ' 1 2) → z_D (σ' 11) (σ' 12) 536870912 (σ0 2 8).toNat (σ' 2 8).toNat (12 - L) (σ' 2 8 - σ0 2 8).toNat v → z_gv τ0 τ' v → Q (some (.inl v)) σ')
    (hx : ∀ (c : Int) (σ' τ' : mj_S), z_F L σ0 τ0 σ' τ' → z_X σ' τ' → z_Y σ' τ' → τ' 0 5 = c → ((c = 1 ∨ c = 11) ∧ z_pl τ') → z_gh τ0 τ' → Q (some (.inl (-c))) σ') :
    ∀ (N : Nat) (σ τ : mj_S) (f l : Int) (m : Nat), z_LI L σ0 τ0 σ τ f l m → z_gh τ0 τ → (σ 3 3 - σ 3 4).toNat = N → qh_c40_8 (K0 + 5) Q ((L + 1 : Nat) : Int) f l (m : Int) σ := by
  intro N
  induction N using Nat.strongRecOn with
  | ind N ihN =>
    intro σ τ f l m hI gh hN
    obtain ⟨hF, hR, h5, h17, h9, h12, h10, hlt, hm, hcase⟩ := hI
    have hR0 := hR
    obtain ⟨hX, hY, hS, ⟨t1, t2, t3⟩⟩ := hR
    have hX0 := hX
    have hS0 := hS
    obtain ⟨x1, x2, x3, x4, x5⟩ := hX
    obtain ⟨s1, s2, s3, s4⟩ := hS
    have x2' : ∀ i, 0 ≤ τ 1 i ∧ τ 1 i ≤ 65535 := by rw [← x1]; exact x2
    obtain ⟨n, hn⟩ : ∃ n : Nat, σ 3 3 = n := ⟨(σ 3 3).toNat, by omega⟩
    obtain ⟨a, ha⟩ : ∃ a : Nat, σ 3 4 = a := ⟨(σ 3 4).toNat, by omega⟩
    have hle := z_sk_le (σ 18) n (n - a) false (by omega)
    have hid := z_sk_id (σ 18) n (n - a) false (by omega)
    generalize hs : z_sk (σ 18) n (n - a) false = s at hle hid
    have hs' : z_sk (τ 1) n (n - a) false = s := by rw [← x1]; exact hs
    have f0 : 0 ≤ f := by
      rcases hcase with ⟨_, g, _⟩ | ⟨p, nn, sz, _, _, _, _, _, _, _, g, _⟩ <;> omega
    have hs20 : σ0 2 8 ≤ σ 2 8 := hF.2.2.2.2.2.1
    refine qw_c40_8 (d := K0 + 4) ⟨fun c => absurd c (by omega), fun _ => t_c48 (d := K0 + 4) hn (by omega) ha (by omega) (fun σ1 e1 => ?_)⟩
    rw [hs] at e1
    have a33 : σ1 3 3 = n := by rw [e1, mj_up_ne (by omega)]; exact hn
    have a34 : σ1 3 4 = s := by rw [e1, mj_up_eq]
    have a18 : σ1 18 = σ 18 := by rw [e1]; exact z_rq _ _ _ _ _ (by decide)
    have aF : z_F L σ0 τ0 σ1 τ := z_F_tr (Nat.le_refl _) hF ⟨fun q k c => by rw [e1, mj_up_ne (by omega)], fun _ _ _ => rfl, fun i _ => ⟨by rw [e1, mj_up_ne (by omega)], by rw [e1, mj_up_ne (by omega)], rfl, rfl⟩, fun _ _ => ⟨rfl, rfl, rfl, rfl⟩, by rw [e1, mj_up_ne (by omega)]; exact Int.le_refl _, by rw [e1, mj_up_ne (by omega)]; exact Int.le_refl _, by rw [e1, mj_up_eq]; omega⟩
    have aX : z_X σ1 τ := ⟨by rw [a18]; exact x1, by rw [a18]; exact x2, by rw [a33]; omega, by rw [a33]; omega, by rw [a33]; omega⟩
    have a28 : σ1 2 8 = σ 2 8 := by rw [e1, mj_up_ne (by omega)]
    have a12 : σ1 1 2 = σ 1 2 := by rw [e1, mj_up_ne (by omega)]
    have aY : z_Y σ1 τ := by
      obtain ⟨y1, y2, y3, y4⟩ := hY
      refine ⟨by rw [a12]; exact y1, by rw [a12]; exact y2, by rw [a12]; exact y3, fun i hi => ?_⟩
      rw [a12] at hi
      rw [e1, mj_up_ne (by omega)]
      obtain ⟨q1, q2, q3, q4⟩ := y4 i hi
      refine ⟨q1, q2, q3, fun k hk => ?_⟩
      rw [mj_up_ne (by omega)]
      exact q4 k hk
    have aS : z_So σ1 τ := by
      refine ⟨by rw [a28]; exact s1, by rw [a28]; exact s2, by rw [a28]; exact s3, fun i hi => ?_⟩
      rw [a28] at hi
      rw [a12, e1, mj_up_ne (by omega), mj_up_ne (by omega)]
      exact s4 i hi
    rw [a33, a34, a18, Int.toNat_natCast]
    have b17 : τ 0 17 = ((L + 1 : Nat) : Int) := by omega
    refine ⟨rfl, by omega, by omega, fun cnp => ?_, fun cp => ⟨by unfold mj_r; omega, fun σ10 e10 => ?_⟩⟩
    · refine t_c50 (d := K0 + 2) a33 (by omega) a34 (by omega) (fun d1 d2 d3 => ⟨1, rfl, fun z => absurd z (by decide), fun _ => ⟨fun cl => ?_, fun cl => ?_⟩⟩) (fun nd => ⟨0, rfl, fun _ => ?_, fun z => absurd rfl z⟩)
      · -- a dot behind a member
        rcases hcase with ⟨g, _⟩ | ⟨p, nn, sz, g1, g2, g3, g4, g5, g6, g7, g8, g9, g10⟩
        · exact absurd g cl
        · rw [a18] at d2 d3
          rw [e1]
          exact r_dotd ih hv hx hF hR0 h5 h17 h9 h12 h10 hlt g1 g2 g3 g4 g5 g6 g7 g8 g9 gh hn ha hs d1 d2 d3
      · -- a dot behind nothing
        exact r_ldot hL12 hx hF hR0 h5 h17 h9 h12 h10 hlt hcase gh hn ha hs e1 a33 a34 a18 aF aX a28 aY aS cl d1 d2 d3
      · -- a member
        refine r_lmem hL12 ih hx hF hR0 h5 h17 h9 h12 h10 hlt hcase gh hn ha hs hm e1 a33 a34 a18 aF aX a28 aY aS (fun z => ⟨fun z2 => cnp ⟨by omega, z2⟩, fun z2 => nd (by rw [a18]; exact ⟨z, z2.1, z2.2⟩)⟩) (fun σ6 τ5 f' l' g1 g2 g3 g4 => ?_)
        have g5 := g1.2.1.2.2.2.2.2
        have hdec : (σ6 3 3 - σ6 3 4).toNat < N := by
          clear hcase g1
          omega
        exact ihN ((σ6 3 3 - σ6 3 4).toNat) hdec σ6 τ5 f' l' (m + 1) g1 g2 rfl
    · -- the list's end
      have e10' : σ10 = mj_up σ 3 4 ((s : Int) + 1) := by rw [e10, e1, z_uu]
      rw [e10']
      exact r_lend hL12 hv hF hR0 h5 h17 h9 h12 h10 hlt hcase gh hn ha hs f0 (by omega) cp.2
