/-! all forms of a run -/
theorem z_R_mo {C C' : Int} {lv : Prop} {σ τ : mj_S} (h : z_R C lv σ τ) (hC : C ≤ C') : z_R C' lv σ τ := by
  obtain ⟨r1, r2, r3, r4, r5, r6, r7, r8, r9, r10, r11, r12⟩ := h
  exact ⟨r1, r2, r3, r4, r5, r6, r7, r8, r9, r10, r11, by omega⟩
theorem z_R_lv {C : Int} {lv lv' : Prop} {σ τ : mj_S} (h : z_R C lv σ τ) (hl : lv' → lv) : z_R C lv' σ τ := by
  obtain ⟨r1, r2, r3, r4, r5, r6, r7, r8, r9, r10, r11, r12⟩ := h
  obtain ⟨S, fuel, u1, u2, u3, u4, u5⟩ := r9
  exact ⟨r1, r2, r3, r4, r5, r6, r7, r8, ⟨S, fuel, u1, u2, fun z => u3 (hl z), u4, u5⟩, r10, r11, r12⟩
set_option maxHeartbeats 2000000 in
theorem t_forms {C : Int} {N : Nat} {d : Nat} {Q : mj_Q} {y : Int} {GO : Nat → mj_Q → Prop} (hN : N ≤ 300) (hC : C ≤ 1300000000)
    (hend : ∀ (e : Int) (lv : Prop) (σ' τ' : mj_S), z_R (C + 6000) lv σ' τ' → τ' 0 5 = e → τ' 0 1 = 0 → 0 ≤ e → e ≤ 11 → (e = 0 → τ' 0 2 ≤ τ' 0 4) → (∀ (d' : Nat) (R : mj_Q), qh_m59_68 (d' + 51) R y τ' → GO d' R) → Q (some (.inl e)) σ') :
    ∀ (kk n : Nat), n + kk = 300 → ∀ (σ τ : mj_S) (a : Nat), z_R (C + 20 * (n : Int)) True σ τ → σ 0 8 = n → τ 0 5 = 0 → τ 0 1 = 0 → σ 3 3 = N → σ 3 4 = a → n ≤ a → a ≤ N → τ 0 4 = (z_sk (σ 18) N (N - a) false : Nat) → (∀ (d' : Nat) (R : mj_Q), qh_m59_68 (d' + 51) R y τ → GO d' R) → qh_c5_2 (d + 50) Q (n : Int) σ := by
  intro kk
  induction kk with
  | zero =>
    intro n hn σ τ a R h08 h5 h01 h33 h34 hna haN h04 gs
    have ea : a = N := by omega
    subst ea
    have x3 := R.1.2.2.1
    refine qw_c5_2 (d := d + 49) ⟨fun _ => hend 0 True σ τ (z_R_mo R (by omega)) h5 h01 (by decide) (by decide) (fun _ => ?_) gs, fun z => absurd z (by omega)⟩
    rw [h04, Nat.sub_self]
    show τ 0 2 ≤ ((a : Nat) : Int)
    omega
  | succ kk ih =>
    intro n hn σ τ a R h08 h5 h01 h33 h34 hna haN h04 gs
    have x3 := R.1.2.2.1
    have hsk := z_sk_le (σ 18) N (N - a) false (by omega)
    refine qw_c5_2 (d := d + 49) ⟨fun z => absurd z (by omega), fun _ => wq_c37 (d := d + 49) (t_c48 (d := d + 48) (n := N) (a := a) h33 hN h34 haN (fun σs es => ?_))⟩
    generalize hsd : z_sk (σ 18) N (N - a) false = sk at hsk h04 es
    have os : ∀ q k, ¬ (q = 3 ∧ k = 4) → σs q k = σ q k := fun q k z => by rw [es, mj_up_ne z]
    have s34 : σs 3 4 = sk := by rw [es, mj_up_eq]
    have s33 : σs 3 3 = N := by rw [os 3 3 (by omega)]; exact h33
    have Rs : z_R (C + 20 * (n : Int)) True σs τ := z_R_fr R os (fun _ _ _ => rfl)
    refine ⟨rfl, fun z => ⟨0, rfl, fun _ => hend 0 True σs τ (z_R_mo Rs (by omega)) h5 h01 (by decide) (by decide) (fun _ => by omega) gs, fun z => absurd rfl z⟩, fun z => ⟨1, rfl, fun z => absurd z (by decide), fun _ => ?_⟩⟩
    have RDs : z_RD σs τ := ⟨Rs.1, Rs.2.1, Rs.2.2.1, by rw [s34, h04], by omega, by omega⟩
    have s08 : σs 0 8 = n := by rw [os 0 8 (by omega)]; exact h08
    have hlt : sk < N := by omega
    -- what the reference does after a form
    have more : ∀ (d' : Nat) (R2 : mj_Q) (τ9 : mj_S) (b : Nat), τ9 0 2 = N → τ9 0 4 = b → b ≤ N → (∀ i, 0 ≤ τ9 1 i) → (∀ (d' : Nat) (R : mj_Q), R none τ9 → mj_B mjm_L mjm_Ms (d' + 51) 60 [.inr (.inl 0)] τ R) → qh_m59_68 (d' + 51) R2 y (mj_up τ9 0 4 (z_sk (τ9 1) N (N - b) false : Nat)) → GO d' R2 := by
      intro d' R2 τ9 b b1 b2 b3 b4 m60 h
      refine gs d' R2 (qw_m59_68 (d := d' + 50) ⟨fun z => absurd h5 z, fun _ => ⟨fun z => absurd z (by omega), fun _ => m60 d' _ ⟨rfl, t_m12 (d := d' + 49) (n := N) (a := b) b1 hN b2 b3 b4 (fun τ' e' => ⟨rfl, ?_⟩)⟩⟩⟩)
      rw [e']
      exact h
    have goE : ∀ (e : Int) (lv : Prop) (σ9 τ9 : mj_S), z_R (C + 20 * (n : Int) + 20) lv σ9 τ9 → τ9 0 5 = e → τ9 0 1 = 0 → 1 ≤ e → e ≤ 11 → z_pl τ9 → σ9 3 3 = N → (∀ (d' : Nat) (R : mj_Q), R none τ9 → mj_B mjm_L mjm_Ms (d' + 51) 60 [.inr (.inl 0)] τ R) → Q (some (.inl e)) σ9 := by
      intro e lv σ9 τ9 R9 e5 e01 e1 e2 pl t33 m60
      have x9 := R9.1
      obtain ⟨b, hb⟩ : ∃ b : Nat, τ9 0 4 = b := ⟨(τ9 0 4).toNat, by omega⟩
      have x93 := x9.2.2.1
      refine hend e lv σ9 (mj_up τ9 0 4 (z_sk (τ9 1) N (N - b) false : Nat)) (z_R_mo (z_R_fr R9 (fun _ _ _ => rfl) (fun q k z => mj_up_ne (by omega))) (by omega)) (by rw [mj_up_ne (by omega)]; exact e5) (by rw [mj_up_ne (by omega)]; exact e01) (by omega) e2 (fun z => absurd z (by omega)) (fun d' R2 h => more d' R2 τ9 b (by omega) hb (by omega) (fun i => ?_) m60 h)
      rw [← x9.1]
      exact (x9.2.1 i).1
    have goN : ∀ (σ9 τ9 : mj_S) (a' : Nat), z_R (C + 20 * (n : Int) + 20) True σ9 τ9 → σ9 0 8 = (n : Int) + 1 → τ9 0 5 = 0 → τ9 0 1 = 0 → σ9 3 3 = N → σ9 3 4 = a' → sk < a' → a' ≤ N → τ9 0 4 = a' → (∀ (d' : Nat) (R : mj_Q), R none τ9 → mj_B mjm_L mjm_Ms (d' + 51) 60 [.inr (.inl 0)] τ R) → mj_r ((n : Int) + 1) ∧ qh_c5_2 (d + 50) Q ((n : Int) + 1) σ9 := by
      intro σ9 τ9 a' R9 e08 e5 e01 e33 e34 g1 g2 e04 m60
      have x9 := R9.1
      have x93 := x9.2.2.1
      refine ⟨by unfold mj_r; omega, ?_⟩
      rw [show (n : Int) + 1 = ((n + 1 : Nat) : Int) by omega]
      refine ih (n + 1) (by omega) σ9 (mj_up τ9 0 4 (z_sk (τ9 1) N (N - a') false : Nat)) a' (z_R_mo (z_R_fr R9 (fun _ _ _ => rfl) (fun q k z => mj_up_ne (by omega))) (by omega)) (by rw [e08]; omega) (by rw [mj_up_ne (by omega)]; exact e5) (by rw [mj_up_ne (by omega)]; exact e01) e33 e34 (by omega) g2 (by rw [mj_up_eq, x9.1]) (fun d' R2 h => more d' R2 τ9 a' (by omega) e04 g2 (fun i => ?_) m60 h)
      rw [← x9.1]
      exact (x9.2.1 i).1
    refine r_next (d := d) RDs h5 ?_ ?_
    · intro v σ3 τ3 F RD h53 hpos v0 vs vD ref20
      have E : z_RE (C + 20 * (n : Int)) σs τ σ3 τ3 v := ⟨Rs, F, RD, h53, v0, vs, vD, by omega, by rw [s08]; omega⟩
      refine ⟨v, rfl, fun _ => ?_, fun z => absurd z (by omega)⟩
      obtain ⟨a', ha'⟩ : ∃ a' : Nat, σ3 3 4 = a' := ⟨(σ3 3 4).toNat, by have := RD.2.2.2.2.1; omega⟩
      have f33 : σ3 3 3 = N := by rw [F.1 3 3 (by omega)]; exact s33
      have ha2 : sk < a' := by omega
      have ha3 : a' ≤ N := by have := RD.2.2.2.2.2; omega
      have t304 : τ3 0 4 = a' := by rw [← RD.2.2.2.1]; exact ha'
      have x33 := RD.1.2.2.1
      -- the reference after reading
      generalize hτ4 : mj_up (mj_up τ3 0 33 0) 0 36 0 = τ4
      have m60 : ∀ (y4 : Int), (y4 = 1 ∧ z_cd (σ3 11) v = 268435465) ∨ (y4 = 0 ∧ ¬ z_cd (σ3 11) v = 268435465) → ∀ (d' : Nat) (R : mj_Q), qh_m60_56 (d' + 50) R (τ 0 11) (τ 0 22) v y4 τ4 → mj_B mjm_L mjm_Ms (d' + 51) 60 [.inr (.inl 0)] τ R := by
        intro y4 hy d' R2 h
        refine wq_m60 (d := d' + 49) (ref20 (d' + 39) _ ⟨v, rfl, fun τa ea τb eb => ?_⟩)
        have e4 : τb = τ4 := by rw [eb, ea, hτ4]
        have e5 : τ4 0 5 = 0 := by rw [← hτ4, mj_up_ne (by omega), mj_up_ne (by omega)]; exact h53
        have e44 : τ4 4 = τ3 4 := by rw [← hτ4]; funext k; rw [mj_up_ne (by omega), mj_up_ne (by omega)]
        rw [e4]
        refine ⟨fun z => absurd e5 z, fun _ => ⟨fun z => ?_, fun z => ?_⟩⟩
        · have ey : y4 = 0 := by
            rcases hy with ⟨_, q⟩ | ⟨q, _⟩
            · rw [z_cd_n (by omega)] at q; exact absurd q (by decide)
            · exact q
          rw [ey] at h
          exact h
        · have hr := z_D_r (Int.le_refl _) vD
          obtain ⟨k', p, s1, s2, g1, g2, g3, g4, g5, g6, g7⟩ := z_D_p (Int.le_refl _) vD z
          have ecd : z_cd (τ4 4) v = z_cd (σ3 11) v := by
            rw [e44, g2, z_cd_p (by omega), z_cd_p (by omega)]
            have := RD.2.2.1.2.1
            exact ((RD.2.2.1.2.2.2 p (by omega)).1).symm
          rw [ecd]
          refine ⟨by omega, fun w => ?_, fun w => ?_⟩
          · have ey : y4 = 0 := by
              rcases hy with ⟨_, q⟩ | ⟨q, _⟩
              · exact absurd q w
              · exact q
            rw [ey] at h
            exact h
          · have ey : y4 = 1 := by
              rcases hy with ⟨q, _⟩ | ⟨_, q⟩
              · exact q
              · exact absurd w q
            rw [ey] at h
            exact h
      have fin : ∀ (y4 e : Int) (σ' τ' : mj_S), (y4 = 1 ∧ z_cd (σ3 11) v = 268435465) ∨ (y4 = 0 ∧ ¬ z_cd (σ3 11) v = 268435465) → z_FR σ3 τ3 e σ' τ' → (∀ (d' : Nat) (R : mj_Q) (y1 y2 : Int), (∀ y5, qh_m60_144 (d' + 50) R y1 y2 v y4 y5 τ') → qh_m60_56 (d' + 50) R y1 y2 v y4 τ4) → ∃ v6, (some (.inl e) : Option mj_V) = some (.inl v6) ∧ (¬ (σ' 6 6) = (σs 6 6) → (v6 = 0 → mj_r ((σ' 0 8) + 1) ∧ ∀ σ7, σ7 = mj_up σ' 0 8 ((σ' 0 8) + 1) → mj_r ((n : Int) + 1) ∧ qh_c5_2 (d + 50) Q ((n : Int) + 1) σ7) ∧ (¬ v6 = 0 → Q (some (.inl v6)) σ')) ∧ ((σ' 6 6) = (σs 6 6) → ∀ σ8, σ8 = z_rl σ' 2 8 (σs 2 8) → ∀ σ9, σ9 = z_rl σ8 4 3 (σs 4 3) → (v6 = 0 → mj_r ((σ9 0 8) + 1) ∧ ∀ σ10, σ10 = mj_up σ9 0 8 ((σ9 0 8) + 1) → mj_r ((n : Int) + 1) ∧ qh_c5_2 (d + 50) Q ((n : Int) + 1) σ10) ∧ (¬ v6 = 0 → Q (some (.inl v6)) σ9)) := by
        intro y4 e σ' τ' hy FR ref
        have e66 : σ' 6 6 = σs 6 6 := by rw [FR.2.2.2.1 6 6 (by omega), F.1 6 6 (by omega)]
        have e28 : σ' 2 8 = σ3 2 8 := FR.2.2.2.1 2 8 (by omega)
        have e18 : σ' 0 8 = n := by rw [FR.2.2.2.1 0 8 (by omega), F.1 0 8 (by omega)]; exact s08
        have e22 : τ' 0 22 = τ 0 22 := by rw [FR.2.2.2.2.2.2.1 0 22 (by omega), F.2.1 0 22 (by omega)]
        have f6 := F.2.2.2.2.2.1
        have s28 := Rs.2.2.1.2.1
        have s43 := Rs.2.2.2.2.2.1.1
        have e43 : σs 4 3 ≤ σ' 4 3 := by have := FR.2.2.2.2.2.1; rw [F.1 4 3 (by omega)] at this; exact this
        have e334 : σ' 3 4 = a' := by rw [FR.2.2.2.1 3 4 (by omega)]; exact ha'
        have e333 : σ' 3 3 = N := by rw [FR.2.2.2.1 3 3 (by omega)]; exact f33
        have e304 : τ' 0 4 = a' := by rw [FR.2.2.2.2.2.2.1 0 4 (by omega)]; exact t304
        have e302 : τ' 0 2 = N := by rw [FR.2.2.2.2.2.2.1 0 2 (by omega)]; omega
        have e5 := FR.1
        have e01 : τ' 0 1 = 0 := by rw [FR.2.2.2.2.2.2.1 0 1 (by omega), F.2.1 0 1 (by omega)]; exact h01
        have ee := FR.2.1
        have ee2 := FR.2.2.1
        refine ⟨e, rfl, fun z => absurd e66 z, fun _ σ8 e8 σ9 e9 => ?_⟩
        obtain ⟨p1, p2⟩ := z_rl_f (σ := σ') (q := 2) (k := 8) (b := σs 2 8) s28 (by omega)
        rw [← e8] at p1 p2
        obtain ⟨p3, p4⟩ := z_rl_f (σ := σ8) (q := 4) (k := 3) (b := σs 4 3) s43 (by rw [p1 4 3 (by omega)]; exact e43)
        rw [← e9] at p3 p4
        have f9 : ∀ q k, ¬ ((q = 2 ∧ k = 8) ∨ (q = 4 ∧ k = 3)) → σ9 q k = σ' q k := fun q k z => by rw [p3 q k (by omega), p1 q k (by omega)]
        have h28 : σ9 2 8 = σs 2 8 := by rw [p3 2 8 (by omega)]; exact p2
        have g9 : ∀ q k, ¬ (q = 0 ∧ k = 11) → mj_up τ' 0 11 (τ 0 11) q k = τ' q k := fun q k z => mj_up_ne z
        have m9 : ∀ (d' : Nat) (R : mj_Q), R none (mj_up τ' 0 11 (τ 0 11)) → mj_B mjm_L mjm_Ms (d' + 51) 60 [.inr (.inl 0)] τ R := fun d' R2 hR => m60 y4 hy d' R2 (ref d' R2 _ _ (fun y5 => qw_m60_144 (d := d' + 49) ⟨fun _ τ1 e1 => by rw [e1]; exact hR, fun z => absurd z (by omega)⟩))
        have n08 : σ9 0 8 = n := by rw [f9 0 8 (by omega)]; exact e18
        refine ⟨fun e0 => ⟨by rw [n08]; unfold mj_r; omega, fun σ10 e10 => ?_⟩, fun e0 => ?_⟩
        · rw [n08] at e10
          have fX : ∀ q k, ¬ (q = 0 ∧ k = 8) → σ10 q k = σ9 q k := fun q k z => by rw [e10, mj_up_ne z]
          have hR10 := z_R_fin (σ9 := σ10) (τ9 := mj_up τ' 0 11 (τ 0 11)) Rs F RD.1 RD.2.1 FR (fun q k z => by rw [fX q k (by omega)]; exact f9 q k (by omega)) (by rw [fX 2 8 (by omega)]; exact h28) (by rw [fX 4 3 (by omega)]; exact p4) (by rw [e10, mj_up_eq, if_pos e0, s08]) g9 mj_up_eq
          exact goN σ10 _ a' (z_R_lv hR10 (fun _ => e0)) (by rw [e10, mj_up_eq]) (by rw [g9 0 5 (by omega), e5]; exact e0) (by rw [g9 0 1 (by omega)]; exact e01) (by rw [fX 3 3 (by omega), f9 3 3 (by omega)]; exact e333) (by rw [fX 3 4 (by omega), f9 3 4 (by omega)]; exact e334) ha2 ha3 (by rw [g9 0 4 (by omega)]; exact e304) m9
        · have hR9 := z_R_fin (σ9 := σ9) (τ9 := mj_up τ' 0 11 (τ 0 11)) Rs F RD.1 RD.2.1 FR (fun q k z => f9 q k (by omega)) h28 p4 (by rw [n08, if_neg e0, s08]; omega) g9 mj_up_eq
          exact goE e (e = 0) σ9 _ hR9 (by rw [g9 0 5 (by omega)]; exact e5) (by rw [g9 0 1 (by omega)]; exact e01) (by omega) ee2 ⟨by rw [g9 0 4 (by omega)]; omega, by rw [g9 0 4 (by omega), g9 0 2 (by omega)]; omega⟩ (by rw [f9 3 3 (by omega)]; exact e333) m9
      by_cases hdf : z_cd (σ3 11) v = 268435465
      · refine x_def (d := d) E hdf (fun e σ' τ' FR ref => ?_) (fun σn τn σ' τ' NF FR h43 ref => ?_)
        · rw [hτ4] at ref
          exact fin 1 e σ' τ' (Or.inl ⟨rfl, hdf⟩) FR ref
        · rw [hτ4] at ref
          have e66 : σ' 6 6 = σs 6 6 + 1 := by rw [FR.2.2.2.1 6 6 (by omega), NF.2.2.2.2.1, F.1 6 6 (by omega)]
          have e18 : σ' 0 8 = n := by rw [FR.2.2.2.1 0 8 (by omega), NF.1 0 8 (by omega), F.1 0 8 (by omega)]; exact s08
          have e22 : τ' 0 22 = τ 0 22 + 1 := by rw [FR.2.2.2.2.2.2.1 0 22 (by omega), NF.2.2.2.2.2.1, F.2.1 0 22 (by omega)]
          have e334 : σ' 3 4 = a' := by rw [FR.2.2.2.1 3 4 (by omega), NF.1 3 4 (by omega)]; exact ha'
          have e333 : σ' 3 3 = N := by rw [FR.2.2.2.1 3 3 (by omega), NF.1 3 3 (by omega)]; exact f33
          have e304 : τ' 0 4 = a' := by rw [FR.2.2.2.2.2.2.1 0 4 (by omega), NF.2.1 0 4 (by omega)]; exact t304
          refine ⟨0, rfl, fun _ => ⟨fun _ => ⟨by rw [e18]; unfold mj_r; omega, fun σ7 e7 => ?_⟩, fun z => absurd rfl z⟩, fun z => absurd z (by omega)⟩
          have fX : ∀ q k, ¬ (q = 0 ∧ k = 8) → σ7 q k = σ' q k := fun q k z => by rw [e7, mj_up_ne z]
          refine goN σ7 τ' a' (z_R_new Rs F RD NF FR h43 fX (by rw [e7, mj_up_eq]) (fun _ _ => rfl)) (by rw [e7, mj_up_eq, e18]) FR.1 (by rw [FR.2.2.2.2.2.2.1 0 1 (by omega), NF.2.1 0 1 (by omega), F.2.1 0 1 (by omega)]; exact h01) (by rw [fX 3 3 (by omega)]; exact e333) (by rw [fX 3 4 (by omega)]; exact e334) ha2 ha3 e304 (fun d' R2 hR => m60 1 (Or.inl ⟨rfl, hdf⟩) d' R2 (ref d' R2 _ _ (fun y5 => qw_m60_144 (d := d' + 49) ⟨fun z => absurd z (by omega), fun _ τ1 e1 => ?_⟩)))
          rw [e1, mj_up_self rfl]
          exact hR
      · refine x_form (d := d) E hdf (fun e σ' τ' FR ref => ?_)
        rw [hτ4] at ref
        exact fin 0 e σ' τ' (Or.inr ⟨rfl, hdf⟩) FR ref
    · intro c σ3 τ3 F X Y h53 hc ref20
      have e66 : σ3 6 6 = σs 6 6 := F.1 6 6 (by omega)
      have e18 : σ3 0 8 = n := by rw [F.1 0 8 (by omega)]; exact s08
      have f6 := F.2.2.2.2.2.1
      have s28 := Rs.2.2.1.2.1
      have s43 := Rs.2.2.2.2.2.1.1
      have f33 : σ3 3 3 = N := by rw [F.1 3 3 (by omega)]; exact s33
      obtain ⟨hc1, hpl⟩ := hc
      refine ⟨-c, rfl, fun z => absurd z (by omega), fun _ => ⟨by unfold mj_r; omega, fun z => absurd e66 z, fun _ σ8 e8 σ9 e9 => ⟨fun z => absurd z (by omega), fun _ => ?_⟩⟩⟩
      rw [Int.neg_neg]
      obtain ⟨p1, p2⟩ := z_rl_f (σ := σ3) (q := 2) (k := 8) (b := σs 2 8) s28 (by omega)
      rw [← e8] at p1 p2
      obtain ⟨p3, p4⟩ := z_rl_f (σ := σ8) (q := 4) (k := 3) (b := σs 4 3) s43 (by rw [p1 4 3 (by omega), F.1 4 3 (by omega)]; exact Int.le_refl _)
      rw [← e9] at p3 p4
      have f9 : ∀ q k, ¬ ((q = 2 ∧ k = 8) ∨ (q = 4 ∧ k = 3)) → σ9 q k = σ3 q k := fun q k z => by rw [p3 q k (by omega), p1 q k (by omega)]
      generalize hτ4 : mj_up (mj_up τ3 0 33 0) 0 36 0 = τ4
      have o4 : ∀ q k, ¬ (q = 0 ∧ (k = 33 ∨ k = 36)) → τ4 q k = τ3 q k := fun q k z => by rw [← hτ4, mj_up_ne (by omega), mj_up_ne (by omega)]
      have e5 : τ4 0 5 = c := by rw [o4 0 5 (by omega)]; exact h53
      obtain ⟨r1, r2, r3, r4, r5, r6, r7, r8, r9, r10, r11, r12⟩ := Rs
      have Rs : z_R (C + 20 * (n : Int)) True σs τ := ⟨r1, r2, r3, r4, r5, r6, r7, r8, r9, r10, r11, r12⟩
      obtain ⟨be, hH⟩ := r4
      obtain ⟨S, fuel, u1, u2, u3, u4, u5⟩ := r9
      have FR : z_FR σ3 τ3 c σ3 τ4 := by
        refine z_FR_e (A := z_zA σs) (B := σs 12) (st := 0) (be := be) (G := fun _ => false) e5 (by omega) (by omega) (fun _ _ _ => rfl) (fun _ _ => ⟨rfl, rfl, rfl⟩) (Int.le_refl _) (fun q k z => o4 q k (by omega)) (z_H_re hH (fun q k z => F.1 q k (by omega)) (fun q k z => F.2.1 q k (by omega)) (fun i i1 _ => absurd i1 (Nat.not_lt_zero i))) (by rw [F.1 7 13 (by omega), F.2.1 0 42 (by omega)]; exact r8) ⟨S, fuel, u1, u2, by rw [F.1 7 11 (by omega)]; exact (u3 trivial).1, by rw [F.2.1 0 40 (by omega)]; exact (u3 trivial).2, by rw [F.1 7 12 (by omega)]; exact u4, by rw [F.2.1 0 41 (by omega)]; exact u5⟩ (z_P_fr r7 (fun q k z => F.1 q k (by omega)) (fun q k z => F.2.1 q k (by omega)))
      have g9 : ∀ q k, ¬ (q = 0 ∧ k = 11) → mj_up τ4 0 11 (τ 0 11) q k = τ4 q k := fun q k z => mj_up_ne z
      have hR9 := z_R_fin (σ9 := σ9) (τ9 := mj_up τ4 0 11 (τ 0 11)) Rs F X Y FR (fun q k z => f9 q k (by omega)) (by rw [p3 2 8 (by omega)]; exact p2) p4 (by rw [f9 0 8 (by omega), e18, if_neg (by omega), s08]; omega) g9 mj_up_eq
      refine goE c (c = 0) σ9 _ hR9 (by rw [g9 0 5 (by omega)]; exact e5) (by rw [g9 0 1 (by omega), o4 0 1 (by omega), F.2.1 0 1 (by omega)]; exact h01) (by omega) (by omega) (z_pl_fr hpl (by rw [g9 0 4 (by omega), o4 0 4 (by omega)]) (by rw [g9 0 2 (by omega), o4 0 2 (by omega)])) (by rw [f9 3 3 (by omega)]; exact f33) (fun d' R2 hR => ?_)
      refine wq_m60 (d := d' + 49) (ref20 (d' + 39) _ ⟨_, rfl, fun τa ea τb eb => ?_⟩)
      have e4 : τb = τ4 := by rw [eb, ea, hτ4]
      have e22 : τ4 0 22 = τ 0 22 := by rw [o4 0 22 (by omega), F.2.1 0 22 (by omega)]
      rw [e4]
      refine ⟨fun _ => qw_m60_56 (d := d' + 49) ⟨fun _ => ⟨fun _ => qw_m60_115 (d := d' + 49) ⟨fun _ => qw_m60_144 (d := d' + 49) ⟨fun _ τ1 e1 => by rw [e1]; exact hR, fun z => absurd z (by omega)⟩, fun z => absurd z (by omega)⟩, fun z => absurd z (by omega)⟩, fun z => absurd rfl z⟩, fun z => absurd z (by omega)⟩
