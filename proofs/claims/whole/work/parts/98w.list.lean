/-! lists, and the functions that are given -/
theorem c_cons {σ : mj_S} {a : Nat} {x y : Int} {d : Nat} {Q : mj_Q} (ha : σ 7 10 = a) (ha2 : a < 2400) (h : ∀ σ1, (∀ q k, ¬ (q = 7 ∧ k = 10) → σ1 q k = σ q k) → σ1 7 10 = ((a + 1 : Nat) : Int) → mj_B mjc_L mjc_Ms (d + 29) 101 [.inr (.inl 7)] σ1 (fun r σ2 => ∃ v, r = some (.inl v) ∧ Q (some (.inl v)) σ2)) : mj_B mjc_L mjc_Ms (d + 30) 91 [.inr (.inl 7), .inl 268435466, .inl x, .inl y] σ Q := by
  refine wq_c91 (d := d + 28) ⟨by unfold mj_r; omega, fun σ1 e1 => ⟨fun z => absurd z (by decide), fun z => absurd z (by decide), fun z => absurd z (by decide), fun z => absurd z (by decide), fun z => absurd z (by decide), fun z => absurd z (by decide), fun z => absurd z (by decide), fun z => absurd z (by decide), fun z => absurd z (by decide), fun z => absurd z (by decide), fun z => absurd z (by decide), fun _ => ?_, fun z => absurd z (by decide), fun z => absurd z (by decide), fun z => absurd rfl (z.2.2.2.2.2.2.2.2.2.2.2.1)⟩⟩
  rw [ha, show (a : Int) + 1 = ((a + 1 : Nat) : Int) by omega] at e1
  exact h σ1 (fun q k z => by rw [e1, mj_up_ne z]) (by rw [e1, mj_up_eq])
/-- pairs of a list, made from its end -/
theorem x_lloop {A B : Nat → Int} {st : Nat} {K : z_K} {σ0 τ0 : mj_S} {S0 fuel d : Nat} {Q : mj_Q} {y : Int} {τs : mj_S} {n0 : Nat} (CX : z_CX A B st K σ0 τ0 S0 fuel Q τs) (IH : z_IH A B st K σ0 τ0 S0 fuel d Q y τs n0) {m i a p0 b fb : Nat} {fn : Bool} {E : List (Int × Int)} {hole : Int} {bg fr q u S : Nat} {x t : Int} (hi : ∀ j, j < i → z_in K (a + 1 + j) 268435466 0 0) (hb' : b = a + 1 + i) (hhl : hole < ((fb + p0 : Nat) : Int)) :
    ∀ (c j n : Nat) (σ τ : mj_S) (be : Nat → Nat) (G : Nat → Bool), j + c = i → n0 < n → z_XW A B st σ0 τ0 n σ τ (fb + p0 + c + 1) S fuel be G → z_jc A B st K σ τ m fn b E (p0 + 1) fb hole bg fr q u → σ 7 10 = ((a + 1 + j : Nat) : Int) → τ 0 26 = m → z_SP σ τ fn E fb hole bg fr → z_ne τ fb (p0 + c + 1) hole → n + (fb + p0 + c + 1) + u + 20 * S0 ≤ 20 * S → (∀ τ', (∀ (d' : Nat) (Q' : mj_Q), Q' none τ' → qh_m41_388 (d' + 29) Q' 12 x (i : Int) t (j : Int) τ) → z_ge τs τ') → qh_c90_22 (d + 30) Q y (n : Int) σ := by
  intro c
  induction c with
  | zero =>
    intro j n σ τ be G hji hnn W rest h10 h26 SP hne hb hR
    have gs := hR τ (fun d' Q' hq => qw_m41_388 (d := d' + 27) ⟨fun _ => hq, fun z => absurd z (by omega)⟩)
    exact IH n hnn σ τ m fn b E (p0 + 1) fb hole bg fr q u S be G ⟨W, rest, by rw [h10, hb', ← hji]; rfl, h26, SP, hne, by omega⟩ gs
  | succ c ih =>
    intro j n σ τ be G hji hnn W rest h10 h26 SP hne hb hR
    obtain ⟨hK, hK4⟩ := z_CX_K CX W
    have W0 := W
    obtain ⟨w1, w2, w3, w4, w5, w6, w7, w8, w9⟩ := W0
    refine c_turn (by omega) hK hK4 h10 (hi j (by omega)) (by decide) (fun ha => c_cons h10 ha (fun σ1 f1 f2 => ?_))
    have W1 : z_XW A B st σ0 τ0 n σ1 τ (fb + p0 + c + 2) S fuel be G := xw_dn W (Nat.le_refl _) (Nat.le_refl _) (fun q k z => f1 q k (by omega)) (fun _ _ _ => rfl) (by rw [f1 7 7 (by omega)]; exact w6.2.1) w6.2.2
    refine t_cons (d := d + 19) (h := fb + p0 + c) W1 (hne _ (by omega) (by omega) (by omega)) (hne _ (by omega) (by omega) (by omega)) CX.2.2.2.1 (by have := W1.2.2.2.1; have := CX.2.2.2.2.1; omega) (fun σ' τ' be' G' g1 g2 g3 g4 g5 => ⟨0, rfl, 0, rfl, fun _ => ?_, fun z => absurd rfl z⟩) (fun σ' τ' g1 g2 => ⟨6, rfl, 6, rfl, fun z => absurd z (by decide), fun _ => ?_⟩)
    · refine ih (j + 1) (n + 1) σ' τ' be' G' (by omega) (by omega) g1 (z_jc_fr (fun q k z => by rw [g2 q k (by omega), f1 q k (by omega)]) (fun q k z => g3 q k (by omega)) rest) (by rw [g2 7 10 (by omega), f2]; omega) (by rw [g3 0 26 (by omega)]; exact h26) (z_SP_fr (fun k hk => by rw [g2 7 k (by omega), f1 7 k (by omega)]) (fun q k z => g3 q k (by omega)) SP) (fun k i1 i2 i3 => ?_) (by omega) (fun τ'' hl => hR τ'' (fun d' Q' hq => qw_m41_388 (d := d' + 27) ⟨fun z => absurd z (by omega), fun _ => ⟨fun z => absurd w9 z, fun _ => g5 (d' + 24) _ ⟨rfl, by unfold mj_r; omega, ?_⟩⟩⟩))
      · by_cases e : k = fb + p0 + c
        · rw [e]; exact g4
        · rw [g3 20 k (by omega)]; exact hne k i1 (by omega) i3
      · rw [show (j : Int) + 1 = ((j + 1 : Nat) : Int) by omega]
        exact hl d' Q' hq
    · refine CX.2.2.2.2.2.2.2 6 σ' τ' (n + 1) S g1 (by omega) (hR τ' (fun d' Q' hq => qw_m41_388 (d := d' + 27) ⟨fun z => absurd z (by omega), fun _ => ⟨fun z => absurd w9 z, fun _ => g2 (d' + 24) _ ⟨rfl, by unfold mj_r; omega, ?_⟩⟩⟩))
      have e6 : τ' 0 5 = 6 := g1.2.2.2.2.2.2.1
      exact qw_m41_388 (d := d' + 27) ⟨fun _ => hq, fun _ => ⟨fun _ => hq, fun z => by rw [e6] at z; exact absurd z (by decide)⟩⟩
theorem x_list {A B : Nat → Int} {st : Nat} {K : z_K} {σ0 τ0 : mj_S} {S0 fuel d : Nat} {Q : mj_Q} {y : Int} {τs : mj_S} {n : Nat} (CX : z_CX A B st K σ0 τ0 S0 fuel Q τs) (IH : z_IH A B st K σ0 τ0 S0 fuel d Q y τs n) (hn : n < 999000) {σ τ : mj_S} {m : Nat} {fn : Bool} {a : Nat} {E E' : List (Int × Int)} {pl pl' b fb : Nat} {hole : Int} {bg fr q u S : Nat} {be : Nat → Nat} {G : Nat → Bool}
    (W : z_XW A B st σ0 τ0 n σ τ (fb + pl) S fuel be G) (rest : z_jc A B st K σ τ m fn b E' pl' fb hole bg fr q u) (h10 : σ 7 10 = a) (h26 : τ 0 26 = (m : Int) + 1) (hm : m < 2700) (SP : z_SP σ τ fn E fb hole bg fr) (hne : z_ne τ fb pl hole) (hb : n + (fb + pl) + (u + 3) + 20 * S0 ≤ 20 * S + (if τ 16 m = 1 then 10 else 0)) (gs : z_ge τs τ) {x t : Int} {p0 i : Nat} (hv : τ 16 m = 12 ∧ τ 17 m = x ∧ τ 18 m = i ∧ τ 19 m = t) (c2 : pl = p0 + i) (c3 : z_eb (hole - fb) E p0) (c4 : z_in K a 2 268435456 0) (c5 : ∀ j, j < i → z_in K (a + 1 + j) 268435466 0 0) (c6 : b = a + 1 + i) (c7 : E' = E) (c8 : pl' = p0 + 1) : qh_c90_22 (d + 30) Q y (n : Int) σ := by
  subst c7 c8
  obtain ⟨hK, hK4⟩ := z_CX_K CX W
  have W0 := W
  obtain ⟨w1, w2, w3, w4, w5, w6, w7, w8, w9⟩ := W0
  have hp := c3.1
  rw [hv.1, if_neg (by decide)] at hb
  have t31 : mj_up τ 0 26 (m : Int) 0 31 = ((fb + pl : Nat) : Int) := by rw [mj_up_ne (by omega)]; exact w6.2.2
  have t41 : mj_up τ 0 26 (m : Int) 0 41 = S := by rw [mj_up_ne (by omega)]; exact w8.2.2.2.2.2
  have act : ∀ τ', (∀ (d' : Nat) (Q' : mj_Q), Q' none τ' → qh_m41_388 (d' + 29) Q' 12 x (i : Int) t ((0 : Nat) : Int) (z_pu (mj_up τ 0 26 (m : Int)) 268435456)) → z_ge τ τ' := fun τ' hl => by
    refine r_turn h26 (by omega) w9 (fun d Q hq => ?_)
    rw [hv.1, hv.2.1, hv.2.2.1, hv.2.2.2]
    refine wq_m41 (d := d + 27) ⟨fun z => absurd z (by decide), fun z => absurd z (by decide), fun z => absurd z (by decide), fun z => absurd z (by decide), fun z => absurd z (by decide), fun z => absurd z (by decide), fun z => absurd z (by decide), fun z => absurd z (by decide), fun z => absurd z (by decide), fun z => absurd z (by decide), fun z => absurd z (by decide), fun _ => ?_, fun z => absurd z (by decide), fun z => absurd z (by decide), fun z => absurd ⟨by decide, by decide⟩ z⟩
    refine ⟨by omega, by omega, fun σ1 e1 => ?_⟩
    rw [e1]
    exact hl d Q hq
  refine c_turn (by omega) hK hK4 h10 c4 (by decide) (fun ha => c_o2 h10 ha w6.2.1 w6.1 (fun hlt σ' g1 g2 g3 g4 g5 => ⟨0, rfl, fun _ => ?_, fun z => absurd rfl z⟩) (fun heq σ' g1 => ⟨9, rfl, fun z => absurd z (by decide), fun _ => ?_⟩))
  · obtain ⟨u1, u2, u3, u4⟩ := z_pu_1 (τ := mj_up τ 0 26 (m : Int)) (x := 268435456) t31 hlt
    generalize z_pu (mj_up τ 0 26 (m : Int)) 268435456 = τ' at u1 u2 u3 u4 act
    have o' : ∀ q k, ¬ ((q = 20 ∧ k = fb + pl) ∨ (q = 0 ∧ (k = 26 ∨ k = 31 ∨ k = 42))) → τ' q k = τ q k := fun q k z => by rw [u1 q k (by omega), mj_up_ne (by omega)]
    rw [mj_up_ne (by omega)] at u4
    have W' : z_XW A B st σ0 τ0 (n + 1) σ' τ' (fb + pl + 1) S fuel be G := xw_rep W (by omega) (Nat.le_refl _) hlt (fun q k z => g1 q k (by omega)) (fun q k z => o' q k (by omega)) (by rw [g3, u2]; exact Or.inr (z_dt_vl (z_dt_atom (by decide) (by decide)))) g4 u3 g5 u4 ⟨w8.1, by rw [g1 7 12 (by omega)]; exact w8.2.2.2.2.1, by rw [o' 0 41 (by omega)]; exact w8.2.2.2.2.2⟩
    refine x_lloop CX IH (m := m) (i := i) (a := a) (p0 := p0) (b := b) (x := x) (t := t) c5 c6 (by omega) i 0 (n + 1) σ' τ' be G (by omega) (by omega) (by rw [show fb + p0 + i + 1 = fb + pl + 1 by omega]; exact W') (z_jc_fr (fun q k z => g1 q k (by omega)) (fun q k z => o' q k (by omega)) rest) g2 (by rw [u1 0 26 (by omega), mj_up_eq]) (z_SP_fr (fun k hk => g1 7 k (by omega)) (fun q k z => o' q k (by omega)) SP) (fun k i1 i2 i3 => ?_) (by omega) (fun τ'' hl => z_ge_tr gs (act τ'' hl))
    by_cases e : k = fb + pl
    · rw [e, u2]; decide
    · rw [o' 20 k (by omega)]; exact hne k i1 (by omega) i3
  · have e5 : mj_up τ 0 26 (m : Int) 0 5 = 0 := by rw [mj_up_ne (by omega)]; exact w9
    rw [z_pu_d (by rw [t31, heq]; rfl) e5] at act
    refine x_err CX W (n' := n + 1) (S' := S) (τ' := mj_up (mj_up τ 0 26 (m : Int)) 0 5 9) (by omega) (fun q k z => g1 q k (by omega)) (fun q k z => by rw [mj_up_ne (by omega), mj_up_ne (by omega)]) ⟨w8.1, by rw [g1 7 12 (by omega)]; exact w8.2.2.2.2.1, by rw [mj_up_ne (by omega)]; exact t41⟩ mj_up_eq (by omega) (by omega) (by omega) (z_ge_tr gs (act _ (fun d' Q' hq => qw_m41_388 (d := d' + 27) ⟨fun _ => hq, fun _ => ⟨fun _ => hq, fun z => ?_⟩⟩)))
    rw [mj_up_eq] at z
    exact absurd z (by decide)
