/-! the functions that are given: both machines -/
theorem x_ap1 {A B : Nat → Int} {st : Nat} {K : z_K} {σ0 τ0 : mj_S} {S0 fuel d : Nat} {Q : mj_Q} {y : Int} {τs : mj_S} {n : Nat} (CX : z_CX A B st K σ0 τ0 S0 fuel Q τs) (IH : z_IH A B st K σ0 τ0 S0 fuel d Q y τs n) (hn : n < 999000) {σ τ : mj_S} {m : Nat} {fn : Bool} {a : Nat} {E E' : List (Int × Int)} {pl pl' b fb : Nat} {hole : Int} {bg fr q u S : Nat} {be : Nat → Nat} {G : Nat → Bool}
    (W : z_XW A B st σ0 τ0 n σ τ (fb + pl) S fuel be G) (rest : z_jc A B st K σ τ m fn b E' pl' fb hole bg fr q u) (h10 : σ 7 10 = a) (h26 : τ 0 26 = (m : Int) + 1) (hm : m < 2700) (SP : z_SP σ τ fn E fb hole bg fr) (hne : z_ne τ fb pl hole) (hb : n + (fb + pl) + (u + 3) + 20 * S0 ≤ 20 * S + (if τ 16 m = 1 then 10 else 0)) (gs : z_ge τs τ) {s x t : Int} {p0 : Nat} (hv : τ 16 m = 13 ∧ τ 17 m = x ∧ τ 18 m = s ∧ τ 19 m = t) (c1 : 11 ≤ s ∧ s ≤ 15) (c2 : pl = p0 + 1) (c3 : z_eb (hole - fb) E p0) (c4 : z_in K a (268435456 + s) 0 0) (c6 : b = a + 1) (c7 : E' = E) (c8 : pl' = p0 + 1) : qh_c90_22 (d + 30) Q y (n : Int) σ := by
  subst c7 c8
  obtain ⟨hK, hK4⟩ := z_CX_K CX W
  have W0 := W
  obtain ⟨w1, w2, w3, w4, w5, w6, w7, w8, w9⟩ := W0
  have hbd := z_H_b w3
  have hp := c3.1
  rw [hv.1, if_neg (by decide)] at hb
  have htop : 0 ≤ τ 20 (fb + p0) := hne (fb + p0) (by omega) (by omega) (by omega)
  have hval := z_pv_v (w5 (fb + p0) (by omega)) htop
  have r := z_vl_r hbd hval
  have g := r_p1 (h := fb + p0) h26 (by omega) w9 hv c1 (by rw [w6.2.2]; omega) (by omega) (by omega)
  refine c_turn (by omega) hK hK4 h10 c4 (by omega) (fun ha => c_p1 (h := fb + p0) h10 ha c1 (by rw [w6.2.1]; omega) (by omega) (by omega) (fun σ' f1 f2 f3 f4 f5 => ⟨0, rfl, fun _ => ?_, fun z => absurd rfl z⟩))
  exact x_res IH W rest SP hne (p0 := p0) (S' := S) (τb := mj_up (mj_up τ 0 26 (m : Int)) 0 31 ((fb + p0 : Nat) : Int)) rfl rfl (by omega) (by omega) (by omega) (fun q k z => f1 q k (by omega)) (by rw [f2, c6]) f3 f4 f5 (by rw [f1 7 12 (by omega)]; exact w8.2.2.2.2.1) (fun q k z => by rw [mj_up_ne (by omega), mj_up_ne (by omega)]) (by rw [mj_up_ne (by omega), mj_up_eq]) mj_up_eq (by rw [mj_up_ne (by omega), mj_up_ne (by omega)]; exact w8.2.2.2.2.2) w8.1 (z_f1_vl w3 hval s) (by omega) (z_ge_tr gs g)
theorem x_ap2 {A B : Nat → Int} {st : Nat} {K : z_K} {σ0 τ0 : mj_S} {S0 fuel d : Nat} {Q : mj_Q} {y : Int} {τs : mj_S} {n : Nat} (CX : z_CX A B st K σ0 τ0 S0 fuel Q τs) (IH : z_IH A B st K σ0 τ0 S0 fuel d Q y τs n) (hn : n < 999000) {σ τ : mj_S} {m : Nat} {fn : Bool} {a : Nat} {E E' : List (Int × Int)} {pl pl' b fb : Nat} {hole : Int} {bg fr q u S : Nat} {be : Nat → Nat} {G : Nat → Bool}
    (W : z_XW A B st σ0 τ0 n σ τ (fb + pl) S fuel be G) (rest : z_jc A B st K σ τ m fn b E' pl' fb hole bg fr q u) (h10 : σ 7 10 = a) (h26 : τ 0 26 = (m : Int) + 1) (hm : m < 2700) (SP : z_SP σ τ fn E fb hole bg fr) (hne : z_ne τ fb pl hole) (hb : n + (fb + pl) + (u + 3) + 20 * S0 ≤ 20 * S + (if τ 16 m = 1 then 10 else 0)) (gs : z_ge τs τ) {s x t : Int} {p0 : Nat} (hv : τ 16 m = 13 ∧ τ 17 m = x ∧ τ 18 m = s ∧ τ 19 m = t) (c1 : 17 ≤ s ∧ s ≤ 19) (c2 : pl = p0 + 2) (c3 : z_eb (hole - fb) E p0) (c4 : z_in K a (268435456 + s) 0 0) (c6 : b = a + 1) (c7 : E' = E) (c8 : pl' = p0 + 1) : qh_c90_22 (d + 30) Q y (n : Int) σ := by
  subst c7 c8
  obtain ⟨hK, hK4⟩ := z_CX_K CX W
  have W0 := W
  obtain ⟨w1, w2, w3, w4, w5, w6, w7, w8, w9⟩ := W0
  have hbd := z_H_b w3
  have hp := c3.1
  rw [hv.1, if_neg (by decide)] at hb
  have ht0 : 0 ≤ τ 20 (fb + p0) := hne (fb + p0) (by omega) (by omega) (by omega)
  have ht1 : 0 ≤ τ 20 (fb + p0 + 1) := hne (fb + p0 + 1) (by omega) (by omega) (by omega)
  have v0 := z_nu_vl hbd (z_pv_v (w5 (fb + p0) (by omega)) ht0)
  have v1 := z_nu_vl hbd (z_pv_v (w5 (fb + p0 + 1) (by omega)) ht1)
  obtain ⟨g1, g2, g3, g4⟩ := r_p2 (h := fb + p0) h26 (by omega) w9 hv (by rw [w6.2.2]; omega) (by omega) v0.2 v1.2
  obtain ⟨k1, k2, k3⟩ := @z_t2_f τ m (fb + p0)
  have fin : ∀ (σ' : mj_S) (X Y : Int), (∀ q k, ¬ ((q = 29 ∧ k = fb + p0) ∨ (q = 7 ∧ (k = 7 ∨ k = 10 ∨ k = 13))) → σ' q k = σ q k) → σ' 7 10 = ((a + 1 : Nat) : Int) → σ' 29 (fb + p0) = X → σ' 7 7 = ((fb + p0 : Nat) : Int) + 1 → σ' 7 13 = (if σ 7 13 < ((fb + p0 : Nat) : Int) + 1 then ((fb + p0 : Nat) : Int) + 1 else σ 7 13) → X = Y → z_dt A B st Y → z_ge τ (z_pu (z_t2 τ m (fb + p0)) Y) → qh_c90_22 (d + 30) Q y ((n + 1 : Nat) : Int) σ' := fun σ' X Y f1 f2 f3 f4 f5 e hd g =>
    x_res IH W rest SP hne (p0 := p0) (S' := S) (τb := z_t2 τ m (fb + p0)) rfl rfl (by omega) (by omega) (by omega) (fun q k z => f1 q k (by omega)) (by rw [f2, c6]) f3 f4 f5 (by rw [f1 7 12 (by omega)]; exact w8.2.2.2.2.1) (fun q k z => k1 q k (by omega)) k2 k3 (by rw [k1 0 41 (by omega)]; exact w8.2.2.2.2.2) w8.1 (by rw [e]; exact z_dt_vl hd) (by omega) (z_ge_tr gs g)
  have h77 : σ 7 7 = ((fb + p0 : Nat) : Int) + 2 := by rw [w6.2.1]; omega
  by_cases e17 : s = 17
  · subst e17
    refine c_turn (by omega) hK hK4 h10 c4 (by omega) (fun ha => c_plus (h := fb + p0) h10 ha h77 (by omega) (by rw [v0.1]; exact v0.2) (by rw [v1.1]; exact v1.2) (fun hz σ' f1 f2 f3 f4 f5 => ⟨0, rfl, fun _ => ?_, fun z => absurd rfl z⟩) (fun hz σ' f1 => ⟨7, rfl, fun z => absurd z (by decide), fun _ => ?_⟩))
    · rw [v0.1, v1.1] at hz f3
      exact fin σ' _ _ f1 f2 f3 f4 f5 rfl (z_dt_atom (by omega) (by omega)) (g1 rfl hz)
    · rw [v0.1, v1.1] at hz
      exact x_err CX W (n' := n + 1) (S' := S) (by omega) (fun q k z => f1 q k (by omega)) (fun q k z => by rw [mj_up_ne (by omega), k1 q k (by omega)]) ⟨w8.1, by rw [f1 7 12 (by omega)]; exact w8.2.2.2.2.1, by rw [mj_up_ne (by omega), k1 0 41 (by omega)]; exact w8.2.2.2.2.2⟩ mj_up_eq (by omega) (by omega) (by omega) (z_ge_tr gs (g2 rfl hz))
  · refine c_turn (by omega) hK hK4 h10 c4 (by omega) (fun ha => c_p2 (h := fb + p0) h10 ha (by omega) h77 (by omega) (by rw [v0.1]; exact v0.2) (by rw [v1.1]; exact v1.2) (fun σ' f1 f2 f3 f4 f5 => ⟨0, rfl, fun _ => ?_, fun z => absurd rfl z⟩))
    rw [v0.1, v1.1] at f3
    by_cases e18 : s = 18
    · rw [if_pos e18] at f3
      refine fin σ' _ _ f1 f2 f3 f4 f5 rfl ?_ (g3 e18)
      split
      · exact z_dt_atom (by omega) (by omega)
      · exact z_dt_atom (by decide) (by decide)
    · rw [if_neg e18] at f3
      exact fin σ' _ _ f1 f2 f3 f4 f5 rfl (z_tr_dt _) (g4 (by omega))
/-- error -/
theorem x_ap3 {A B : Nat → Int} {st : Nat} {K : z_K} {σ0 τ0 : mj_S} {S0 fuel d : Nat} {Q : mj_Q} {y : Int} {τs : mj_S} {n : Nat} (CX : z_CX A B st K σ0 τ0 S0 fuel Q τs) (IH : z_IH A B st K σ0 τ0 S0 fuel d Q y τs n) (hn : n < 999000) {σ τ : mj_S} {m : Nat} {fn : Bool} {a : Nat} {E E' : List (Int × Int)} {pl pl' b fb : Nat} {hole : Int} {bg fr q u S : Nat} {be : Nat → Nat} {G : Nat → Bool}
    (W : z_XW A B st σ0 τ0 n σ τ (fb + pl) S fuel be G) (rest : z_jc A B st K σ τ m fn b E' pl' fb hole bg fr q u) (h10 : σ 7 10 = a) (h26 : τ 0 26 = (m : Int) + 1) (hm : m < 2700) (SP : z_SP σ τ fn E fb hole bg fr) (hne : z_ne τ fb pl hole) (hb : n + (fb + pl) + (u + 3) + 20 * S0 ≤ 20 * S + (if τ 16 m = 1 then 10 else 0)) (gs : z_ge τs τ) {s x t : Int} {p0 : Nat} (hv : τ 16 m = 13 ∧ τ 17 m = x ∧ τ 18 m = s ∧ τ 19 m = t) (c1 : s = 20) (c2 : pl = p0 + 1) (c3 : z_eb (hole - fb) E p0) (c4 : z_in K a (268435456 + s) 0 0) (c6 : b = a + 1) (c7 : E' = E) (c8 : pl' = p0 + 1) : qh_c90_22 (d + 30) Q y (n : Int) σ := by
  subst c7 c8
  obtain ⟨hK, hK4⟩ := z_CX_K CX W
  have W0 := W
  obtain ⟨w1, w2, w3, w4, w5, w6, w7, w8, w9⟩ := W0
  have hbd := z_H_b w3
  have hp := c3.1
  rw [hv.1, if_neg (by decide)] at hb
  have h31 : mj_up τ 0 26 (m : Int) 0 31 = ((fb + p0 : Nat) : Int) + 1 := by rw [mj_up_ne (by omega), w6.2.2]; omega
  have g : z_ge τ (mj_up (mj_up (mj_up τ 0 26 (m : Int)) 0 31 ((fb + p0 : Nat) : Int)) 0 5 8) := by
    refine r_turn h26 (by omega) w9 (fun d Q hq => ?_)
    rw [hv.1, hv.2.1, hv.2.2.1, hv.2.2.2]
    refine wq_m41 (d := d + 27) ⟨fun z => absurd z (by decide), fun z => absurd z (by decide), fun z => absurd z (by decide), fun z => absurd z (by decide), fun z => absurd z (by decide), fun z => absurd z (by decide), fun z => absurd z (by decide), fun z => absurd z (by decide), fun z => absurd z (by decide), fun z => absurd z (by decide), fun z => absurd z (by decide), fun z => absurd z (by decide), fun _ => ?_, fun z => absurd z (by decide), fun z => absurd ⟨by decide, by decide⟩ z⟩
    refine wq_m53 (d := d + 26) ⟨fun _ => ?_, fun z => absurd z (by omega)⟩
    rw [h31, show ((fb + p0 : Nat) : Int) + 1 - 1 = ((fb + p0 : Nat) : Int) by omega]
    refine ⟨by omega, by omega, fun σ1 e1 => ⟨fun z => absurd z (by omega), fun _ => ⟨fun _ => qw_m53_37 (d := d + 26) ⟨fun z => absurd c1 z, fun _ σ2 e2 => ⟨rfl, ?_⟩⟩, fun z => absurd z (by omega)⟩⟩⟩
    rw [e2, z_sp0 (by rw [e1, mj_up_ne (by omega), mj_up_ne (by omega)]; exact w9), e1]
    exact hq
  refine c_turn (by omega) hK hK4 h10 c4 (by omega) (fun ha => c_def h10 ha (by omega) (fun σ1 o1 a1 => ?_))
  have g7 : σ1 7 7 = ((fb + p0 : Nat) : Int) + 1 := by rw [o1 7 7 (by omega), w6.2.1]; omega
  refine wq_c102 (d := d + 26) ⟨by rw [g7]; unfold mj_r; omega, by rw [g7]; unfold mj_r; omega, fun z => absurd z (by omega), fun z => absurd z (by omega), fun z => absurd z (by omega), fun z => absurd z (by omega), fun z => absurd z (by omega), fun z => absurd z (by omega), fun z => absurd z (by omega), fun z => absurd z (by omega), fun z => absurd z (by omega), fun _ => ⟨8, rfl, 8, ?_⟩⟩
  refine ⟨rfl, fun z => absurd z (by decide), fun _ => ?_⟩
  exact x_err CX W (n' := n + 1) (S' := S) (by omega) (fun q k z => o1 q k (by omega)) (fun q k z => by rw [mj_up_ne (by omega), mj_up_ne (by omega), mj_up_ne (by omega)]) ⟨w8.1, by rw [o1 7 12 (by omega)]; exact w8.2.2.2.2.1, by rw [mj_up_ne (by omega), mj_up_ne (by omega), mj_up_ne (by omega)]; exact w8.2.2.2.2.2⟩ mj_up_eq (by omega) (by omega) (by omega) (z_ge_tr gs g)
/-- cons -/
theorem x_ap4 {A B : Nat → Int} {st : Nat} {K : z_K} {σ0 τ0 : mj_S} {S0 fuel d : Nat} {Q : mj_Q} {y : Int} {τs : mj_S} {n : Nat} (CX : z_CX A B st K σ0 τ0 S0 fuel Q τs) (IH : z_IH A B st K σ0 τ0 S0 fuel d Q y τs n) (hn : n < 999000) {σ τ : mj_S} {m : Nat} {fn : Bool} {a : Nat} {E E' : List (Int × Int)} {pl pl' b fb : Nat} {hole : Int} {bg fr q u S : Nat} {be : Nat → Nat} {G : Nat → Bool}
    (W : z_XW A B st σ0 τ0 n σ τ (fb + pl) S fuel be G) (rest : z_jc A B st K σ τ m fn b E' pl' fb hole bg fr q u) (h10 : σ 7 10 = a) (h26 : τ 0 26 = (m : Int) + 1) (hm : m < 2700) (SP : z_SP σ τ fn E fb hole bg fr) (hne : z_ne τ fb pl hole) (hb : n + (fb + pl) + (u + 3) + 20 * S0 ≤ 20 * S + (if τ 16 m = 1 then 10 else 0)) (gs : z_ge τs τ) {s x t : Int} {p0 : Nat} (hv : τ 16 m = 13 ∧ τ 17 m = x ∧ τ 18 m = s ∧ τ 19 m = t) (c1 : s = 10) (c2 : pl = p0 + 2) (c3 : z_eb (hole - fb) E p0) (c4 : z_in K a (268435456 + s) 0 0) (c6 : b = a + 1) (c7 : E' = E) (c8 : pl' = p0 + 1) : qh_c90_22 (d + 30) Q y (n : Int) σ := by
  subst c7 c8
  obtain ⟨hK, hK4⟩ := z_CX_K CX W
  have W0 := W
  obtain ⟨w1, w2, w3, w4, w5, w6, w7, w8, w9⟩ := W0
  have hbd := z_H_b w3
  have hp := c3.1
  rw [hv.1, if_neg (by decide)] at hb
  subst c1 c2
  have act : ∀ τ', (∀ (d' : Nat) (Q' : mj_Q), Q' none τ' → mj_B mjm_L mjm_Ms (d' + 5) 48 [.inr (.inl 0)] (mj_up τ 0 26 (m : Int)) Q') → z_ge τ τ' := fun τ' hl => by
    refine r_turn h26 (by omega) w9 (fun d Q hq => ?_)
    rw [hv.1, hv.2.1, hv.2.2.1, hv.2.2.2]
    refine wq_m41 (d := d + 27) ⟨fun z => absurd z (by decide), fun z => absurd z (by decide), fun z => absurd z (by decide), fun z => absurd z (by decide), fun z => absurd z (by decide), fun z => absurd z (by decide), fun z => absurd z (by decide), fun z => absurd z (by decide), fun z => absurd z (by decide), fun z => absurd z (by decide), fun z => absurd z (by decide), fun z => absurd z (by decide), fun _ => ?_, fun z => absurd z (by decide), fun z => absurd ⟨by decide, by decide⟩ z⟩
    exact wq_m53 (d := d + 26) ⟨fun z => absurd rfl z, fun _ => hl (d + 23) _ ⟨rfl, rfl, hq⟩⟩
  refine c_turn (by omega) hK hK4 h10 c4 (by omega) (fun ha => c_cons h10 ha (fun σ1 f1 f2 => ?_))
  have o1 : ∀ q k, ¬ (q = 0 ∧ k = 26) → mj_up τ 0 26 (m : Int) q k = τ q k := fun q k z => mj_up_ne z
  have W1 : z_XW A B st σ0 τ0 n σ1 (mj_up τ 0 26 (m : Int)) (fb + p0 + 2) S fuel be G := xw_dn W (Nat.le_refl _) (Nat.le_refl _) (fun q k z => f1 q k (by omega)) (fun q k z => o1 q k (by omega)) (by rw [f1 7 7 (by omega)]; exact w6.2.1) (by rw [o1 0 31 (by omega)]; exact w6.2.2)
  refine t_cons (d := d + 19) (h := fb + p0) W1 (by rw [o1 20 _ (by omega)]; exact hne _ (by omega) (by omega) (by omega)) (by rw [o1 20 _ (by omega)]; exact hne _ (by omega) (by omega) (by omega)) CX.2.2.2.1 (by have := W1.2.2.2.1; have := CX.2.2.2.2.1; omega) (fun σ' τ' be' G' g1 g2 g3 g4 g5 => ⟨0, rfl, 0, rfl, fun _ => ?_, fun z => absurd rfl z⟩) (fun σ' τ' g1 g2 => ⟨6, rfl, 6, rfl, fun z => absurd z (by decide), fun _ => ?_⟩)
  · have o' : ∀ q k, (q = 0 ∧ (k = 33 ∨ k = 36 ∨ k = 37 ∨ k = 38)) ∨ (16 ≤ q ∧ q ≤ 19) ∨ (21 ≤ q ∧ q ≤ 23) ∨ (q = 20 ∧ k < fb + p0) → τ' q k = τ q k := fun q k z => by rw [g3 q k (by omega), o1 q k (by omega)]
    refine IH (n + 1) (by omega) σ' τ' m fn b E' (p0 + 1) fb hole bg fr q u S be' G' (cf_mk g1 (z_jc_fr (fun q k z => by rw [g2 q k (by omega), f1 q k (by omega)]) (fun q k z => o' q k (by omega)) rest) (by rw [g2 7 10 (by omega), f2, c6]) (by rw [g3 0 26 (by omega), mj_up_eq]) SP (fun k hk => by rw [g2 7 k (by omega), f1 7 k (by omega)]) (fun q k z => o' q k (by omega)) (fun i i1 i2 i3 => ?_) (by omega)) (z_ge_tr gs (act τ' g5))
    by_cases e : i = fb + p0
    · rw [e]; exact g4
    · rw [o' 20 i (by omega)]; exact hne i i1 (by omega) i3
  · exact CX.2.2.2.2.2.2.2 6 σ' τ' (n + 1) S g1 (by omega) (z_ge_tr gs (act τ' g2))
/-- equal -/
theorem c_eq {σ : mj_S} {a h : Nat} {x y : Int} {fuel S d : Nat} {Q : mj_Q} (ha : σ 7 10 = a) (ha2 : a < 2400) (h7 : σ 7 7 = (h : Int) + 2) (hh : h + 1 < 100) (h11 : σ 7 11 = fuel) (h12 : σ 7 12 = S) (hf : fuel ≤ 20000) (hS : S ≤ fuel)
    (hq : ∀ σ3, (∀ q k, ¬ ((q = 7 ∧ k = 10) ∨ (q = 2 ∧ k = 11) ∨ (q = 16 ∧ k = 0) ∨ (q = 17 ∧ k = 0)) → σ3 q k = σ q k) → σ3 7 10 = ((a + 1 : Nat) : Int) → σ3 2 11 = 0 → σ3 16 0 = σ 29 h → σ3 17 0 = σ 29 (h + 1) → qh_c32_25 (d + 27) (fun r σ1 => ∃ v2, r = some (.inl v2) ∧ mj_r ((σ1 7 12) + (σ1 2 11)) ∧ ∀ σ3, σ3 = mj_up σ1 7 12 ((σ1 7 12) + (σ1 2 11)) → (¬ v2 = 2 → (¬ v2 = 0 → mj_B mjc_L mjc_Ms (d + 28) 96 [.inr (.inl 7), .inl 2, .inl (z_tr 0)] σ3 (fun r σ4 => ∃ v5, r = some (.inl v5) ∧ ∃ v, some (.inl v5 : mj_V) = some (.inl v) ∧ Q (some (.inl v)) σ4)) ∧ (v2 = 0 → mj_B mjc_L mjc_Ms (d + 28) 96 [.inr (.inl 7), .inl 2, .inl (z_tr 1)] σ3 (fun r σ6 => ∃ v7, r = some (.inl v7) ∧ ∃ v, some (.inl v7 : mj_V) = some (.inl v) ∧ Q (some (.inl v)) σ6))) ∧ (v2 = 2 → ∃ v, some (.inl 5 : mj_V) = some (.inl v) ∧ Q (some (.inl v)) σ3)) (σ 29 h) (σ 29 (h + 1)) ((fuel - S : Nat) : Int) 1 0 σ3) : mj_B mjc_L mjc_Ms (d + 30) 91 [.inr (.inl 7), .inl 268435472, .inl x, .inl y] σ Q := by
  refine wq_c91 (d := d + 28) ⟨by unfold mj_r; omega, fun σ1 e1 => ⟨fun z => absurd z (by decide), fun z => absurd z (by decide), fun z => absurd z (by decide), fun z => absurd z (by decide), fun z => absurd z (by decide), fun z => absurd z (by decide), fun z => absurd z (by decide), fun z => absurd z (by decide), fun z => absurd z (by decide), fun z => absurd z (by decide), fun z => absurd z (by decide), fun z => absurd z (by decide), fun _ => ?_, fun z => absurd z (by decide), fun z => absurd rfl (z.2.2.2.2.2.2.2.2.2.2.2.2.1)⟩⟩
  rw [ha, show (a : Int) + 1 = ((a + 1 : Nat) : Int) by omega] at e1
  have o1 : ∀ q k, ¬ (q = 7 ∧ k = 10) → σ1 q k = σ q k := fun q k z => by rw [e1, mj_up_ne z]
  have a1 : σ1 7 10 = ((a + 1 : Nat) : Int) := by rw [e1, mj_up_eq]
  have g7 : σ1 7 7 = (h : Int) + 2 := by rw [o1 7 7 (by omega)]; exact h7
  have eb : z_bl σ1 0 = σ 29 (h + 1) := by
    have := t_bl (σ := σ1) (h := h + 1) (k := 0) (by rw [g7]; omega) hh
    rw [← o1 29 _ (by omega)]; exact this
  have eb1 : z_bl σ1 1 = σ 29 h := by
    have := t_bl (σ := σ1) (h := h) (k := 1) (by rw [g7]; omega) (by omega)
    rw [← o1 29 h (by omega)]; exact this
  refine wq_c106 (d := d + 27) ⟨by unfold mj_r; omega, by unfold mj_r; omega, by unfold mj_r; omega, by unfold mj_r; omega, by rw [o1 7 11 (by omega), o1 7 12 (by omega)]; unfold mj_r; omega, ?_⟩
  rw [eb, eb1, o1 7 11 (by omega), o1 7 12 (by omega), h11, h12, show (fuel : Int) - (S : Int) = ((fuel - S : Nat) : Int) by omega]
  refine wq_c32 (d := d + 26) (fun s1 e1' => ⟨by decide, by decide, fun s2 e2 => ⟨by decide, by decide, fun s3 e3 => ?_⟩⟩)
  refine hq s3 (fun q k z => ?_) ?_ ?_ ?_ ?_
  · rw [e3, mj_up_ne (by show ¬ (q = 17 ∧ k = 0); omega), e2, mj_up_ne (by show ¬ (q = 16 ∧ k = 0); omega), e1', mj_up_ne (by omega)]; exact o1 q k (by omega)
  · rw [e3, mj_up_ne (by omega), e2, mj_up_ne (by omega), e1', mj_up_ne (by omega)]; exact a1
  · rw [e3, mj_up_ne (by omega), e2, mj_up_ne (by omega), e1', mj_up_eq]
  · rw [e3, mj_up_ne (by omega), e2]; exact mj_up_eq
  · rw [e3]; exact mj_up_eq
set_option maxHeartbeats 1000000 in
theorem x_ap5 {A B : Nat → Int} {st : Nat} {K : z_K} {σ0 τ0 : mj_S} {S0 fuel d : Nat} {Q : mj_Q} {y : Int} {τs : mj_S} {n : Nat} (CX : z_CX A B st K σ0 τ0 S0 fuel Q τs) (IH : z_IH A B st K σ0 τ0 S0 fuel d Q y τs n) (hn : n < 999000) {σ τ : mj_S} {m : Nat} {fn : Bool} {a : Nat} {E E' : List (Int × Int)} {pl pl' b fb : Nat} {hole : Int} {bg fr q u S : Nat} {be : Nat → Nat} {G : Nat → Bool}
    (W : z_XW A B st σ0 τ0 n σ τ (fb + pl) S fuel be G) (rest : z_jc A B st K σ τ m fn b E' pl' fb hole bg fr q u) (h10 : σ 7 10 = a) (h26 : τ 0 26 = (m : Int) + 1) (hm : m < 2700) (SP : z_SP σ τ fn E fb hole bg fr) (hne : z_ne τ fb pl hole) (hb : n + (fb + pl) + (u + 3) + 20 * S0 ≤ 20 * S + (if τ 16 m = 1 then 10 else 0)) (gs : z_ge τs τ) {s x t : Int} {p0 : Nat} (hv : τ 16 m = 13 ∧ τ 17 m = x ∧ τ 18 m = s ∧ τ 19 m = t) (c1 : s = 16) (c2 : pl = p0 + 2) (c3 : z_eb (hole - fb) E p0) (c4 : z_in K a (268435456 + s) 0 0) (c6 : b = a + 1) (c7 : E' = E) (c8 : pl' = p0 + 1) : qh_c90_22 (d + 30) Q y (n : Int) σ := by
  subst c7 c8
  obtain ⟨hK, hK4⟩ := z_CX_K CX W
  have W0 := W
  obtain ⟨w1, w2, w3, w4, w5, w6, w7, w8, w9⟩ := W0
  have hbd := z_H_b w3
  have hp := c3.1
  rw [hv.1, if_neg (by decide)] at hb
  subst c1
  have ht0 : 0 ≤ τ 20 (fb + p0) := hne (fb + p0) (by omega) (by omega) (by omega)
  have ht1 : 0 ≤ τ 20 (fb + p0 + 1) := hne (fb + p0 + 1) (by omega) (by omega) (by omega)
  have v0 := z_pv_v (w5 (fb + p0) (by omega)) ht0
  have v1 := z_pv_v (w5 (fb + p0 + 1) (by omega)) ht1
  obtain ⟨k1, k2, k3⟩ := @z_t2_f τ m (fb + p0)
  have h77 : σ 7 7 = ((fb + p0 : Nat) : Int) + 2 := by rw [w6.2.1]; omega
  -- the reference comes to its comparison
  have act : ∀ τ' : mj_S, (∀ (d' : Nat) (Q' : mj_Q), (∃ (b : Int) (τ1 : mj_S), τ' = z_pu τ1 (z_tr b) ∧ 0 ≤ τ1 0 31 ∧ τ1 0 31 ≤ 100 ∧ (Q' (some (.inl b)) τ1 → qh_m36_17 (d' + 2) Q' (τ 20 (fb + p0)) (τ 20 (fb + p0 + 1)) 1 2 (mj_up (mj_up (z_t2 τ m (fb + p0)) 8 0 (τ 20 (fb + p0))) 8 1 (τ 20 (fb + p0 + 1)))))) → z_ge τ τ' := fun τ' hl => by
    refine r_b0 (h := fb + p0) h26 (by omega) w9 hv (by omega) (by rw [w6.2.2]; omega) (by omega) (fun d Q hq => qw_m53_37 (d := d + 26) ⟨fun _ => ⟨fun z => absurd rfl z, fun _ => ?_⟩, fun z => absurd z (by decide)⟩)
    refine wq_m36 (d := d + 25) ⟨by decide, by decide, fun s1 e1 => ⟨by decide, by decide, fun s2 e2 => ?_⟩⟩
    obtain ⟨b, τ1, q1, q2, q3, q4⟩ := hl (d + 25) (fun r σ18 => ∃ v19, r = some (.inl v19) ∧ 0 ≤ σ18 0 31 ∧ σ18 0 31 ≤ 100 ∧ ∀ σ20, σ20 = z_pu σ18 (z_tr v19) → (none : Option mj_V) = none ∧ Q none σ20)
    rw [e2, e1]
    exact q4 ⟨b, rfl, q2, q3, fun σ20 e20 => ⟨rfl, by rw [e20, ← q1]; exact hq⟩⟩
  generalize hτc : mj_up (mj_up (z_t2 τ m (fb + p0)) 8 0 (τ 20 (fb + p0))) 8 1 (τ 20 (fb + p0 + 1)) = τc at act
  have oc : ∀ q k, ¬ ((q = 0 ∧ (k = 26 ∨ k = 31)) ∨ q = 8) → τc q k = τ q k := fun q k z => by rw [← hτc, mj_up_ne (by omega), mj_up_ne (by omega), k1 q k (by omega)]
  have oc26 : τc 0 26 = m := by rw [← hτc, mj_up_ne (by omega), mj_up_ne (by omega), k2]
  have oc31 : τc 0 31 = ((fb + p0 : Nat) : Int) := by rw [← hτc, mj_up_ne (by omega), mj_up_ne (by omega), k3]
  have oc8 : τc 8 0 = τ 20 (fb + p0) ∧ τc 8 1 = τ 20 (fb + p0 + 1) := by rw [← hτc]; exact ⟨by rw [mj_up_ne (by omega), mj_up_eq], mj_up_eq⟩
  have e4 : τc 4 = τ 4 := by funext k; exact oc 4 k (by omega)
  have e5 : τc 5 = τ 5 := by funext k; exact oc 5 k (by omega)
  refine c_turn (by omega) hK hK4 h10 c4 (by omega) (fun ha => c_eq (h := fb + p0) (fuel := fuel) (S := S) h10 ha h77 (by omega) w8.2.2.1 w8.2.2.2.2.1 w8.2.1 w8.1 (fun σ3 f1 f2 f3 f4 f5 => ?_))
  have e11 : σ3 11 = σ 11 := by funext k; exact f1 11 k (by omega)
  have e12 : σ3 12 = σ 12 := by funext k; exact f1 12 k (by omega)
  have w3' := w3
  obtain ⟨hsa, sz, fo, ga, U, tm, ck, HP, hGU, hg, hck⟩ := w3'
  refine t_same (A := A) (B := B) (st := st) (be := be) (G := G) (tm := tm) (S := S) (fuel := fuel) (σ0 := σ3) (τ0 := τc) (b1 := τ 20 (fb + p0)) (b2 := τ 20 (fb + p0 + 1)) (d := d + 26) hbd (z_H_i w3) w8.1 w8.2.1 (by rw [e11, e12, e4, e5]; exact hsa) (by rw [e11, e12, e4, e5]; exact hg) (by rw [oc 0 5 (by omega)]; exact w9) (by rw [oc 0 40 (by omega)]; exact w8.2.2.2.1) ?_ ?_ (2 * (fuel - S - 0) + 1) σ3 τc 1 0 0 (by omega) (fun _ _ _ => rfl) (fun _ _ _ => rfl) (by rw [f3]; rfl) (by rw [oc 0 41 (by omega)]; exact w8.2.2.2.2.2) w8.1 (by omega) (by omega) (fun i hi => ?_) (fun d' Q' hq => hq)
  · intro v σ4 τ4 K fc fm h2 h41 hK' hvv gq
    have hσ4 : ∀ q k, ¬ ((q = 7 ∧ k = 10) ∨ (q = 2 ∧ k = 11) ∨ q = 16 ∨ q = 17) → σ4 q k = σ q k := fun q k z => by rw [fc q k (by omega), f1 q k (by omega)]
    have e712 : σ4 7 12 = S := by rw [hσ4 7 12 (by omega)]; exact w8.2.2.2.2.1
    refine ⟨v, rfl, by rw [e712, h2]; unfold mj_r; omega, fun σ5 e5' => ?_⟩
    rw [e712, h2] at e5'
    have o5 : ∀ q k, ¬ ((q = 7 ∧ (k = 10 ∨ k = 12)) ∨ (q = 2 ∧ k = 11) ∨ q = 16 ∨ q = 17) → σ5 q k = σ q k := fun q k z => by rw [e5', mj_up_ne (by omega)]; exact hσ4 q k (by omega)
    have g7 : σ5 7 7 = ((fb + p0 : Nat) : Int) + 2 := by rw [o5 7 7 (by omega)]; exact h77
    have g10 : σ5 7 10 = ((a + 1 : Nat) : Int) := by rw [e5', mj_up_ne (by omega), fc 7 10 (by omega)]; exact f2
    have o4 : ∀ q k, ¬ ((q = 0 ∧ (k = 26 ∨ k = 31 ∨ k = 41)) ∨ q = 8) → τ4 q k = τ q k := fun q k z => by rw [fm q k (by omega), oc q k (by omega)]
    have e426 : τ4 0 26 = m := by rw [fm 0 26 (by omega)]; exact oc26
    have e431 : τ4 0 31 = ((fb + p0 : Nat) : Int) := by rw [fm 0 31 (by omega)]; exact oc31
    have g := act (z_pu τ4 (z_tr (1 - v))) (fun d' Q' => ⟨1 - v, τ4, rfl, by rw [e431]; omega, by rw [e431]; omega, fun hq => gq d' Q' hq⟩)
    have fin : ∀ σ', (∀ q k, ¬ ((q = 29 ∧ k = fb + p0) ∨ (q = 7 ∧ (k = 7 ∨ k = 13))) → σ' q k = σ5 q k) → σ' 29 (fb + p0) = z_tr (1 - v) → σ' 7 7 = ((fb + p0 : Nat) : Int) + 1 → σ' 7 13 = (if σ5 7 13 < ((fb + p0 : Nat) : Int) + 1 then ((fb + p0 : Nat) : Int) + 1 else σ5 7 13) → qh_c90_22 (d + 30) Q y ((n + 1 : Nat) : Int) σ' := fun σ' r1 r2 r3 r4 =>
      x_res IH W rest SP hne (p0 := p0) (S' := S + K) (X := z_tr (1 - v)) (Y := z_tr (1 - v)) (τb := τ4) rfl rfl (by omega) (by omega) (by omega) (fun q k z => by rw [r1 q k (by omega), o5 q k (by omega)]) (by rw [r1 7 10 (by omega), g10, c6]) r2 r3 (by rw [r4, o5 7 13 (by omega)]) (by rw [r1 7 12 (by omega), e5', mj_up_eq]; omega) (fun q k z => o4 q k (by omega)) e426 e431 h41 hK' (z_dt_vl (z_tr_dt _)) (by omega) (z_ge_tr gs g)
    refine ⟨fun _ => ⟨fun z => ?_, fun z => ?_⟩, fun z => absurd z (by omega)⟩
    · have hv1 : v = 1 := by omega
      subst hv1
      exact t_c96 (d := d + 26) (h := fb + p0) (t := 2) (by rw [g7]; omega) (by omega) (by omega) (fun σ' r1 r2 r3 r4 => ⟨0, rfl, 0, rfl, 0, rfl, fun _ => fin σ' r1 r2 r3 r4, fun z => absurd rfl z⟩)
    · subst z
      exact t_c96 (d := d + 26) (h := fb + p0) (t := 2) (by rw [g7]; omega) (by omega) (by omega) (fun σ' r1 r2 r3 r4 => ⟨0, rfl, 0, rfl, 0, rfl, fun _ => fin σ' r1 r2 r3 r4, fun z => absurd rfl z⟩)
  · intro σ4 τ4 fc fm h2 h41 h5 gq
    have hσ4 : ∀ q k, ¬ ((q = 7 ∧ k = 10) ∨ (q = 2 ∧ k = 11) ∨ q = 16 ∨ q = 17) → σ4 q k = σ q k := fun q k z => by rw [fc q k (by omega), f1 q k (by omega)]
    have e712 : σ4 7 12 = S := by rw [hσ4 7 12 (by omega)]; exact w8.2.2.2.2.1
    refine ⟨2, rfl, by rw [e712, h2]; unfold mj_r; omega, fun σ5 e5' => ⟨fun z => absurd rfl z, fun _ => ⟨5, rfl, 5, rfl, fun z => absurd z (by decide), fun _ => ?_⟩⟩⟩
    rw [e712, h2] at e5'
    have o5 : ∀ q k, ¬ ((q = 7 ∧ (k = 10 ∨ k = 12)) ∨ (q = 2 ∧ k = 11) ∨ q = 16 ∨ q = 17) → σ5 q k = σ q k := fun q k z => by rw [e5', mj_up_ne (by omega)]; exact hσ4 q k (by omega)
    have e431 : τ4 0 31 = ((fb + p0 : Nat) : Int) := by rw [fm 0 31 (by omega)]; exact oc31
    have e442 : τ4 0 42 = τ 0 42 := by rw [fm 0 42 (by omega), oc 0 42 (by omega)]
    have g := act (z_pu τ4 (z_tr 0)) (fun d' Q' => ⟨0, τ4, rfl, by rw [e431]; omega, by rw [e431]; omega, fun hq => gq d' Q' hq⟩)
    obtain ⟨u1, u2, u3, u4⟩ := z_pu_1 (x := z_tr 0) e431 (by omega)
    refine x_err CX W (n' := n + 1) (S' := fuel) (by omega) (fun q k z => o5 q k (by omega)) (fun q k z => ?_) ⟨Nat.le_refl _, by rw [e5', mj_up_eq]; omega, by rw [u1 0 41 (by omega)]; exact h41⟩ (by rw [u1 0 5 (by omega)]; exact h5) (by omega) (by omega) (by omega) (z_ge_tr gs g)
    by_cases e : q = 0 ∧ k = 42
    · rw [e.1, e.2, u4, e442, if_neg (by omega)]
    · rw [u1 q k (by omega), fm q k (by omega), oc q k (by omega)]
  · have : i = 0 := by omega
    subst this
    rw [f4, f5, show 2 * 0 = 0 from rfl, show 0 + 1 = 1 from rfl, oc8.1, oc8.2]
    exact ⟨v0, v1, z_rk_vl v0⟩
theorem x_apply {A B : Nat → Int} {st : Nat} {K : z_K} {σ0 τ0 : mj_S} {S0 fuel d : Nat} {Q : mj_Q} {y : Int} {τs : mj_S} {n : Nat} (CX : z_CX A B st K σ0 τ0 S0 fuel Q τs) (IH : z_IH A B st K σ0 τ0 S0 fuel d Q y τs n) (hn : n < 999000) {σ τ : mj_S} {m : Nat} {fn : Bool} {a : Nat} {E E' : List (Int × Int)} {pl pl' b fb : Nat} {hole : Int} {bg fr q u S : Nat} {be : Nat → Nat} {G : Nat → Bool}
    (W : z_XW A B st σ0 τ0 n σ τ (fb + pl) S fuel be G) (rest : z_jc A B st K σ τ m fn b E' pl' fb hole bg fr q u) (h10 : σ 7 10 = a) (h26 : τ 0 26 = (m : Int) + 1) (hm : m < 2700) (SP : z_SP σ τ fn E fb hole bg fr) (hne : z_ne τ fb pl hole) (hb : n + (fb + pl) + (u + 3) + 20 * S0 ≤ 20 * S + (if τ 16 m = 1 then 10 else 0)) (gs : z_ge τs τ) {s x t : Int} {p0 : Nat} (hv : τ 16 m = 13 ∧ τ 17 m = x ∧ τ 18 m = s ∧ τ 19 m = t) (c1 : 10 ≤ s ∧ s ≤ 20) (c2 : pl = p0 + (z_ar (268435456 + s)).toNat) (c3 : z_eb (hole - fb) E p0) (c4 : z_in K a (268435456 + s) 0 0) (c6 : b = a + 1) (c7 : E' = E) (c8 : pl' = p0 + 1) : qh_c90_22 (d + 30) Q y (n : Int) σ := by
  have two : s = 10 ∨ (16 ≤ s ∧ s ≤ 19) → pl = p0 + 2 := fun z => by
    rw [c2]; unfold z_ar; rw [if_pos (by omega)]; rfl
  have one : (11 ≤ s ∧ s ≤ 15) ∨ s = 20 → pl = p0 + 1 := fun z => by
    rw [c2]; unfold z_ar; rw [if_neg (by omega)]; rfl
  by_cases e1 : s = 10
  · exact x_ap4 CX IH hn W rest h10 h26 hm SP hne hb gs hv e1 (two (by omega)) c3 c4 c6 c7 c8
  by_cases e2 : s ≤ 15
  · exact x_ap1 CX IH hn W rest h10 h26 hm SP hne hb gs hv (by omega) (one (by omega)) c3 c4 c6 c7 c8
  by_cases e3 : s = 16
  · exact x_ap5 CX IH hn W rest h10 h26 hm SP hne hb gs hv e3 (two (by omega)) c3 c4 c6 c7 c8
  by_cases e4 : s = 20
  · exact x_ap3 CX IH hn W rest h10 h26 hm SP hne hb gs hv e4 (one (by omega)) c3 c4 c6 c7 c8
  · exact x_ap2 CX IH hn W rest h10 h26 hm SP hne hb gs hv (by omega) (two (by omega)) c3 c4 c6 c7 c8
