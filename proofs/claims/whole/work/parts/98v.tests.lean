/-- the reference: test of a clause -/
theorem r_cond {A B : Nat → Int} {st : Nat} {τ : mj_S} (hst : st ≤ 400) (hs : z_sb A B (τ 4) (τ 5) st) {m h : Nat} {x n t : Int} (h26 : τ 0 26 = (m : Int) + 1) (hm : m < 3000) (h5 : τ 0 5 = 0) (hv : τ 16 m = 7 ∧ τ 17 m = x ∧ τ 18 m = n ∧ τ 19 m = t) (ht : t = 0 ∨ t = 1) (hD : z_dt A B st x) (hx : 536870912 ≤ x) (hcl : z_isl B (z_cd A x) 2) (h31 : τ 0 31 = (h : Int) + 1) (hh : h < 100) : (τ 20 h = 268435456 → z_ge τ (z_l1 (mj_up (mj_up τ 0 26 (m : Int)) 0 31 (h : Int)) m 6 (z_cd B x) 0 t)) ∧ (¬ τ 20 h = 268435456 → z_ge τ (z_l1 (mj_up (mj_up τ 0 26 (m : Int)) 0 31 (h : Int)) m 1 (z_el A B (z_cd A x) 1) 0 t)) := by
  obtain ⟨x1, x2, x3⟩ := z_dt_cd hD hx
  obtain ⟨y1, y2⟩ := z_sb_cd hs hD hx
  have hpx : z_pr x := ⟨hx, by have := z_dt_r hD; omega⟩
  have key : ∀ (d : Nat) (Q : mj_Q), (τ 20 h = 268435456 → Q none (z_l1 (mj_up (mj_up τ 0 26 (m : Int)) 0 31 (h : Int)) m 6 (z_cd B x) 0 t)) → (¬ τ 20 h = 268435456 → Q none (z_l1 (mj_up (mj_up τ 0 26 (m : Int)) 0 31 (h : Int)) m 1 (z_el A B (z_cd A x) 1) 0 t)) → mj_B mjm_L mjm_Ms (d + 30) 41 [.inr (.inl 0), .inl (τ 16 m), .inl (τ 17 m), .inl (τ 18 m), .inl (τ 19 m)] (mj_up τ 0 26 (m : Int)) Q := fun d Q h1 h2 => by
    rw [hv.1, hv.2.1, hv.2.2.1, hv.2.2.2]
    have c31 : mj_up τ 0 26 (m : Int) 0 31 = (h : Int) + 1 := by rw [mj_up_ne (by omega)]; exact h31
    refine wq_m41 (d := d + 27) ⟨fun z => absurd z (by decide), fun z => absurd z (by decide), fun z => absurd z (by decide), fun z => absurd z (by decide), fun z => absurd z (by decide), fun z => absurd z (by decide), fun _ => ?_, fun z => absurd z (by decide), fun z => absurd z (by decide), fun z => absurd z (by decide), fun z => absurd z (by decide), fun z => absurd z (by decide), fun z => absurd z (by decide), fun z => absurd z (by decide), fun z => absurd ⟨by decide, by decide⟩ z⟩
    rw [c31, show (h : Int) + 1 - 1 = h by omega, Int.toNat_natCast]
    refine ⟨by omega, by omega, fun σ8 e8 => ?_⟩
    have o8 : ∀ q k, ¬ (q = 0 ∧ (k = 26 ∨ k = 31)) → σ8 q k = τ q k := fun q k z => by rw [e8, mj_up_ne (by omega), mj_up_ne (by omega)]
    have c26 : σ8 0 26 = m := by rw [e8, mj_up_ne (by omega), mj_up_eq]
    have c4 : σ8 4 = τ 4 := by funext k; exact o8 4 k (by omega)
    have c5 : σ8 5 = τ 5 := by funext k; exact o8 5 k (by omega)
    have c20 : mj_up τ 0 26 (m : Int) 20 h = τ 20 h := mj_up_ne (by omega)
    rw [c20, c4, c5, y1, y2]
    refine ⟨fun z => ⟨hpx, by omega, by omega, ht, fun σ9 e9 => ?_⟩, fun z => ⟨hpx, ?_⟩⟩
    · rw [e9, z_la_1 c26, e8]
      exact h1 z
    · refine x_m8 (A := A) (B := B) (d := d + 27) (k := 1) (n := 2) hst (by rw [c4, c5]; exact hs) x2 hcl.1 (by omega) ⟨_, rfl, by omega, by omega, ht, fun σ9 e9 => ?_⟩
      rw [e9, z_la_1 c26, e8]
      exact h2 z
  exact ⟨fun z => r_turn h26 hm h5 (fun d Q hq => key d Q (fun _ => hq) (fun z2 => absurd z z2)), fun z => r_turn h26 hm h5 (fun d Q hq => key d Q (fun z2 => absurd z2 z) (fun _ => hq))⟩
set_option maxHeartbeats 1000000 in
theorem x_cond {A B : Nat → Int} {st : Nat} {K : z_K} {σ0 τ0 : mj_S} {S0 fuel d : Nat} {Q : mj_Q} {y : Int} {τs : mj_S} {n : Nat} (CX : z_CX A B st K σ0 τ0 S0 fuel Q τs) (IH : z_IH A B st K σ0 τ0 S0 fuel d Q y τs n) (hn : n < 999000) {σ τ : mj_S} {m : Nat} {fn : Bool} {a : Nat} {E E' : List (Int × Int)} {pl pl' b fb : Nat} {hole : Int} {bg fr q u S : Nat} {be : Nat → Nat} {G : Nat → Bool}
    (W : z_XW A B st σ0 τ0 n σ τ (fb + pl) S fuel be G) (rest : z_jc A B st K σ τ m fn b E' pl' fb hole bg fr q u) (h10 : σ 7 10 = a) (h26 : τ 0 26 = (m : Int) + 1) (hm : m < 2700) (SP : z_SP σ τ fn E fb hole bg fr) (hne : z_ne τ fb pl hole) (hb : n + (fb + pl) + (u + 3) + 20 * S0 ≤ 20 * S + (if τ 16 m = 1 then 10 else 0)) (gs : z_ge τs τ) {x n' t : Int} (hv : τ 16 m = 7 ∧ τ 17 m = x ∧ τ 18 m = n' ∧ τ 19 m = t) (hD : z_dt A B st x) {k : Nat} {tl : Bool} {p0 c : Nat} (c3 : m + 1 + 2 * k ≤ q + 24) (c4 : z_tl fn tl t) (c5 : pl = p0 + 1) (c6 : z_eb (hole - fb) E p0) (c7 : 536870912 ≤ x) (c7' : z_isl B (z_el A B x 0) 2) (c8 : z_in K a 5 ((c : Int) + 1) 0) (c9 : z_C A B K k E (z_el A B (z_el A B x 0) 1) p0 tl (a + 1) c) (c10 : z_in K c 4 (b : Int) 0) (c11 : z_cls A B K k E (z_cd B x) p0 tl (c + 1) b) (c12 : E' = E) (c13 : pl' = pl) : qh_c90_22 (d + 30) Q y (n : Int) σ := by
  subst c12 c13 c5
  obtain ⟨hK, hK4⟩ := z_CX_K CX W
  have hs := z_XW_sb W
  have W0 := W
  obtain ⟨w1, w2, w3, w4, w5, w6, w7, w8, w9⟩ := W0
  have hbd := z_H_b w3
  have htop : 0 ≤ τ 20 (fb + p0) := hne (fb + p0) (by omega) (by omega) (by have := c6.1; omega)
  have hval := z_pv_v (w5 (fb + p0) (by omega)) htop
  have hnil := z_vl_nil hbd hval 268435456 (by decide)
  obtain ⟨ga, gb⟩ := r_cond CX.1 hs (h := fb + p0) h26 (by omega) w9 hv (z_tl_b c4) hD c7 c7' (by rw [w6.2.2]; omega) (by omega)
  obtain ⟨dx1, dx2, dx3⟩ := z_dt_cd hD c7
  have go : ∀ (w' x' : Int) (τ' σ' : mj_S) (a' u1 : Nat), τ' = z_l1 (mj_up (mj_up τ 0 26 (m : Int)) 0 31 ((fb + p0 : Nat) : Int)) m w' x' 0 t → (∀ q k, ¬ (q = 7 ∧ (k = 7 ∨ k = 10)) → σ' q k = σ q k) → σ' 7 7 = ((fb + p0 : Nat) : Int) → σ' 7 10 = (a' : Int) → ¬ w' = 15 → (∃ b1, z_jt A B st K (hole - fb) m q fn w' x' 0 t E' p0 a' E' (p0 + 1) b1 ∧ z_jc A B st K σ' τ' m fn b1 E' (p0 + 1) fb hole bg fr q u1) → n + 1 + (fb + p0) + (u1 + 3) + 20 * S0 ≤ 20 * S + (if w' = 1 then 10 else 0) → z_ge τ τ' → qh_c90_22 (d + 30) Q y ((n + 1 : Nat) : Int) σ' := by
    intro w' x' τ' σ' a' u1 hτ' f1 f2 f3 hw ⟨b1, it, ch⟩ hbud g
    have o' : ∀ q k, ¬ ((16 ≤ q ∧ q ≤ 19 ∧ k = m) ∨ (q = 0 ∧ (k = 26 ∨ k = 31))) → τ' q k = τ q k := fun q k z => by rw [hτ', z_l1_o (by omega), mj_up_ne (by omega), mj_up_ne (by omega)]
    have v := @z_l1_v (mj_up (mj_up τ 0 26 (m : Int)) 0 31 ((fb + p0 : Nat) : Int)) m w' x' 0 t
    rw [← hτ'] at v
    have e31 : τ' 0 31 = ((fb + p0 : Nat) : Int) := by rw [hτ', z_l1_o (by omega), mj_up_eq]
    have e16 : τ' 16 (m + 1 - 1) = w' := v.1
    exact IH (n + 1) (by omega) σ' τ' (m + 1) fn a' E' p0 fb hole bg fr q (u1 + 3) S be G (cf_mk (xw_dn W (by omega) (by omega) (fun q k z => f1 q k (by omega)) (fun q k z => o' q k (by omega)) f2 e31) (z_jc_push v.1 v.2.1 v.2.2.1 v.2.2.2.1 hw it ch) f3 v.2.2.2.2 SP (fun k hk => f1 7 k (by omega)) (fun q k z => o' q k (by omega)) (fun i i1 i2 i3 => by rw [o' 20 i (by omega)]; exact hne i i1 (by omega) i3) (by rw [e16]; exact hbud)) (z_ge_tr gs g)
  have rest' : ∀ (w' x' : Int) (τ' σ' : mj_S), τ' = z_l1 (mj_up (mj_up τ 0 26 (m : Int)) 0 31 ((fb + p0 : Nat) : Int)) m w' x' 0 t → (∀ q k, ¬ (q = 7 ∧ (k = 7 ∨ k = 10)) → σ' q k = σ q k) → z_jc A B st K σ' τ' m fn b E' (p0 + 1) fb hole bg fr q u := fun w' x' τ' σ' hτ' f1 => z_jc_fr (fun q k z => f1 q k (by omega)) (fun q k z => by rw [hτ', z_l1_o (by omega), mj_up_ne (by omega), mj_up_ne (by omega)]) rest
  rw [hv.1, if_neg (by decide)] at hb
  refine c_turn (by omega) hK hK4 h10 c8 (by decide) (fun ha => c_o5 (h := fb + p0) h10 ha (by rw [w6.2.1]; omega) (by omega) (fun hz σ' f1 f2 f3 => ⟨0, rfl, fun _ => ?_, fun z => absurd rfl z⟩) (fun hz σ' f1 f2 f3 => ⟨0, rfl, fun _ => ?_, fun z => absurd rfl z⟩))
  · exact go 6 _ _ σ' (c + 1) u rfl f1 f2 (by rw [f3]; omega) (by decide) ⟨b, Or.inr (Or.inr (Or.inr (Or.inr (Or.inr (Or.inl ⟨rfl, dx3, k, tl, c3, c4, c6, c11, rfl, rfl⟩))))), rest' _ _ _ σ' rfl f1⟩ (by rw [if_neg (by decide)]; omega) (ga (hnil.mp hz))
  · exact go 1 _ _ σ' (a + 1) (u + 1) rfl f1 f2 f3 (by decide) ⟨c, Or.inl ⟨rfl, z_dt_el dx2 c7'.1 (by omega), k, tl, by omega, c4, c6, c9, rfl, rfl⟩, z_jc_j c10 (rest' _ _ _ σ' rfl f1)⟩ (by rw [if_pos rfl]; omega) (gb (fun z => hz (hnil.mpr z)))
/-- the reference: tests of and, or -/
theorem r_tao {A B : Nat → Int} {st : Nat} {τ : mj_S} (hs : z_sb A B (τ 4) (τ 5) st) {m h : Nat} {w x n t : Int} (h26 : τ 0 26 = (m : Int) + 1) (hm : m < 3000) (h5 : τ 0 5 = 0) (hv : τ 16 m = w ∧ τ 17 m = x ∧ τ 18 m = n ∧ τ 19 m = t) (hw : w = 9 ∨ w = 11) (ht : t = 0 ∨ t = 1) (hD : z_dt A B st x) (hx : 536870912 ≤ x) (h31 : τ 0 31 = (h : Int) + 1) (hh : h < 100) : ((w = 9 ↔ τ 20 h = 268435456) → z_ge τ (mj_up τ 0 26 (m : Int))) ∧ (¬ (w = 9 ↔ τ 20 h = 268435456) → z_ge τ (z_l1 (mj_up (mj_up τ 0 26 (m : Int)) 0 31 (h : Int)) m (w - 1) (z_cd B x) 0 t)) := by
  obtain ⟨x1, x2, x3⟩ := z_dt_cd hD hx
  obtain ⟨y1, y2⟩ := z_sb_cd hs hD hx
  have hpx : z_pr x := ⟨hx, by have := z_dt_r hD; omega⟩
  have key : ∀ (d : Nat) (Q : mj_Q), ((w = 9 ↔ τ 20 h = 268435456) → Q none (mj_up τ 0 26 (m : Int))) → (¬ (w = 9 ↔ τ 20 h = 268435456) → Q none (z_l1 (mj_up (mj_up τ 0 26 (m : Int)) 0 31 (h : Int)) m (w - 1) (z_cd B x) 0 t)) → mj_B mjm_L mjm_Ms (d + 30) 41 [.inr (.inl 0), .inl (τ 16 m), .inl (τ 17 m), .inl (τ 18 m), .inl (τ 19 m)] (mj_up τ 0 26 (m : Int)) Q := fun d Q h1 h2 => by
    rw [hv.1, hv.2.1, hv.2.2.1, hv.2.2.2]
    have c31 : mj_up τ 0 26 (m : Int) 0 31 = (h : Int) + 1 := by rw [mj_up_ne (by omega)]; exact h31
    have c20 : mj_up τ 0 26 (m : Int) 20 h = τ 20 h := mj_up_ne (by omega)
    have c26 : mj_up (mj_up τ 0 26 (m : Int)) 0 31 (h : Int) 0 26 = m := by rw [mj_up_ne (by omega), mj_up_eq]
    have c5 : mj_up (mj_up τ 0 26 (m : Int)) 0 31 (h : Int) 5 = τ 5 := by funext k; rw [mj_up_ne (by omega), mj_up_ne (by omega)]
    refine wq_m41 (d := d + 27) ⟨fun z => absurd z (by omega), fun z => absurd z (by omega), fun z => absurd z (by omega), fun z => absurd z (by omega), fun z => absurd z (by omega), fun z => absurd z (by omega), fun z => absurd z (by omega), fun z => absurd z (by omega), fun _ => ?_, fun z => absurd z (by omega), fun _ => ?_, fun z => absurd z (by omega), fun z => absurd z (by omega), fun z => absurd z (by omega), fun z => absurd (by omega) z⟩
    · rw [c31, show (h : Int) + 1 - 1 = h by omega, Int.toNat_natCast, c20]
      refine ⟨by unfold mj_r; omega, by omega, by omega, fun z => h1 (by omega), fun z => ⟨by unfold mj_r; omega, fun σ8 e8 => ?_⟩⟩
      rw [e8, c5, y2, c26]
      refine ⟨hpx, by omega, by omega, ht, fun σ9 e9 => ?_⟩
      rw [e9, z_la_1 c26]
      have := h2 (by omega)
      rw [show w - 1 = 8 by omega] at this
      exact this
    · rw [c31, show (h : Int) + 1 - 1 = h by omega, Int.toNat_natCast, c20]
      refine ⟨by unfold mj_r; omega, by omega, by omega, fun z => h1 (by omega), fun z => ⟨by unfold mj_r; omega, fun σ8 e8 => ?_⟩⟩
      rw [e8, c5, y2, c26]
      refine ⟨hpx, by omega, by omega, ht, fun σ9 e9 => ?_⟩
      rw [e9, z_la_1 c26]
      have := h2 (by omega)
      rw [show w - 1 = 10 by omega] at this
      exact this
  exact ⟨fun z => r_turn h26 hm h5 (fun d Q hq => key d Q (fun _ => hq) (fun z2 => absurd z z2)), fun z => r_turn h26 hm h5 (fun d Q hq => key d Q (fun z2 => absurd z2 z) (fun _ => hq))⟩
set_option maxHeartbeats 1000000 in
theorem x_tao {A B : Nat → Int} {st : Nat} {K : z_K} {σ0 τ0 : mj_S} {S0 fuel d : Nat} {Q : mj_Q} {y : Int} {τs : mj_S} {n : Nat} (CX : z_CX A B st K σ0 τ0 S0 fuel Q τs) (IH : z_IH A B st K σ0 τ0 S0 fuel d Q y τs n) (hn : n < 999000) {σ τ : mj_S} {m : Nat} {fn : Bool} {a : Nat} {E E' : List (Int × Int)} {pl pl' b fb : Nat} {hole : Int} {bg fr q u S : Nat} {be : Nat → Nat} {G : Nat → Bool}
    (W : z_XW A B st σ0 τ0 n σ τ (fb + pl) S fuel be G) (rest : z_jc A B st K σ τ m fn b E' pl' fb hole bg fr q u) (h10 : σ 7 10 = a) (h26 : τ 0 26 = (m : Int) + 1) (hm : m < 2700) (SP : z_SP σ τ fn E fb hole bg fr) (hne : z_ne τ fb pl hole) (hb : n + (fb + pl) + (u + 3) + 20 * S0 ≤ 20 * S + (if τ 16 m = 1 then 10 else 0)) (gs : z_ge τs τ) {w x n' t : Int} (hv : τ 16 m = w ∧ τ 17 m = x ∧ τ 18 m = n' ∧ τ 19 m = t) (hw : w = 9 ∨ w = 11) (hD : z_dt A B st x) {k : Nat} {tl : Bool} {p0 : Nat} (c3 : m + 1 + 2 * k ≤ q + 24) (c4 : z_tl fn tl t) (c5 : pl = p0 + 1) (c6 : z_eb (hole - fb) E p0) (c7 : 536870912 ≤ x) (c8 : z_in K a (if w = 9 then 6 else 7) (b : Int) 0) (c9 : z_ao A B K k (if w = 9 then 6 else 7) E (z_cd B x) p0 tl (a + 1) b) (c12 : E' = E) (c13 : pl' = pl) : qh_c90_22 (d + 30) Q y (n : Int) σ := by
  subst c12 c13 c5
  obtain ⟨hK, hK4⟩ := z_CX_K CX W
  have hs := z_XW_sb W
  have W0 := W
  obtain ⟨w1, w2, w3, w4, w5, w6, w7, w8, w9⟩ := W0
  have hbd := z_H_b w3
  have htop : 0 ≤ τ 20 (fb + p0) := hne (fb + p0) (by omega) (by omega) (by have := c6.1; omega)
  have hval := z_pv_v (w5 (fb + p0) (by omega)) htop
  have hnil := z_vl_nil hbd hval 268435456 (by decide)
  obtain ⟨ga, gb⟩ := r_tao hs (h := fb + p0) h26 (by omega) w9 hv hw (z_tl_b c4) hD c7 (by rw [w6.2.2]; omega) (by omega)
  obtain ⟨dx1, dx2, dx3⟩ := z_dt_cd hD c7
  rw [hv.1, if_neg (by omega)] at hb
  have keep : (w = 9 ↔ τ 20 (fb + p0) = 268435456) → ∀ σ', (∀ q k, ¬ (q = 7 ∧ k = 10) → σ' q k = σ q k) → σ' 7 10 = (b : Int) → qh_c90_22 (d + 30) Q y ((n + 1 : Nat) : Int) σ' := fun hz σ' f1 f2 => by
    have o' : ∀ q k, ¬ (q = 0 ∧ k = 26) → mj_up τ 0 26 (m : Int) q k = τ q k := fun q k z => mj_up_ne z
    refine IH (n + 1) (by omega) σ' (mj_up τ 0 26 (m : Int)) m fn b E' (p0 + 1) fb hole bg fr q u S be G (cf_mk (xw_dn W (by omega) (Nat.le_refl _) (fun q k z => f1 q k (by omega)) (fun q k z => o' q k (by omega)) (by rw [f1 7 7 (by omega)]; exact w6.2.1) (by rw [o' 0 31 (by omega)]; exact w6.2.2)) (z_jc_fr (fun q k z => f1 q k (by omega)) (fun q k z => o' q k (by omega)) rest) f2 mj_up_eq SP (fun k hk => f1 7 k (by omega)) (fun q k z => o' q k (by omega)) (fun i i1 i2 i3 => by rw [o' 20 i (by omega)]; exact hne i i1 i2 i3) (by omega)) (z_ge_tr gs (ga hz))
  have drop : ¬ (w = 9 ↔ τ 20 (fb + p0) = 268435456) → ∀ σ', (∀ q k, ¬ (q = 7 ∧ (k = 7 ∨ k = 10)) → σ' q k = σ q k) → σ' 7 7 = ((fb + p0 : Nat) : Int) → σ' 7 10 = ((a + 1 : Nat) : Int) → qh_c90_22 (d + 30) Q y ((n + 1 : Nat) : Int) σ' := fun hz σ' f1 f2 f3 => by
    have g := gb hz
    have v := @z_l1_v (mj_up (mj_up τ 0 26 (m : Int)) 0 31 ((fb + p0 : Nat) : Int)) m (w - 1) (z_cd B x) 0 t
    have o'' : ∀ q k, ¬ ((16 ≤ q ∧ q ≤ 19 ∧ k = m) ∨ (q = 0 ∧ (k = 26 ∨ k = 31))) → z_l1 (mj_up (mj_up τ 0 26 (m : Int)) 0 31 ((fb + p0 : Nat) : Int)) m (w - 1) (z_cd B x) 0 t q k = τ q k := fun q k z => by rw [z_l1_o (by omega), mj_up_ne (by omega), mj_up_ne (by omega)]
    have e31 : z_l1 (mj_up (mj_up τ 0 26 (m : Int)) 0 31 ((fb + p0 : Nat) : Int)) m (w - 1) (z_cd B x) 0 t 0 31 = ((fb + p0 : Nat) : Int) := by rw [z_l1_o (by omega), mj_up_eq]
    generalize z_l1 (mj_up (mj_up τ 0 26 (m : Int)) 0 31 ((fb + p0 : Nat) : Int)) m (w - 1) (z_cd B x) 0 t = τ' at g v o'' e31
    have eo : (if w - 1 = 8 then (6 : Int) else 7) = (if w = 9 then 6 else 7) := by rcases hw with hw | hw <;> rw [hw] <;> rfl
    have it : z_jt A B st K (hole - fb) m q fn (w - 1) (z_cd B x) 0 t E' p0 (a + 1) E' (p0 + 1) b := Or.inr (Or.inr (Or.inr (Or.inr (Or.inr (Or.inr (Or.inr (Or.inl ⟨by omega, dx3, k, tl, c3, c4, c6, by rw [eo]; exact c9, rfl, rfl⟩)))))))
    refine IH (n + 1) (by omega) σ' τ' (m + 1) fn (a + 1) E' p0 fb hole bg fr q (u + 3) S be G (cf_mk (xw_dn W (by omega) (by omega) (fun q k z => f1 q k (by omega)) (fun q k z => o'' q k (by omega)) f2 e31) (z_jc_push v.1 v.2.1 v.2.2.1 v.2.2.2.1 (by omega) it (z_jc_fr (fun q k z => f1 q k (by omega)) (fun q k z => o'' q k (by omega)) rest)) f3 v.2.2.2.2 SP (fun k hk => f1 7 k (by omega)) (fun q k z => o'' q k (by omega)) (fun i i1 i2 i3 => by rw [o'' 20 i (by omega)]; exact hne i i1 (by omega) i3) (by omega)) (z_ge_tr gs g)
  have h77 : σ 7 7 = ((fb + p0 : Nat) : Int) + 1 := by rw [w6.2.1]; omega
  rcases hw with hw | hw
  · rw [if_pos hw] at c8
    exact c_turn (by omega) hK hK4 h10 c8 (by decide) (fun ha => c_o6 (h := fb + p0) h10 ha h77 (by omega) (fun hz σ' f1 f2 => ⟨0, rfl, fun _ => keep ⟨fun _ => hnil.mp hz, fun _ => hw⟩ σ' f1 f2, fun z => absurd rfl z⟩) (fun hz σ' f1 f2 f3 => ⟨0, rfl, fun _ => drop (fun z => hz (hnil.mpr (z.mp hw))) σ' f1 f2 f3, fun z => absurd rfl z⟩))
  · rw [if_neg (by omega)] at c8
    exact c_turn (by omega) hK hK4 h10 c8 (by decide) (fun ha => c_o7 (h := fb + p0) h10 ha h77 (by omega) (fun hz σ' f1 f2 => ⟨0, rfl, fun _ => keep ⟨fun z => by omega, fun z => absurd (hnil.mpr z) hz⟩ σ' f1 f2, fun z => absurd rfl z⟩) (fun hz σ' f1 f2 f3 => ⟨0, rfl, fun _ => drop (fun z => by have := z.mpr (hnil.mp hz); omega) σ' f1 f2 f3, fun z => absurd rfl z⟩))
