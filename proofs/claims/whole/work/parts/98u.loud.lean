/-! what both do at the program's next instruction -/
theorem xw_dn {A B : Nat → Int} {st : Nat} {σ0 τ0 : mj_S} {n : Nat} {σ τ : mj_S} {h S fuel : Nat} {be : Nat → Nat} {G : Nat → Bool} (W : z_XW A B st σ0 τ0 n σ τ h S fuel be G) {σ' τ' : mj_S} {n' h' : Nat} (hn : n ≤ n') (hh : h' ≤ h) (fσ : ∀ q k, ¬ (q = 7 ∧ (k = 7 ∨ k = 8 ∨ k = 9 ∨ k = 10)) → σ' q k = σ q k) (fτ : ∀ q k, ¬ ((q = 0 ∧ (k = 26 ∨ k = 31 ∨ k = 33 ∨ k = 36 ∨ k = 37 ∨ k = 38)) ∨ (16 ≤ q ∧ q ≤ 19) ∨ (21 ≤ q ∧ q ≤ 23)) → τ' q k = τ q k) (h7 : σ' 7 7 = h') (h31 : τ' 0 31 = h') : z_XW A B st σ0 τ0 n' σ' τ' h' S fuel be G := by
  have W0 := W
  obtain ⟨w1, w2, w3, w4, w5, w6, w7, w8, w9⟩ := W
  exact xw_mk W0 hn (fun q k z => fσ q k (by omega)) (fun q k z => fτ q k (by omega)) (fun i hi => by rw [fσ 29 i (by omega), fτ 20 i (by omega)]; exact w5 i (by omega)) ⟨by omega, h7, h31⟩ (by rw [fσ 7 13 (by omega), fτ 0 42 (by omega)]; omega) ⟨w8.1, by rw [fσ 7 11 (by omega)]; exact w8.2.2.1, by rw [fσ 7 12 (by omega)]; exact w8.2.2.2.2.1, by rw [fτ 0 41 (by omega)]; exact w8.2.2.2.2.2⟩
theorem xw_rep {A B : Nat → Int} {st : Nat} {σ0 τ0 : mj_S} {n : Nat} {σ τ : mj_S} {h S fuel : Nat} {be : Nat → Nat} {G : Nat → Bool} (W : z_XW A B st σ0 τ0 n σ τ h S fuel be G) {σ' τ' : mj_S} {n' h' S' : Nat} (hn : n ≤ n') (hh : h' ≤ h) (hh2 : h' < 100) (fσ : ∀ q k, ¬ ((q = 29 ∧ k = h') ∨ (q = 7 ∧ (k = 7 ∨ k = 8 ∨ k = 9 ∨ k = 10 ∨ k = 12 ∨ k = 13)) ∨ (16 ≤ q ∧ q ≤ 17) ∨ (q = 2 ∧ k = 11) ∨ (30 ≤ q ∧ q ≤ 32)) → σ' q k = σ q k) (fτ : ∀ q k, ¬ ((q = 20 ∧ k = h') ∨ (q = 0 ∧ (k = 26 ∨ k = 31 ∨ k = 33 ∨ k = 36 ∨ k = 37 ∨ k = 38 ∨ k = 41 ∨ k = 42)) ∨ q = 8 ∨ (16 ≤ q ∧ q ≤ 19) ∨ (21 ≤ q ∧ q ≤ 23)) → τ' q k = τ q k) (hv : z_pv A B st be G (σ' 29 h') (τ' 20 h')) (h7 : σ' 7 7 = (h' : Int) + 1) (h31 : τ' 0 31 = (h' : Int) + 1) (h13 : σ' 7 13 = (if σ 7 13 < (h' : Int) + 1 then (h' : Int) + 1 else σ 7 13)) (h42 : τ' 0 42 = (if τ 0 42 < (h' : Int) + 1 then (h' : Int) + 1 else τ 0 42)) (hS : S' ≤ fuel ∧ σ' 7 12 = S' ∧ τ' 0 41 = S') : z_XW A B st σ0 τ0 n' σ' τ' (h' + 1) S' fuel be G := by
  have W0 := W
  obtain ⟨w1, w2, w3, w4, w5, w6, w7, w8, w9⟩ := W
  refine xw_mk W0 hn (fun q k z => fσ q k (by omega)) (fun q k z => fτ q k (by omega)) (fun i hi => ?_) ⟨by omega, by rw [h7]; omega, by rw [h31]; omega⟩ ?_ ⟨hS.1, by rw [fσ 7 11 (by omega)]; exact w8.2.2.1, hS.2.1, hS.2.2⟩
  · by_cases e : i = h'
    · rw [e]; exact hv
    · rw [fσ 29 i (by omega), fτ 20 i (by omega)]; exact w5 i (by omega)
  · rw [h13, h42, ← w7.1]
    split <;> omega
/-- the reference: test of if -/
theorem r_if {A B : Nat → Int} {st : Nat} {τ : mj_S} (hst : st ≤ 400) (hs : z_sb A B (τ 4) (τ 5) st) {m h : Nat} {x n t : Int} (h26 : τ 0 26 = (m : Int) + 1) (hm : m < 3000) (h5 : τ 0 5 = 0) (hv : τ 16 m = 3 ∧ τ 17 m = x ∧ τ 18 m = n ∧ τ 19 m = t) (ht : t = 0 ∨ t = 1) (hD : z_dt A B st x) (hx : z_isl B x 4) (h31 : τ 0 31 = (h : Int) + 1) (hh : h < 100) : z_ge τ (z_l1 (mj_up (mj_up τ 0 26 (m : Int)) 0 31 (h : Int)) m 1 (if τ 20 h = 268435456 then z_el A B x 3 else z_el A B x 2) 0 t) := by
  refine r_turn h26 hm h5 (fun d Q hq => ?_)
  rw [hv.1, hv.2.1, hv.2.2.1, hv.2.2.2]
  have c31 : mj_up τ 0 26 (m : Int) 0 31 = (h : Int) + 1 := by rw [mj_up_ne (by omega)]; exact h31
  refine wq_m41 (d := d + 27) ⟨fun z => absurd z (by decide), fun z => absurd z (by decide), fun _ => ?_, fun z => absurd z (by decide), fun z => absurd z (by decide), fun z => absurd z (by decide), fun z => absurd z (by decide), fun z => absurd z (by decide), fun z => absurd z (by decide), fun z => absurd z (by decide), fun z => absurd z (by decide), fun z => absurd z (by decide), fun z => absurd z (by decide), fun z => absurd z (by decide), fun z => absurd ⟨by decide, by decide⟩ z⟩
  rw [c31, show (h : Int) + 1 - 1 = h by omega, Int.toNat_natCast]
  refine ⟨by omega, by omega, fun σ8 e8 => ?_⟩
  have o8 : ∀ q k, ¬ (q = 0 ∧ (k = 26 ∨ k = 31)) → σ8 q k = τ q k := fun q k z => by rw [e8, mj_up_ne (by omega), mj_up_ne (by omega)]
  have c26 : σ8 0 26 = m := by rw [e8, mj_up_ne (by omega), mj_up_eq]
  have c4 : σ8 4 = τ 4 := by funext k; exact o8 4 k (by omega)
  have c5 : σ8 5 = τ 5 := by funext k; exact o8 5 k (by omega)
  have c20 : mj_up τ 0 26 (m : Int) 20 h = τ 20 h := mj_up_ne (by omega)
  rw [c20]
  refine ⟨fun z => ?_, fun z => ?_⟩
  · refine x_m8 (A := A) (B := B) (d := d + 27) (k := 3) (n := 4) hst (by rw [c4, c5]; exact hs) hD hx.1 (by omega) ⟨_, rfl, by omega, by omega, ht, fun σ9 e9 => ?_⟩
    rw [if_pos z] at hq
    rw [e9, z_la_1 c26, e8]
    exact hq
  · refine x_m8 (A := A) (B := B) (d := d + 27) (k := 2) (n := 4) hst (by rw [c4, c5]; exact hs) hD hx.1 (by omega) ⟨_, rfl, by omega, by omega, ht, fun σ9 e9 => ?_⟩
    rw [if_neg z] at hq
    rw [e9, z_la_1 c26, e8]
    exact hq
set_option maxHeartbeats 1000000 in
theorem x_if {A B : Nat → Int} {st : Nat} {K : z_K} {σ0 τ0 : mj_S} {S0 fuel d : Nat} {Q : mj_Q} {y : Int} {τs : mj_S} {n : Nat} (CX : z_CX A B st K σ0 τ0 S0 fuel Q τs) (IH : z_IH A B st K σ0 τ0 S0 fuel d Q y τs n) (hn : n < 999000) {σ τ : mj_S} {m : Nat} {fn : Bool} {a : Nat} {E E' : List (Int × Int)} {pl pl' b fb : Nat} {hole : Int} {bg fr q u S : Nat} {be : Nat → Nat} {G : Nat → Bool}
    (W : z_XW A B st σ0 τ0 n σ τ (fb + pl) S fuel be G) (rest : z_jc A B st K σ τ m fn b E' pl' fb hole bg fr q u) (h10 : σ 7 10 = a) (h26 : τ 0 26 = (m : Int) + 1) (hm : m < 2700) (SP : z_SP σ τ fn E fb hole bg fr) (hne : z_ne τ fb pl hole) (hb : n + (fb + pl) + (u + 3) + 20 * S0 ≤ 20 * S + (if τ 16 m = 1 then 10 else 0)) (gs : z_ge τs τ) {x n' t : Int} (hv : τ 16 m = 3 ∧ τ 17 m = x ∧ τ 18 m = n' ∧ τ 19 m = t) (hD : z_dt A B st x) {k : Nat} {tl : Bool} {p0 c : Nat} (c3 : m + 2 * k ≤ q + 24) (c4 : z_tl fn tl t) (c5 : pl = p0 + 1) (c6 : z_eb (hole - fb) E p0) (c7 : z_isl B x 4) (c8 : z_in K a 5 ((c : Int) + 1) 0) (c9 : z_C A B K k E (z_el A B x 2) p0 tl (a + 1) c) (c10 : z_in K c 4 (b : Int) 0) (c11 : z_C A B K k E (z_el A B x 3) p0 tl (c + 1) b) (c12 : E' = E) (c13 : pl' = pl) : qh_c90_22 (d + 30) Q y (n : Int) σ := by
  subst c12 c13 c5
  obtain ⟨hK, hK4⟩ := z_CX_K CX W
  have hs := z_XW_sb W
  have W0 := W
  obtain ⟨w1, w2, w3, w4, w5, w6, w7, w8, w9⟩ := W0
  have hbd := z_H_b w3
  have htop : 0 ≤ τ 20 (fb + p0) := hne (fb + p0) (by omega) (by omega) (by have := c6.1; omega)
  have hval := z_pv_v (w5 (fb + p0) (by omega)) htop
  have hnil := z_vl_nil hbd hval 268435456 (by decide)
  have g := r_if CX.1 hs (h := fb + p0) h26 (by omega) w9 hv (z_tl_b c4) hD c7 (by rw [w6.2.2]; omega) (by omega)
  rw [hv.1, if_neg (by decide)] at hb
  generalize hτ' : z_l1 (mj_up (mj_up τ 0 26 (m : Int)) 0 31 ((fb + p0 : Nat) : Int)) m 1 (if τ 20 (fb + p0) = 268435456 then z_el A B x 3 else z_el A B x 2) 0 t = τ' at g
  have o' : ∀ q k, ¬ ((16 ≤ q ∧ q ≤ 19 ∧ k = m) ∨ (q = 0 ∧ (k = 26 ∨ k = 31))) → τ' q k = τ q k := fun q k z => by rw [← hτ', z_l1_o (by omega), mj_up_ne (by omega), mj_up_ne (by omega)]
  have v := @z_l1_v (mj_up (mj_up τ 0 26 (m : Int)) 0 31 ((fb + p0 : Nat) : Int)) m 1 (if τ 20 (fb + p0) = 268435456 then z_el A B x 3 else z_el A B x 2) 0 t
  rw [hτ'] at v
  have e31 : τ' 0 31 = ((fb + p0 : Nat) : Int) := by rw [← hτ', z_l1_o (by omega), mj_up_eq]
  have e16 : τ' 16 (m + 1 - 1) = 1 := v.1
  have hne' : z_ne τ' fb p0 hole := fun i i1 i2 i3 => by rw [o' 20 i (by omega)]; exact hne i i1 (by omega) i3
  have rest' : ∀ σ', (∀ q k, ¬ (q = 7 ∧ (k = 7 ∨ k = 10)) → σ' q k = σ q k) → z_jc A B st K σ' τ' m fn b E' (p0 + 1) fb hole bg fr q u := fun σ' f1 => z_jc_fr (fun q k z => f1 q k (by omega)) (fun q k z => o' q k (by omega)) rest
  have d2 := z_dt_el hD c7.1 (i := 2) (by omega)
  have d3 := z_dt_el hD c7.1 (i := 3) (by omega)
  refine c_turn (by omega) hK hK4 h10 c8 (by decide) (fun ha => c_o5 (h := fb + p0) h10 ha (by rw [w6.2.1]; omega) (by omega) (fun hz σ' f1 f2 f3 => ⟨0, rfl, fun _ => ?_, fun z => absurd rfl z⟩) (fun hz σ' f1 f2 f3 => ⟨0, rfl, fun _ => ?_, fun z => absurd rfl z⟩))
  · rw [if_pos (hnil.mp hz)] at v
    have it : z_jt A B st K (hole - fb) m q fn 1 (z_el A B x 3) 0 t E' p0 (c + 1) E' (p0 + 1) b := Or.inl ⟨rfl, d3, k, tl, c3, c4, c6, c11, rfl, rfl⟩
    exact IH (n + 1) (by omega) σ' τ' (m + 1) fn (c + 1) E' p0 fb hole bg fr q (u + 3) S be G (cf_mk (xw_dn W (by omega) (by omega) (fun q k z => f1 q k (by omega)) (fun q k z => o' q k (by omega)) f2 e31) (z_jc_push v.1 v.2.1 v.2.2.1 v.2.2.2.1 (by decide) it (rest' σ' f1)) (by rw [f3]; omega) v.2.2.2.2 SP (fun k hk => f1 7 k (by omega)) (fun q k z => o' q k (by omega)) hne' (by rw [e16, if_pos rfl]; omega)) (z_ge_tr gs g)
  · rw [if_neg (fun z => hz (hnil.mpr z))] at v
    have it : z_jt A B st K (hole - fb) m q fn 1 (z_el A B x 2) 0 t E' p0 (a + 1) E' (p0 + 1) c := Or.inl ⟨rfl, d2, k, tl, c3, c4, c6, c9, rfl, rfl⟩
    exact IH (n + 1) (by omega) σ' τ' (m + 1) fn (a + 1) E' p0 fb hole bg fr q (u + 1 + 3) S be G (cf_mk (xw_dn W (by omega) (by omega) (fun q k z => f1 q k (by omega)) (fun q k z => o' q k (by omega)) f2 e31) (z_jc_push v.1 v.2.1 v.2.2.1 v.2.2.2.1 (by decide) it (z_jc_j c10 (rest' σ' f1))) f3 v.2.2.2.2 SP (fun k hk => f1 7 k (by omega)) (fun q k z => o' q k (by omega)) hne' (by rw [e16, if_pos rfl]; omega)) (z_ge_tr gs g)
/-- a value in place of others, in both -/
theorem x_res {A B : Nat → Int} {st : Nat} {K : z_K} {σ0 τ0 : mj_S} {S0 fuel d : Nat} {Q : mj_Q} {y : Int} {τs : mj_S} {n : Nat} (IH : z_IH A B st K σ0 τ0 S0 fuel d Q y τs n) {σ τ : mj_S} {m : Nat} {fn : Bool} {E E' : List (Int × Int)} {pl pl' b fb : Nat} {hole : Int} {bg fr q u S : Nat} {be : Nat → Nat} {G : Nat → Bool}
    (W : z_XW A B st σ0 τ0 n σ τ (fb + pl) S fuel be G) (rest : z_jc A B st K σ τ m fn b E' pl' fb hole bg fr q u) (SP : z_SP σ τ fn E fb hole bg fr) (hne : z_ne τ fb pl hole) {p0 n' S' : Nat} {X Y : Int} {σ' τb : mj_S} (c12 : E' = E) (c13 : pl' = p0 + 1) (hp0 : p0 ≤ pl) (hp1 : fb + p0 < 100) (hnn : n < n')
    (fσ : ∀ q k, ¬ ((q = 29 ∧ k = fb + p0) ∨ (q = 7 ∧ (k = 7 ∨ k = 10 ∨ k = 12 ∨ k = 13)) ∨ (16 ≤ q ∧ q ≤ 17) ∨ (q = 2 ∧ k = 11)) → σ' q k = σ q k) (f10 : σ' 7 10 = b) (f29 : σ' 29 (fb + p0) = X) (f7 : σ' 7 7 = ((fb + p0 : Nat) : Int) + 1) (f13 : σ' 7 13 = (if σ 7 13 < ((fb + p0 : Nat) : Int) + 1 then ((fb + p0 : Nat) : Int) + 1 else σ 7 13)) (f12 : σ' 7 12 = S')
    (fτ : ∀ q k, ¬ ((q = 0 ∧ (k = 26 ∨ k = 31 ∨ k = 41)) ∨ q = 8) → τb q k = τ q k) (t26 : τb 0 26 = m) (t31 : τb 0 31 = ((fb + p0 : Nat) : Int)) (t41 : τb 0 41 = S') (hS : S' ≤ fuel) (hv : z_vl A B st be G X Y) (hb : n' + (fb + p0 + 1) + u + 20 * S0 ≤ 20 * S') (gs : z_ge τs (z_pu τb Y)) : qh_c90_22 (d + 30) Q y (n' : Int) σ' := by
  subst c12 c13
  obtain ⟨u1, u2, u3, u4⟩ := z_pu_1 (x := Y) t31 hp1
  have hbd := z_H_b W.2.2.1
  have hY := z_vl_r hbd hv
  have t42 : τb 0 42 = τ 0 42 := fτ 0 42 (by omega)
  have o' : ∀ q k, ¬ ((q = 20 ∧ k = fb + p0) ∨ (q = 0 ∧ (k = 26 ∨ k = 31 ∨ k = 41 ∨ k = 42)) ∨ q = 8) → z_pu τb Y q k = τ q k := fun q k z => by rw [u1 q k (by omega)]; exact fτ q k (by omega)
  refine IH n' hnn σ' (z_pu τb Y) m fn b E' (p0 + 1) fb hole bg fr q u S' be G (cf_mk (xw_rep W (h' := fb + p0) (by omega) (by omega) hp1 (fun q k z => fσ q k (by omega)) (fun q k z => o' q k (by omega)) (by rw [f29, u2]; exact Or.inr hv) f7 u3 f13 (by rw [u4, t42]) ⟨hS, f12, by rw [u1 0 41 (by omega)]; exact t41⟩) (z_jc_fr (fun q k z => fσ q k (by omega)) (fun q k z => o' q k (by omega)) rest) f10 (by rw [u1 0 26 (by omega)]; exact t26) SP (fun k hk => fσ 7 k (by omega)) (fun q k z => o' q k (by omega)) (fun i i1 i2 i3 => ?_) (by omega)) gs
  by_cases e : i = fb + p0
  · rw [e, u2]; exact hY.2.2.1
  · rw [o' 20 i (by omega)]; exact hne i i1 (by omega) i3
/-- an error in both -/
theorem x_err {A B : Nat → Int} {st : Nat} {K : z_K} {σ0 τ0 : mj_S} {S0 fuel : Nat} {Q : mj_Q} {τs : mj_S} {n n' : Nat} (CX : z_CX A B st K σ0 τ0 S0 fuel Q τs) {σ τ σ' τ' : mj_S} {h S S' : Nat} {be : Nat → Nat} {G : Nat → Bool} {e : Int} (W : z_XW A B st σ0 τ0 n σ τ h S fuel be G) (hn : n ≤ n')
    (hσ : ∀ q k, ¬ (q = 7 ∧ (k = 7 ∨ k = 10 ∨ k = 12) ∨ (16 ≤ q ∧ q ≤ 17) ∨ (q = 2 ∧ k = 11)) → σ' q k = σ q k) (hτ : ∀ q k, ¬ ((q = 0 ∧ (k = 5 ∨ k = 26 ∨ k = 31 ∨ k = 33 ∨ k = 36 ∨ k = 37 ∨ k = 38 ∨ k = 41)) ∨ q = 8 ∨ (16 ≤ q ∧ q ≤ 23)) → τ' q k = τ q k) (hS : S' ≤ fuel ∧ σ' 7 12 = S' ∧ τ' 0 41 = S') (he : τ' 0 5 = e) (he1 : 1 ≤ e) (he2 : e ≤ 11) (hb : n' + 20 * S0 ≤ 20 * S' + 20) (gs : z_ge τs τ') : Q (some (.inl e)) σ' := by
  refine CX.2.2.2.2.2.2.2 e σ' τ' n' S' (xe_mk W hn (fun q k z => hσ q k (by omega)) (fun q k z => hτ q k (by omega)) ?_ hS he he1 he2) hb gs
  have w7 := W.2.2.2.2.2.2.1
  rw [hσ 7 13 (by omega), hτ 0 42 (by omega)]
  omega
/-- the reference: clauses are over -/
theorem r_cend {τ : mj_S} {m h : Nat} {x n t : Int} (h26 : τ 0 26 = (m : Int) + 1) (hm : m < 3000) (h5 : τ 0 5 = 0) (hv : τ 16 m = 6 ∧ τ 17 m = x ∧ τ 18 m = n ∧ τ 19 m = t) (hx : x < 536870912) (h31 : τ 0 31 = h) (hh : h ≤ 100) : z_ge τ (z_pu (mj_up τ 0 26 (m : Int)) 268435456) := by
  refine r_turn h26 hm h5 (fun d Q hq => ?_)
  rw [hv.1, hv.2.1, hv.2.2.1, hv.2.2.2]
  have c31 : mj_up τ 0 26 (m : Int) 0 31 = h := by rw [mj_up_ne (by omega)]; exact h31
  refine wq_m41 (d := d + 27) ⟨fun z => absurd z (by decide), fun z => absurd z (by decide), fun z => absurd z (by decide), fun z => absurd z (by decide), fun z => absurd z (by decide), fun _ => ?_, fun z => absurd z (by decide), fun z => absurd z (by decide), fun z => absurd z (by decide), fun z => absurd z (by decide), fun z => absurd z (by decide), fun z => absurd z (by decide), fun z => absurd z (by decide), fun z => absurd z (by decide), fun z => absurd ⟨by decide, by decide⟩ z⟩
  exact ⟨fun _ => ⟨by omega, by omega, fun σ1 e1 => by rw [e1]; exact hq⟩, fun z => absurd z (by omega)⟩
theorem x_cend {A B : Nat → Int} {st : Nat} {K : z_K} {σ0 τ0 : mj_S} {S0 fuel d : Nat} {Q : mj_Q} {y : Int} {τs : mj_S} {n : Nat} (CX : z_CX A B st K σ0 τ0 S0 fuel Q τs) (IH : z_IH A B st K σ0 τ0 S0 fuel d Q y τs n) (hn : n < 999000) {σ τ : mj_S} {m : Nat} {fn : Bool} {a : Nat} {E E' : List (Int × Int)} {pl pl' b fb : Nat} {hole : Int} {bg fr q u S : Nat} {be : Nat → Nat} {G : Nat → Bool}
    (W : z_XW A B st σ0 τ0 n σ τ (fb + pl) S fuel be G) (rest : z_jc A B st K σ τ m fn b E' pl' fb hole bg fr q u) (h10 : σ 7 10 = a) (h26 : τ 0 26 = (m : Int) + 1) (hm : m < 2700) (SP : z_SP σ τ fn E fb hole bg fr) (hne : z_ne τ fb pl hole) (hb : n + (fb + pl) + (u + 3) + 20 * S0 ≤ 20 * S + (if τ 16 m = 1 then 10 else 0)) (gs : z_ge τs τ) {x n' t : Int} (hv : τ 16 m = 6 ∧ τ 17 m = x ∧ τ 18 m = n' ∧ τ 19 m = t) (hx : x < 536870912) {k : Nat} {tl : Bool} (c6 : z_cls A B K k E x pl tl a b) (c12 : E' = E) (c13 : pl' = pl + 1) : qh_c90_22 (d + 30) Q y (n : Int) σ := by
  obtain ⟨hK, hK4⟩ := z_CX_K CX W
  have W0 := W
  obtain ⟨w1, w2, w3, w4, w5, w6, w7, w8, w9⟩ := W0
  obtain ⟨cn, f, f1, f2, f3, f4, f5⟩ := c6
  have hcn : cn = 0 := by
    cases cn with
    | zero => rfl
    | succ cn => have := (z_isl_t f1).1; omega
  subst hcn
  rw [f2] at f4 f5
  have g := r_cend h26 (by omega) w9 hv hx w6.2.2 w6.1
  rw [hv.1, if_neg (by decide)] at hb
  have t31 : mj_up τ 0 26 (m : Int) 0 31 = ((fb + pl : Nat) : Int) := by rw [mj_up_ne (by omega)]; exact w6.2.2
  have t41 : mj_up τ 0 26 (m : Int) 0 41 = S := by rw [mj_up_ne (by omega)]; exact w8.2.2.2.2.2
  refine c_turn (by omega) hK hK4 h10 f4 (by decide) (fun ha => c_o2 h10 ha w6.2.1 w6.1 (fun hlt σ' g1 g2 g3 g4 g5 => ⟨0, rfl, fun _ => ?_, fun z => absurd rfl z⟩) (fun heq σ' g1 => ⟨9, rfl, fun z => absurd z (by decide), fun _ => ?_⟩))
  · exact x_res IH W rest SP hne (p0 := pl) (S' := S) (X := 268435456) (Y := 268435456) (τb := mj_up τ 0 26 (m : Int)) c12 c13 (by omega) hlt (by omega) (fun q k z => g1 q k (by omega)) (by rw [g2, f5]) g3 g4 g5 (by rw [g1 7 12 (by omega)]; exact w8.2.2.2.2.1) (fun q k z => mj_up_ne (by omega)) mj_up_eq t31 t41 w8.1 (z_dt_vl (z_dt_atom (by decide) (by decide))) (by omega) (z_ge_tr gs g)
  · rw [z_pu_d (by rw [t31, heq]; rfl) (by rw [mj_up_ne (by omega)]; exact w9)] at g
    exact x_err CX W (n' := n + 1) (S' := S) (by omega) (fun q k z => g1 q k (by omega)) (fun q k z => by rw [mj_up_ne (by omega), mj_up_ne (by omega)]) ⟨w8.1, by rw [g1 7 12 (by omega)]; exact w8.2.2.2.2.1, by rw [mj_up_ne (by omega)]; exact t41⟩ mj_up_eq (by omega) (by omega) (by omega) (z_ge_tr gs g)
/-- the reference takes a value with it, and leaves places behind -/
def z_lv (τ : mj_S) (h i v nm : Nat) : mj_S := mj_up (mj_up (mj_up (mj_up (mj_up τ 0 31 ((h + i : Nat) : Int)) 0 31 (h : Int)) 20 h (τ 20 (h + i))) 0 31 ((h : Int) + 1)) 0 33 ((v : Int) - (nm : Int))
theorem z_lv_f {τ : mj_S} {h i v nm : Nat} : (∀ q k, ¬ ((q = 20 ∧ k = h) ∨ (q = 0 ∧ (k = 31 ∨ k = 33))) → z_lv τ h i v nm q k = τ q k) ∧ z_lv τ h i v nm 20 h = τ 20 (h + i) ∧ z_lv τ h i v nm 0 31 = (h : Int) + 1 ∧ z_lv τ h i v nm 0 33 = (v : Int) - (nm : Int) := by
  unfold z_lv
  refine ⟨fun q k z => by rw [mj_up_ne (by omega), mj_up_ne (by omega), mj_up_ne (by omega), mj_up_ne (by omega), mj_up_ne (by omega)], by rw [mj_up_ne (by omega), mj_up_ne (by omega), mj_up_eq], by rw [mj_up_ne (by omega), mj_up_eq], by rw [mj_up_eq]⟩
theorem t_m44 {τ : mj_S} {h i v nm : Nat} (h31 : τ 0 31 = ((h + i + 1 : Nat) : Int)) (hh : h + i < 100) (h33 : τ 0 33 = v) (hv : v ≤ 400) (hnm : nm ≤ 400) {d : Nat} {Q : mj_Q} (hq : Q none (z_lv τ h i v nm)) : mj_B mjm_L mjm_Ms (d + 2) 44 [.inr (.inl 0), .inl (i : Int), .inl (nm : Int)] τ Q := by
  refine wq_m44 ⟨by omega, by omega, fun σ1 e1 => ?_⟩
  rw [h31, show ((h + i + 1 : Nat) : Int) - 1 = ((h + i : Nat) : Int) by omega] at e1
  have a1 : σ1 0 31 = ((h + i : Nat) : Int) := by rw [e1, mj_up_eq]
  refine ⟨by rw [a1]; unfold mj_r; omega, fun σ2 e2 => ?_⟩
  rw [a1, show ((h + i : Nat) : Int) - (i : Int) = h by omega] at e2
  have a2 : σ2 0 31 = h := by rw [e2, mj_up_eq]
  refine ⟨by omega, by omega, fun σ3 e3 => ?_⟩
  rw [a2, Int.toNat_natCast, h31, show (((h + i + 1 : Nat) : Int) - 1).toNat = h + i by omega] at e3
  have a3 : σ3 0 31 = h := by rw [e3, mj_up_ne (by omega)]; exact a2
  refine ⟨by rw [a3]; unfold mj_r; omega, fun σ4 e4 => ?_⟩
  rw [a3] at e4
  have a4 : σ4 0 33 = v := by rw [e4, mj_up_ne (by omega), e3, mj_up_ne (by omega), e2, mj_up_ne (by omega), e1, mj_up_ne (by omega)]; exact h33
  refine ⟨by rw [a4]; unfold mj_r; omega, fun σ5 e5 => ?_⟩
  rw [e5, a4, e4, e3, e2, e1]
  exact hq
theorem r_endlet {τ : mj_S} {m h i v : Nat} {x t : Int} (h26 : τ 0 26 = (m : Int) + 1) (hm : m < 3000) (h5 : τ 0 5 = 0) (hv : τ 16 m = 5 ∧ τ 17 m = x ∧ τ 18 m = i ∧ τ 19 m = t) (h31 : τ 0 31 = ((h + i + 1 : Nat) : Int)) (hh : h + i < 100) (h33 : τ 0 33 = v) (hv4 : v ≤ 400) : z_ge τ (z_lv (mj_up τ 0 26 (m : Int)) h i v i) := by
  refine r_turn h26 hm h5 (fun d Q hq => ?_)
  rw [hv.1, hv.2.1, hv.2.2.1, hv.2.2.2]
  refine wq_m41 (d := d + 27) ⟨fun z => absurd z (by decide), fun z => absurd z (by decide), fun z => absurd z (by decide), fun z => absurd z (by decide), fun _ => ?_, fun z => absurd z (by decide), fun z => absurd z (by decide), fun z => absurd z (by decide), fun z => absurd z (by decide), fun z => absurd z (by decide), fun z => absurd z (by decide), fun z => absurd z (by decide), fun z => absurd z (by decide), fun z => absurd z (by decide), fun z => absurd ⟨by decide, by decide⟩ z⟩
  exact t_m44 (d := d + 27) (by rw [mj_up_ne (by omega)]; exact h31) hh (by rw [mj_up_ne (by omega)]; exact h33) hv4 (by omega) ⟨rfl, hq⟩
theorem x_endlet {A B : Nat → Int} {st : Nat} {K : z_K} {σ0 τ0 : mj_S} {S0 fuel d : Nat} {Q : mj_Q} {y : Int} {τs : mj_S} {n : Nat} (CX : z_CX A B st K σ0 τ0 S0 fuel Q τs) (IH : z_IH A B st K σ0 τ0 S0 fuel d Q y τs n) (hn : n < 999000) {σ τ : mj_S} {m : Nat} {fn : Bool} {a : Nat} {E E' : List (Int × Int)} {pl pl' b fb : Nat} {hole : Int} {bg fr q u S : Nat} {be : Nat → Nat} {G : Nat → Bool}
    (W : z_XW A B st σ0 τ0 n σ τ (fb + pl) S fuel be G) (rest : z_jc A B st K σ τ m fn b E' pl' fb hole bg fr q u) (h10 : σ 7 10 = a) (h26 : τ 0 26 = (m : Int) + 1) (hm : m < 2700) (SP : z_SP σ τ fn E fb hole bg fr) (hne : z_ne τ fb pl hole) (hb : n + (fb + pl) + (u + 3) + 20 * S0 ≤ 20 * S + (if τ 16 m = 1 then 10 else 0)) (gs : z_ge τs τ) {x t : Int} {p0 i : Nat} (hv : τ 16 m = 5 ∧ τ 17 m = x ∧ τ 18 m = i ∧ τ 19 m = t) (c2 : pl = p0 + i + 1) (c3 : i ≤ E.length) (c4 : z_in K a 8 (i : Int) 0) (c5 : b = a + 1) (c6 : E' = E.drop i) (c7 : z_eb (hole - fb) E' p0) (c8 : pl' = p0 + 1) : qh_c90_22 (d + 30) Q y (n : Int) σ := by
  subst c8
  obtain ⟨hK, hK4⟩ := z_CX_K CX W
  have W0 := W
  obtain ⟨w1, w2, w3, w4, w5, w6, w7, w8, w9⟩ := W0
  obtain ⟨s1, s2, s3, s4, s5, v, s6, s7⟩ := SP
  have hvl := z_ev_len s7
  have hdl : E'.length = E.length - i := by rw [c6, List.length_drop]
  have hbd := z_jc_bd rest
  have hEl := c7.2.1
  have hp := c7.1
  have g := r_endlet (h := fb + p0) (i := i) (v := v) h26 (by omega) w9 hv (by rw [w6.2.2]; omega) (by omega) s6 (by omega)
  rw [hv.1, if_neg (by decide)] at hb
  obtain ⟨l1, l2, l3, l4⟩ := @z_lv_f (mj_up τ 0 26 (m : Int)) (fb + p0) i v i
  generalize z_lv (mj_up τ 0 26 (m : Int)) (fb + p0) i v i = τ' at g l1 l2 l3 l4
  have o' : ∀ q k, ¬ ((q = 20 ∧ k = fb + p0) ∨ (q = 0 ∧ (k = 26 ∨ k = 31 ∨ k = 33))) → τ' q k = τ q k := fun q k z => by rw [l1 q k (by omega), mj_up_ne (by omega)]
  have hl2 : τ' 20 (fb + p0) = τ 20 (fb + p0 + i) := by rw [l2, mj_up_ne (by omega)]
  refine c_turn (by omega) hK hK4 h10 c4 (by decide) (fun ha => c_o8 (h := fb + p0) (i := i) h10 ha (by rw [w6.2.1]; omega) (by omega) (fun σ' f1 f2 f3 f4 f5 => ⟨0, rfl, fun _ => ?_, fun z => absurd rfl z⟩))
  have hS : σ' 7 12 = S := by rw [f1 7 12 (by omega)]; exact w8.2.2.2.2.1
  refine IH (n + 1) (by omega) σ' τ' m fn b E' (p0 + 1) fb hole bg fr q u S be G ⟨xw_rep W (h' := fb + p0) (by omega) (by omega) (by omega) (fun q k z => f1 q k (by omega)) (fun q k z => o' q k (by omega)) (by rw [f3, hl2]; exact w5 _ (by omega)) f4 l3 f5 (by rw [o' 0 42 (by omega), if_neg (by omega)]) ⟨w8.1, hS, by rw [o' 0 41 (by omega)]; exact w8.2.2.2.2.2⟩, z_jc_fr (fun q k z => f1 q k (by omega)) (fun q k z => o' q k (by omega)) rest, by rw [f2, c5], by rw [l1 0 26 (by omega), mj_up_eq], ⟨by rw [f1 7 8 (by omega)]; exact s1, by rw [f1 7 9 (by omega)]; exact s2, by rw [o' 0 36 (by omega)]; exact s3, fun z => by rw [o' 0 37 (by omega)]; exact s4 z, by rw [o' 0 38 (by omega)]; exact s5, v - i, by rw [l4]; omega, ?_⟩, fun j i1 i2 i3 => ?_, by omega⟩ (z_ge_tr gs g)
  · rw [c6]
    exact z_ev_drop c3 (z_ev_frame (fun j _ => ⟨o' 21 j (by omega), o' 22 j (by omega)⟩) s7)
  · by_cases e : j = fb + p0
    · rw [e, hl2]; exact hne _ (by omega) (by omega) (by omega)
    · rw [o' 20 j (by omega)]; exact hne j i1 (by omega) i3
