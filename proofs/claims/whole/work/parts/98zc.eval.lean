/-! a form: both machines -/
def z_e2 (τ : mj_S) (m S : Nat) : mj_S := mj_up (mj_up τ 0 26 (m : Int)) 0 41 ((S : Int) + 1)
theorem z_e2_f {τ : mj_S} {m S : Nat} : (∀ q k, ¬ (q = 0 ∧ (k = 26 ∨ k = 41)) → z_e2 τ m S q k = τ q k) ∧ z_e2 τ m S 0 26 = m ∧ z_e2 τ m S 0 41 = ((S + 1 : Nat) : Int) := by
  unfold z_e2
  exact ⟨fun q k z => by rw [mj_up_ne (by omega), mj_up_ne (by omega)], by rw [mj_up_ne (by omega), mj_up_eq], by rw [mj_up_eq]; omega⟩
theorem r_ev0 {τ : mj_S} {m S : Nat} {x n t : Int} (h26 : τ 0 26 = (m : Int) + 1) (hm : m < 3000) (h5 : τ 0 5 = 0) (hv : τ 16 m = 1 ∧ τ 17 m = x ∧ τ 18 m = n ∧ τ 19 m = t) (h41 : τ 0 41 = S) (h40 : τ 0 40 = S) (hS : S ≤ 20000) : z_ge τ (mj_up (mj_up τ 0 26 (m : Int)) 0 5 5) := by
  refine r_turn h26 hm h5 (fun d Q hq => ?_)
  rw [hv.1, hv.2.1, hv.2.2.1, hv.2.2.2]
  have c41 : mj_up τ 0 26 (m : Int) 0 41 = S := by rw [mj_up_ne (by omega)]; exact h41
  have c40 : mj_up τ 0 26 (m : Int) 0 40 = S := by rw [mj_up_ne (by omega)]; exact h40
  have c5 : mj_up τ 0 26 (m : Int) 0 5 = 0 := by rw [mj_up_ne (by omega)]; exact h5
  refine wq_m41 (d := d + 27) ⟨fun _ => ?_, fun z => absurd z (by decide), fun z => absurd z (by decide), fun z => absurd z (by decide), fun z => absurd z (by decide), fun z => absurd z (by decide), fun z => absurd z (by decide), fun z => absurd z (by decide), fun z => absurd z (by decide), fun z => absurd z (by decide), fun z => absurd z (by decide), fun z => absurd z (by decide), fun z => absurd z (by decide), fun z => absurd z (by decide), fun z => absurd ⟨by decide, by decide⟩ z⟩
  rw [c41, c40]
  refine ⟨by unfold mj_r; omega, fun σ1 e1 => ⟨fun _ => ?_, fun z => absurd rfl z⟩⟩
  unfold z_se z_sp at e1
  rw [c41, c40, if_pos rfl, if_pos c5] at e1
  rw [e1]
  exact hq
theorem r_ev1 {τ τ' : mj_S} {m S fuel : Nat} {x n t : Int} (h26 : τ 0 26 = (m : Int) + 1) (hm : m < 3000) (h5 : τ 0 5 = 0) (hv : τ 16 m = 1 ∧ τ 17 m = x ∧ τ 18 m = n ∧ τ 19 m = t) (h41 : τ 0 41 = S) (h40 : τ 0 40 = fuel) (hS : S < fuel) (hf : fuel ≤ 20000) (h : ∀ (d : Nat) (Q : mj_Q), Q none τ' → mj_B mjm_L mjm_Ms (d + 29) 46 [.inr (.inl 0), .inl x, .inl t] (z_e2 τ m S) (fun r σ2 => r = none ∧ Q none σ2)) : z_ge τ τ' := by
  refine r_turn h26 hm h5 (fun d Q hq => ?_)
  rw [hv.1, hv.2.1, hv.2.2.1, hv.2.2.2]
  have c41 : mj_up τ 0 26 (m : Int) 0 41 = S := by rw [mj_up_ne (by omega)]; exact h41
  have c40 : mj_up τ 0 26 (m : Int) 0 40 = fuel := by rw [mj_up_ne (by omega)]; exact h40
  refine wq_m41 (d := d + 27) ⟨fun _ => ?_, fun z => absurd z (by decide), fun z => absurd z (by decide), fun z => absurd z (by decide), fun z => absurd z (by decide), fun z => absurd z (by decide), fun z => absurd z (by decide), fun z => absurd z (by decide), fun z => absurd z (by decide), fun z => absurd z (by decide), fun z => absurd z (by decide), fun z => absurd z (by decide), fun z => absurd z (by decide), fun z => absurd z (by decide), fun z => absurd ⟨by decide, by decide⟩ z⟩
  rw [c41, c40]
  refine ⟨by unfold mj_r; omega, fun σ1 e1 => ⟨fun z => absurd (by omega) z, fun _ => ?_⟩⟩
  unfold z_se at e1
  rw [c41, c40, if_neg (by omega)] at e1
  rw [e1]
  exact h d Q hq
/-- the reference: a form that is a list -/
theorem r_nd {A B : Nat → Int} {st : Nat} {τ : mj_S} (hst : st ≤ 400) (hs : z_sb A B (τ 4) (τ 5) st) {m n i : Nat} {x hd t : Int} (h26 : τ 0 26 = m) (hm : m + 1 < 3000) (h31 : 0 ≤ τ 0 31 ∧ τ 0 31 ≤ 100) (ht : t = 0 ∨ t = 1) (hD : z_dt A B st x) (hx : 536870912 ≤ x) (hl : z_isl B x (n + 1)) (hhd : hd = z_el A B x 0) (hh1 : 268435456 ≤ hd) (hh2 : hd < 536870912) (hn : hd = 268435458 ∨ hd = 268435459 ∨ hd = 268435460 → 1 ≤ n) (hi : hd = 268435460 → z_isl B (z_el A B x 1) i) {d : Nat} {Q : mj_Q}
    (h2 : hd = 268435458 → Q none (z_pu τ (z_el A B x 1))) (h3 : hd = 268435459 → Q none (z_q2 τ m 3 x 0 t 1 (z_el A B x 1) 0 0)) (h4 : hd = 268435460 → Q none (z_q2 τ m 4 x (i : Int) t 2 (z_el A B x 1) 1 0)) (h5 : hd = 268435461 → Q none (z_l1 τ m 6 (z_cd B x) 0 t))
    (h6 : hd = 268435462 → mj_B mjm_L mjm_Ms (d + 28) 45 [.inr (.inl 0), .inl 8, .inl (z_cd B x), .inl t] τ (fun r σ4 => r = none ∧ Q none σ4)) (h7 : hd = 268435463 → mj_B mjm_L mjm_Ms (d + 28) 45 [.inr (.inl 0), .inl 10, .inl (z_cd B x), .inl t] τ (fun r σ4 => r = none ∧ Q none σ4))
    (h8 : hd = 268435464 → Q none (z_q2 τ m 12 268435456 (n : Int) 0 2 (z_cd B x) 0 0)) (h10 : 268435466 ≤ hd → hd ≤ 268435476 → Q none (z_q2 τ m 13 268435456 (hd - 268435456) 0 2 (z_cd B x) 0 0)) (hc : hd ≤ 268435457 ∨ hd = 268435465 ∨ 268435476 < hd → Q none (z_q2 τ m 14 hd (n : Int) t 2 (z_cd B x) 0 0)) : mj_B mjm_L mjm_Ms (d + 29) 46 [.inr (.inl 0), .inl x, .inl t] τ Q := by
  obtain ⟨x1, x2, x3⟩ := z_dt_cd hD hx
  obtain ⟨y1, y2⟩ := z_sb_cd hs hD hx
  obtain ⟨hx', hl'⟩ := z_isl_t hl
  have hpx : z_pr x := ⟨hx, by omega⟩
  have ehd : z_cd A x = hd := hhd.symm
  have hd1 : 1 ≤ n → 536870912 ≤ z_cd B x ∧ z_pr (z_cd B x) ∧ z_cd (τ 4) (z_cd B x) = z_el A B x 1 ∧ z_dt A B st (z_el A B x 1) := fun h1 => by
    have r := hl'.1.1 0 (by omega)
    have r' : 536870912 ≤ z_cd B x ∧ z_cd B x < 536871312 := r
    exact ⟨r'.1, ⟨r'.1, by omega⟩, (z_sb_cd hs x3 r'.1).1, z_dt_el hD hl.1 (by omega)⟩
  have q2 : ∀ {w x n t w' x' n' t' : Int} (σ5 : mj_S), σ5 = z_la τ w x n t → σ5 0 26 = ((m + 1 : Nat) : Int) ∧ σ5 4 = τ 4 ∧ z_la σ5 w' x' n' t' = z_q2 τ m w x n t w' x' n' t' := fun σ5 e5 => by
    have e5' := e5
    rw [z_la_1 h26] at e5'
    exact ⟨by rw [e5']; exact z_l1_v.2.2.2.2, by rw [e5']; funext k; exact z_l1_o (by omega), by rw [e5]; exact z_la_2 h26⟩
  refine wq_m46 (d := d + 26) ⟨fun _ => ?_, fun z => absurd hx z⟩
  rw [y1, y2, ehd]
  refine ⟨hpx, by unfold mj_r; omega, hpx, x_m7 (d := d + 26) hst hs x3 hl' ⟨_, rfl, fun z2 => ⟨fun z3 => ⟨fun z4 => ⟨fun z5 => ⟨fun z6 => ⟨fun z => absurd z6 z, fun _ => ?_⟩, fun z6 => ⟨fun z7 => ⟨fun z8 => ⟨fun z10 => ?_, fun z10 => ⟨fun z20 => ?_, fun z20 => ?_⟩⟩, fun z8 => ?_⟩, fun z7 => ⟨fun _ => ?_, fun z => absurd z z6⟩⟩⟩, fun z5 => ?_⟩, fun z4 => ?_⟩, fun z3 => ?_⟩, fun z2 => ?_⟩⟩
  · exact mj_B_mono _ _ _ _ _ _ (fun r σ3 z => z) (h6 (by omega))
  · refine ⟨hpx, by omega, by omega, ht, fun σ5 e5 => ?_⟩
    rw [y1, ehd] at e5
    obtain ⟨k1, k2, k3⟩ := q2 σ5 e5 (w' := 2) (x' := z_cd B x) (n' := 0) (t' := 0)
    refine ⟨by omega, by omega, Or.inl rfl, fun σ6 e6 => ?_⟩
    rw [e6, k3]
    exact hc (by omega)
  · refine ⟨hpx, by omega, by omega, ht, fun σ5 e5 => ?_⟩
    rw [y1, ehd] at e5
    obtain ⟨k1, k2, k3⟩ := q2 σ5 e5 (w' := 2) (x' := z_cd B x) (n' := 0) (t' := 0)
    refine ⟨by omega, by omega, Or.inl rfl, fun σ6 e6 => ?_⟩
    rw [e6, k3]
    exact hc (by omega)
  · refine ⟨by omega, by omega, Or.inl rfl, fun σ5 e5 => ?_⟩
    obtain ⟨k1, k2, k3⟩ := q2 σ5 e5 (w' := 2) (x' := z_cd B x) (n' := 0) (t' := 0)
    refine ⟨by omega, by omega, Or.inl rfl, fun σ6 e6 => ?_⟩
    rw [e6, k3]
    exact h10 (by omega) (by omega)
  · refine ⟨by omega, by omega, Or.inl rfl, fun σ5 e5 => ?_⟩
    obtain ⟨k1, k2, k3⟩ := q2 σ5 e5 (w' := 2) (x' := z_cd B x) (n' := 0) (t' := 0)
    refine ⟨by omega, by omega, Or.inl rfl, fun σ6 e6 => ?_⟩
    rw [e6, k3]
    exact h8 (by omega)
  · exact mj_B_mono _ _ _ _ _ _ (fun r σ3 z => z) (h7 (by omega))
  · refine ⟨by omega, by omega, ht, fun σ5 e5 => ?_⟩
    rw [e5, z_la_1 h26]
    exact h5 (by omega)
  · obtain ⟨a1, a2, a3, a4⟩ := hd1 (hn (by omega))
    refine ⟨a2, ?_⟩
    rw [a3]
    refine x_m7 (d := d + 26) hst hs a4 (hi (by omega)) ⟨_, rfl, by omega, by omega, ht, fun σ5 e5 => ⟨a2, ?_⟩⟩
    obtain ⟨k1, k2, k3⟩ := q2 σ5 e5 (w' := 2) (x' := z_el A B x 1) (n' := 1) (t' := 0)
    refine ⟨by omega, by omega, Or.inl rfl, fun σ6 e6 => ?_⟩
    rw [e6, k2, a3, k3]
    exact h4 (by omega)
  · obtain ⟨a1, a2, a3, a4⟩ := hd1 (hn (by omega))
    refine ⟨by omega, by omega, ht, fun σ5 e5 => ⟨a2, ?_⟩⟩
    obtain ⟨k1, k2, k3⟩ := q2 σ5 e5 (w' := 1) (x' := z_el A B x 1) (n' := 0) (t' := 0)
    refine ⟨by omega, by omega, Or.inl rfl, fun σ6 e6 => ?_⟩
    rw [e6, k2, a3, k3]
    exact h3 (by omega)
  · obtain ⟨a1, a2, a3, a4⟩ := hd1 (hn (by omega))
    refine ⟨a2, h31.1, h31.2, fun σ5 e5 => ?_⟩
    rw [e5, a3]
    exact h2 (by omega)
/-- both count a step, or the fuel is used up -/
theorem x_ev {A B : Nat → Int} {st : Nat} {K : z_K} {σ0 τ0 : mj_S} {S0 fuel d : Nat} {Q : mj_Q} {y : Int} {τs : mj_S} {n : Nat} (CX : z_CX A B st K σ0 τ0 S0 fuel Q τs) (IH : z_IH A B st K σ0 τ0 S0 fuel d Q y τs n) (hn : n < 999000) {σ τ : mj_S} {m : Nat} {fn : Bool} {a : Nat} {E E' : List (Int × Int)} {pl pl' b fb : Nat} {hole : Int} {bg fr q u S : Nat} {be : Nat → Nat} {G : Nat → Bool}
    (W : z_XW A B st σ0 τ0 n σ τ (fb + pl) S fuel be G) (rest : z_jc A B st K σ τ m fn b E' pl' fb hole bg fr q u) (h10 : σ 7 10 = a) (h26 : τ 0 26 = (m : Int) + 1) (hm : m < 2700) (SP : z_SP σ τ fn E fb hole bg fr) (hne : z_ne τ fb pl hole) (hb : n + (fb + pl) + (u + 3) + 20 * S0 ≤ 20 * S + (if τ 16 m = 1 then 10 else 0)) (gs : z_ge τs τ) {x n' t : Int} (hv : τ 16 m = 1 ∧ τ 17 m = x ∧ τ 18 m = n' ∧ τ 19 m = t) (hin : z_in K a 1 0 0) (hk : S < fuel → ∀ σ1, (∀ q k, ¬ (q = 7 ∧ (k = 10 ∨ k = 12)) → σ1 q k = σ q k) → σ1 7 10 = ((a + 1 : Nat) : Int) → σ1 7 12 = ((S + 1 : Nat) : Int) → qh_c90_22 (d + 30) Q y ((n + 1 : Nat) : Int) σ1) : qh_c90_22 (d + 30) Q y (n : Int) σ := by
  obtain ⟨hK, hK4⟩ := z_CX_K CX W
  have W0 := W
  obtain ⟨w1, w2, w3, w4, w5, w6, w7, w8, w9⟩ := W0
  refine c_turn (by omega) hK hK4 h10 hin (by decide) (fun ha => c_o1 h10 ha w8.2.2.2.2.1 w8.2.2.1 w8.2.1 (fun hS σ1 f1 f2 f3 => ⟨0, rfl, fun _ => hk hS σ1 f1 f2 f3, fun z => absurd rfl z⟩) (fun hS σ1 f1 => ⟨5, rfl, fun z => absurd z (by decide), fun _ => ?_⟩))
  have g := r_ev0 (S := S) h26 (by omega) w9 hv w8.2.2.2.2.2 (by rw [w8.2.2.2.1]; omega) (by omega)
  rw [hv.1, if_pos rfl] at hb
  exact x_err CX W (n' := n + 1) (S' := S) (by omega) (fun q k z => f1 q k (by omega)) (fun q k z => by rw [mj_up_ne (by omega), mj_up_ne (by omega)]) ⟨w8.1, by rw [f1 7 12 (by omega)]; exact w8.2.2.2.2.1, by rw [mj_up_ne (by omega), mj_up_ne (by omega)]; exact w8.2.2.2.2.2⟩ mj_up_eq (by omega) (by omega) (by omega) (z_ge_tr gs g)
theorem xw_st {A B : Nat → Int} {st : Nat} {σ0 τ0 : mj_S} {n : Nat} {σ τ : mj_S} {h S fuel : Nat} {be : Nat → Nat} {G : Nat → Bool} (W : z_XW A B st σ0 τ0 n σ τ h S fuel be G) {σ1 τ' : mj_S} (hS : S < fuel) (f1 : ∀ q k, ¬ (q = 7 ∧ (k = 10 ∨ k = 12)) → σ1 q k = σ q k) (f3 : σ1 7 12 = ((S + 1 : Nat) : Int)) (o' : ∀ q k, ¬ ((16 ≤ q ∧ q ≤ 19) ∨ (q = 0 ∧ (k = 26 ∨ k = 41))) → τ' q k = τ q k) (o41 : τ' 0 41 = ((S + 1 : Nat) : Int)) : z_XW A B st σ0 τ0 (n + 1) σ1 τ' h (S + 1) fuel be G := by
  have W0 := W
  obtain ⟨w1, w2, w3, w4, w5, w6, w7, w8, w9⟩ := W
  exact xw_mk W0 (by omega) (fun q k z => f1 q k (by omega)) (fun q k z => o' q k (by omega)) (fun j hj => by rw [f1 29 j (by omega), o' 20 j (by omega)]; exact w5 j hj) ⟨w6.1, by rw [f1 7 7 (by omega)]; exact w6.2.1, by rw [o' 0 31 (by omega)]; exact w6.2.2⟩ (by rw [f1 7 13 (by omega), o' 0 42 (by omega)]; exact w7) ⟨hS, by rw [f1 7 11 (by omega)]; exact w8.2.2.1, f3, o41⟩
/-- two things are next -/
theorem x_two {A B : Nat → Int} {st : Nat} {K : z_K} {σ0 τ0 : mj_S} {S0 fuel d : Nat} {Q : mj_Q} {y : Int} {τs : mj_S} {n : Nat} (CX : z_CX A B st K σ0 τ0 S0 fuel Q τs) (IH : z_IH A B st K σ0 τ0 S0 fuel d Q y τs n) (hn : n < 999000) {σ τ : mj_S} {m : Nat} {fn : Bool} {a : Nat} {E E' : List (Int × Int)} {pl pl' b fb : Nat} {hole : Int} {bg fr q u S : Nat} {be : Nat → Nat} {G : Nat → Bool}
    (W : z_XW A B st σ0 τ0 n σ τ (fb + pl) S fuel be G) (rest : z_jc A B st K σ τ m fn b E' pl' fb hole bg fr q u) (h10 : σ 7 10 = a) (h26 : τ 0 26 = (m : Int) + 1) (hm : m < 2700) (SP : z_SP σ τ fn E fb hole bg fr) (hne : z_ne τ fb pl hole) (hb : n + (fb + pl) + (u + 3) + 20 * S0 ≤ 20 * S + (if τ 16 m = 1 then 10 else 0)) (gs : z_ge τs τ) (hv1 : τ 16 m = 1) {σ1 : mj_S} (hS : S < fuel) (f1 : ∀ q k, ¬ (q = 7 ∧ (k = 10 ∨ k = 12)) → σ1 q k = σ q k) (f2 : σ1 7 10 = ((a + 1 : Nat) : Int)) (f3 : σ1 7 12 = ((S + 1 : Nat) : Int)) {v1 x1 n1 t1 v2 x2 n2 t2 : Int} {E1 : List (Int × Int)} {pl1 b1 : Nat} (nw1 : ¬ v1 = 15) (nw2 : ¬ v2 = 15) (it1 : z_jt A B st K (hole - fb) m q fn v1 x1 n1 t1 E1 pl1 b1 E' pl' b) (it2 : z_jt A B st K (hole - fb) (m + 1) q fn v2 x2 n2 t2 E pl (a + 1) E1 pl1 b1) (g : z_ge τ (z_q2 (z_e2 τ m S) m v1 x1 n1 t1 v2 x2 n2 t2)) : qh_c90_22 (d + 30) Q y ((n + 1 : Nat) : Int) σ1 := by
  obtain ⟨k1, k2, k3⟩ := @z_e2_f τ m S
  generalize z_e2 τ m S = τ2 at g k1 k2 k3
  have qv := @z_q2_v τ2 m v1 x1 n1 t1 v2 x2 n2 t2
  have qo : ∀ q k, ¬ ((16 ≤ q ∧ q ≤ 19 ∧ (k = m ∨ k = m + 1)) ∨ (q = 0 ∧ (k = 26 ∨ k = 41))) → z_q2 τ2 m v1 x1 n1 t1 v2 x2 n2 t2 q k = τ q k := fun q k z => by rw [z_q2_o (by omega), k1 q k (by omega)]
  have q41 : z_q2 τ2 m v1 x1 n1 t1 v2 x2 n2 t2 0 41 = ((S + 1 : Nat) : Int) := by rw [z_q2_o (by omega)]; exact k3
  generalize z_q2 τ2 m v1 x1 n1 t1 v2 x2 n2 t2 = τ' at g qv qo q41
  rw [hv1, if_pos rfl] at hb
  have W' := xw_st W hS f1 f3 (fun q k z => qo q k (by omega)) q41
  have ch1 : z_jc A B st K σ1 τ' m fn b E' pl' fb hole bg fr q u := by
    clear hb
    exact z_jc_fr (fun q k z => f1 q k (by omega)) (fun q k z => qo q k (by omega)) rest
  have ch2 := z_jc_push qv.1.1 qv.1.2.1 qv.1.2.2.1 qv.1.2.2.2 nw1 it1 ch1
  have ch3 := z_jc_push qv.2.1.1 qv.2.1.2.1 qv.2.1.2.2.1 qv.2.1.2.2.2 nw2 it2 ch2
  have hb' : n + 1 + (fb + pl) + (u + 3 + 3) + 20 * S0 ≤ 20 * (S + 1) := by omega
  exact IH (n + 1) (by omega) σ1 τ' (m + 1 + 1) fn (a + 1) E pl fb hole bg fr q (u + 3 + 3) (S + 1) be G (cf_mk W' ch3 f2 qv.2.2 SP (fun k hk => f1 7 k (by omega)) (fun q k z => qo q k (by omega)) (fun j i1 i2 i3 => by rw [qo 20 j (by omega)]; exact hne j i1 i2 i3) (by omega)) (z_ge_tr gs g)
/-- one thing is next -/
theorem x_one {A B : Nat → Int} {st : Nat} {K : z_K} {σ0 τ0 : mj_S} {S0 fuel d : Nat} {Q : mj_Q} {y : Int} {τs : mj_S} {n : Nat} (CX : z_CX A B st K σ0 τ0 S0 fuel Q τs) (IH : z_IH A B st K σ0 τ0 S0 fuel d Q y τs n) (hn : n < 999000) {σ τ : mj_S} {m : Nat} {fn : Bool} {a : Nat} {E E' : List (Int × Int)} {pl pl' b fb : Nat} {hole : Int} {bg fr q u S : Nat} {be : Nat → Nat} {G : Nat → Bool}
    (W : z_XW A B st σ0 τ0 n σ τ (fb + pl) S fuel be G) (rest : z_jc A B st K σ τ m fn b E' pl' fb hole bg fr q u) (h10 : σ 7 10 = a) (h26 : τ 0 26 = (m : Int) + 1) (hm : m < 2700) (SP : z_SP σ τ fn E fb hole bg fr) (hne : z_ne τ fb pl hole) (hb : n + (fb + pl) + (u + 3) + 20 * S0 ≤ 20 * S + (if τ 16 m = 1 then 10 else 0)) (gs : z_ge τs τ) (hv1 : τ 16 m = 1) {σ1 : mj_S} (hS : S < fuel) (f1 : ∀ q k, ¬ (q = 7 ∧ (k = 10 ∨ k = 12)) → σ1 q k = σ q k) (f2 : σ1 7 10 = ((a + 1 : Nat) : Int)) (f3 : σ1 7 12 = ((S + 1 : Nat) : Int)) {v1 x1 n1 t1 : Int} (nw1 : ¬ v1 = 15) (it1 : z_jt A B st K (hole - fb) m q fn v1 x1 n1 t1 E pl (a + 1) E' pl' b) (g : z_ge τ (z_l1 (z_e2 τ m S) m v1 x1 n1 t1)) : qh_c90_22 (d + 30) Q y ((n + 1 : Nat) : Int) σ1 := by
  obtain ⟨k1, k2, k3⟩ := @z_e2_f τ m S
  generalize z_e2 τ m S = τ2 at g k1 k2 k3
  have qv := @z_l1_v τ2 m v1 x1 n1 t1
  have qo : ∀ q k, ¬ ((16 ≤ q ∧ q ≤ 19 ∧ k = m) ∨ (q = 0 ∧ (k = 26 ∨ k = 41))) → z_l1 τ2 m v1 x1 n1 t1 q k = τ q k := fun q k z => by rw [z_l1_o (by omega), k1 q k (by omega)]
  have q41 : z_l1 τ2 m v1 x1 n1 t1 0 41 = ((S + 1 : Nat) : Int) := by rw [z_l1_o (by omega)]; exact k3
  generalize z_l1 τ2 m v1 x1 n1 t1 = τ' at g qv qo q41
  rw [hv1, if_pos rfl] at hb
  have W' := xw_st W hS f1 f3 (fun q k z => qo q k (by omega)) q41
  have ch1 : z_jc A B st K σ1 τ' m fn b E' pl' fb hole bg fr q u := by
    clear hb
    exact z_jc_fr (fun q k z => f1 q k (by omega)) (fun q k z => qo q k (by omega)) rest
  have ch2 := z_jc_push qv.1 qv.2.1 qv.2.2.1 qv.2.2.2.1 nw1 it1 ch1
  have hb' : n + 1 + (fb + pl) + (u + 3) + 20 * S0 ≤ 20 * (S + 1) := by omega
  exact IH (n + 1) (by omega) σ1 τ' (m + 1) fn (a + 1) E pl fb hole bg fr q (u + 3) (S + 1) be G (cf_mk W' ch2 f2 qv.2.2.2.2 SP (fun k hk => f1 7 k (by omega)) (fun q k z => qo q k (by omega)) (fun j i1 i2 i3 => by rw [qo 20 j (by omega)]; exact hne j i1 i2 i3) (by omega)) (z_ge_tr gs g)
/-- a value is there -/
theorem x_push {A B : Nat → Int} {st : Nat} {K : z_K} {σ0 τ0 : mj_S} {S0 fuel d : Nat} {Q : mj_Q} {y : Int} {τs : mj_S} {n : Nat} (CX : z_CX A B st K σ0 τ0 S0 fuel Q τs) (IH : z_IH A B st K σ0 τ0 S0 fuel d Q y τs n) (hn : n < 999000) {σ τ : mj_S} {m : Nat} {fn : Bool} {a : Nat} {E E' : List (Int × Int)} {pl pl' b fb : Nat} {hole : Int} {bg fr q u S : Nat} {be : Nat → Nat} {G : Nat → Bool}
    (W : z_XW A B st σ0 τ0 n σ τ (fb + pl) S fuel be G) (rest : z_jc A B st K σ τ m fn b E' pl' fb hole bg fr q u) (h10 : σ 7 10 = a) (h26 : τ 0 26 = (m : Int) + 1) (hm : m < 2700) (SP : z_SP σ τ fn E fb hole bg fr) (hne : z_ne τ fb pl hole) (hb : n + (fb + pl) + (u + 3) + 20 * S0 ≤ 20 * S + (if τ 16 m = 1 then 10 else 0)) (gs : z_ge τs τ) (hv1 : τ 16 m = 1) {σ1 : mj_S} (hS : S < fuel) (f1 : ∀ q k, ¬ (q = 7 ∧ (k = 10 ∨ k = 12)) → σ1 q k = σ q k) (f2 : σ1 7 10 = ((a + 1 : Nat) : Int)) (f3 : σ1 7 12 = ((S + 1 : Nat) : Int)) {X Y : Int} (hin : (z_in K (a + 1) 2 X 0) ∨ ∃ p : Nat, z_in K (a + 1) 3 (p : Int) 0 ∧ p < pl ∧ X = σ 29 (fb + p)) (hval : z_vl A B st be G X Y) (hE : E' = E) (hpl : pl' = pl + 1) (hbb : b = a + 2) (g : z_ge τ (z_pu (z_e2 τ m S) Y)) : qh_c90_22 (d + 30) Q y ((n + 1 : Nat) : Int) σ1 := by
  obtain ⟨k1, k2, k3⟩ := @z_e2_f τ m S
  generalize z_e2 τ m S = τ2 at g k1 k2 k3
  have W0 := W
  obtain ⟨w1, w2, w3, w4, w5, w6, w7, w8, w9⟩ := W0
  rw [hv1, if_pos rfl] at hb
  have W' : z_XW A B st σ0 τ0 (n + 1) σ1 τ2 (fb + pl) (S + 1) fuel be G := xw_st W hS f1 f3 (fun q k z => k1 q k (by omega)) k3
  obtain ⟨hK, hK4⟩ := z_CX_K CX W'
  have k31 : τ2 0 31 = ((fb + pl : Nat) : Int) := by rw [k1 0 31 (by omega)]; exact w6.2.2
  have k5 : τ2 0 5 = 0 := by rw [k1 0 5 (by omega)]; exact w9
  have i7 : σ1 7 7 = ((fb + pl : Nat) : Int) := by rw [f1 7 7 (by omega)]; exact w6.2.1
  have hb1 : n + 1 + 1 + (fb + pl + 1) + u + 20 * S0 ≤ 20 * (S + 1) := by omega
  have hb2 : n + 1 + 1 + 20 * S0 ≤ 20 * (S + 1) + 20 := by omega
  have ok : fb + pl < 100 → ∀ σ' : mj_S, (∀ q k, ¬ ((q = 29 ∧ k = fb + pl) ∨ (q = 7 ∧ (k = 7 ∨ k = 10 ∨ k = 13))) → σ' q k = σ1 q k) → σ' 7 10 = ((a + 1 + 1 : Nat) : Int) → σ' 29 (fb + pl) = X → σ' 7 7 = ((fb + pl : Nat) : Int) + 1 → σ' 7 13 = (if σ1 7 13 < ((fb + pl : Nat) : Int) + 1 then ((fb + pl : Nat) : Int) + 1 else σ1 7 13) → qh_c90_22 (d + 30) Q y ((n + 1 + 1 : Nat) : Int) σ' := by
    intro hlt σ' g1 g2 g3 g4 g5
    rw [f1 7 13 (by omega)] at g5
    clear hb hb2
    exact x_res IH W rest SP hne (p0 := pl) (S' := S + 1) (n' := n + 1 + 1) (τb := τ2) hE hpl (by omega) hlt (by omega) (fun q k z => by rw [g1 q k (by omega), f1 q k (by omega)]) (by rw [g2, hbb]) g3 g4 g5 (by rw [g1 7 12 (by omega)]; exact f3) (fun q k z => k1 q k (by omega)) k2 k31 k3 hS hval hb1 (z_ge_tr gs g)
  have bad : fb + pl = 100 → ∀ σ' : mj_S, (∀ q k, ¬ (q = 7 ∧ k = 10) → σ' q k = σ1 q k) → Q (some (.inl 9)) σ' := by
    intro heq σ' g1
    rw [z_pu_d (by rw [k31, heq]; rfl) k5] at g
    exact x_err CX W' (n' := n + 1 + 1) (S' := S + 1) (by omega) (fun q k z => g1 q k (by omega)) (fun q k z => mj_up_ne (by omega)) ⟨hS, by rw [g1 7 12 (by omega)]; exact f3, by rw [mj_up_ne (by omega)]; exact k3⟩ mj_up_eq (by omega) (by omega) hb2 (z_ge_tr gs g)
  rcases hin with hin | ⟨p, hin, hp, eX⟩
  · exact c_turn (by omega) hK hK4 f2 hin (by decide) (fun ha => c_o2 f2 ha i7 w6.1 (fun hlt σ' g1 g2 g3 g4 g5 => ⟨0, rfl, fun _ => ok hlt σ' g1 g2 g3 g4 g5, fun z => absurd rfl z⟩) (fun heq σ' g1 => ⟨9, rfl, fun z => absurd z (by decide), fun _ => bad heq σ' g1⟩))
  · have i8 : σ1 7 8 = fb := by rw [f1 7 8 (by omega)]; exact SP.1
    have h100 := w6.1
    exact c_turn (by omega) hK hK4 f2 hin (by decide) (fun ha => c_o3 f2 ha i7 w6.1 i8 (by omega) (fun hlt σ' g1 g2 g3 g4 g5 => ⟨0, rfl, fun _ => ok hlt σ' g1 g2 (by rw [g3, f1 29 _ (by omega), eX]) g4 g5, fun z => absurd rfl z⟩) (fun heq σ' g1 => ⟨9, rfl, fun z => absurd z (by decide), fun _ => bad heq σ' g1⟩))
theorem z_lu_m {E : List (Int × Int)} {x p : Int} (h : z_lu E x = some p) : (x, p) ∈ E := by
  induction E with
  | nil => cases h
  | cons e E ih =>
    obtain ⟨a, r⟩ := e
    by_cases c : a = x
    · have : z_lu ((a, r) :: E) x = some r := if_pos c
      rw [this] at h
      cases h
      rw [c]
      exact List.mem_cons_self
    · have : z_lu ((a, r) :: E) x = z_lu E x := if_neg c
      rw [this] at h
      exact List.mem_cons_of_mem _ (ih h)
theorem r_lf {τ : mj_S} {x t : Int} {E : List (Int × Int)} {fb bg v : Nat} (hx : x < 536870912) (h31 : 0 ≤ τ 0 31 ∧ τ 0 31 ≤ 100) (h33 : τ 0 33 = v) (h36 : τ 0 36 = bg) (hv4 : v ≤ 400) (hev : z_ev (τ 21) (τ 22) fb bg E v) (hE : ∀ p, z_lu E x = some p → 0 ≤ (fb : Int) + p ∧ (fb : Int) + p < 100) (hno : 268435457 < x → ¬ z_lu E x = none) {d : Nat} {Q : mj_Q} (h1 : x ≤ 268435457 → Q none (z_pu τ x)) (h2 : 268435457 < x → ∀ p, z_lu E x = some p → Q none (z_pu τ (τ 20 ((fb : Int) + p).toNat))) : mj_B mjm_L mjm_Ms (d + 29) 46 [.inr (.inl 0), .inl x, .inl t] τ Q := by
  refine wq_m46 (d := d + 26) ⟨fun z => absurd z (by omega), fun _ => ⟨fun z => ⟨h31.1, h31.2, fun σ1 e1 => ?_⟩, fun z => ⟨fun z2 => ⟨h31.1, h31.2, fun σ1 e1 => ?_⟩, fun z2 => ⟨fun z3 => ?_, fun z3 => ⟨h31.1, h31.2, fun σ1 e1 => ?_⟩⟩⟩⟩⟩
  · rw [e1]; exact h1 (by omega)
  · rw [e1]; exact h1 (by omega)
  · refine t_m26 (d := d + 27) h33 h36 hv4 hev (fun p ep => ⟨_, rfl, (hE p ep).1, (hE p ep).2, h31.1, h31.2, fun σ1 e1 => ?_⟩) (fun e0 => absurd e0 (hno (by omega)))
    rw [e1]; exact h2 (by omega) p ep
  · rw [e1]; exact h1 (by omega)
theorem x_leaf {A B : Nat → Int} {st : Nat} {K : z_K} {σ0 τ0 : mj_S} {S0 fuel d : Nat} {Q : mj_Q} {y : Int} {τs : mj_S} {n : Nat} (CX : z_CX A B st K σ0 τ0 S0 fuel Q τs) (IH : z_IH A B st K σ0 τ0 S0 fuel d Q y τs n) (hn : n < 999000) {σ τ : mj_S} {m : Nat} {fn : Bool} {a : Nat} {E E' : List (Int × Int)} {pl pl' b fb : Nat} {hole : Int} {bg fr q u S : Nat} {be : Nat → Nat} {G : Nat → Bool}
    (W : z_XW A B st σ0 τ0 n σ τ (fb + pl) S fuel be G) (rest : z_jc A B st K σ τ m fn b E' pl' fb hole bg fr q u) (h10 : σ 7 10 = a) (h26 : τ 0 26 = (m : Int) + 1) (hm : m < 2700) (SP : z_SP σ τ fn E fb hole bg fr) (hne : z_ne τ fb pl hole) (hb : n + (fb + pl) + (u + 3) + 20 * S0 ≤ 20 * S + (if τ 16 m = 1 then 10 else 0)) (gs : z_ge τs τ) {x n' t : Int} (hv : τ 16 m = 1 ∧ τ 17 m = x ∧ τ 18 m = n' ∧ τ 19 m = t) (hx : x < 536870912) (c5 : z_eb (hole - fb) E pl) (c6 : z_lf K E x a b) (c7 : E' = E) (c8 : pl' = pl + 1) : qh_c90_22 (d + 30) Q y (n : Int) σ := by
  obtain ⟨e1, e2, e3⟩ := c6
  have W0 := W
  obtain ⟨w1, w2, w3, w4, w5, w6, w7, w8, w9⟩ := W0
  have SP0 := SP
  obtain ⟨s1, s2, s3, s4, s5, v, s6, s7⟩ := SP0
  obtain ⟨j1, j2, j3, j4, j5, j6, j7⟩ := z_jc_bd rest
  have hvl := z_ev_len s7
  have hEl := c5.2.1
  refine x_ev CX IH hn W rest h10 h26 hm SP hne hb gs hv e2 (fun hS σ1 f1 f2 f3 => ?_)
  obtain ⟨k1, k2, k3⟩ := @z_e2_f τ m S
  have k31 : 0 ≤ z_e2 τ m S 0 31 ∧ z_e2 τ m S 0 31 ≤ 100 := by rw [k1 0 31 (by omega), w6.2.2]; omega
  have lfp : ∀ p, z_lu E x = some p → 0 ≤ p ∧ p < pl ∧ p ≠ hole - fb := fun p ep => c5.2.2 x p (z_lu_m ep)
  have g : ∀ Y, (x ≤ 268435457 → Y = x) → (268435457 < x → ∀ p, z_lu E x = some p → Y = τ 20 ((fb : Int) + p).toNat) → (268435457 < x → ¬ z_lu E x = none) → z_ge τ (z_pu (z_e2 τ m S) Y) := fun Y y1 y2 y3 =>
    r_ev1 h26 (by omega) w9 hv w8.2.2.2.2.2 w8.2.2.2.1 hS w8.2.1 (fun d Q hq => r_lf hx k31 (v := v) (bg := bg) (fb := fb) (E := E) (by rw [k1 0 33 (by omega)]; exact s6) (by rw [k1 0 36 (by omega)]; exact s3) (by omega) (z_ev_frame (fun j _ => ⟨k1 21 j (by omega), k1 22 j (by omega)⟩) s7) (fun p ep => by have := lfp p ep; omega) y3 (fun z => ⟨rfl, by rw [← y1 z]; exact hq⟩) (fun z p ep => ⟨rfl, by rw [k1 20 _ (by omega), ← y2 z p ep]; exact hq⟩))
  rcases e3 with ⟨e3, e4, e5⟩ | ⟨e3, p, e4, e5⟩
  · exact x_push CX IH hn W rest h10 h26 hm SP hne hb gs hv.1 hS f1 f2 f3 (Or.inl e5) (z_dt_vl (z_dt_atom e3 (by omega))) c7 c8 e1 (g x (fun _ => rfl) (fun z => absurd z (by omega)) (fun z => absurd z (by omega)))
  · have lp := lfp p e4
    obtain ⟨p', rfl⟩ : ∃ p' : Nat, p = p' := ⟨p.toNat, by omega⟩
    have hpos : 0 ≤ τ 20 (fb + p') := hne _ (by omega) (by omega) (by omega)
    exact x_push CX IH hn W rest h10 h26 hm SP hne hb gs hv.1 hS f1 f2 f3 (Or.inr ⟨p', e5, by omega, rfl⟩) (z_pv_v (w5 (fb + p') (by omega)) hpos) c7 c8 e1 (g _ (fun z => absurd z (by omega)) (fun _ r er => by rw [e4] at er; cases er; rw [show ((fb : Int) + (p' : Int)).toNat = fb + p' by omega]) (fun _ z => by rw [e4] at z; cases z))
set_option maxHeartbeats 1000000 in
theorem x_node {A B : Nat → Int} {st : Nat} {K : z_K} {σ0 τ0 : mj_S} {S0 fuel d : Nat} {Q : mj_Q} {y : Int} {τs : mj_S} {n : Nat} (CX : z_CX A B st K σ0 τ0 S0 fuel Q τs) (IH : z_IH A B st K σ0 τ0 S0 fuel d Q y τs n) (hn : n < 999000) {σ τ : mj_S} {m : Nat} {fn : Bool} {a : Nat} {E E' : List (Int × Int)} {pl pl' b fb : Nat} {hole : Int} {bg fr q u S : Nat} {be : Nat → Nat} {G : Nat → Bool}
    (W : z_XW A B st σ0 τ0 n σ τ (fb + pl) S fuel be G) (rest : z_jc A B st K σ τ m fn b E' pl' fb hole bg fr q u) (h10 : σ 7 10 = a) (h26 : τ 0 26 = (m : Int) + 1) (hm : m < 2700) (SP : z_SP σ τ fn E fb hole bg fr) (hne : z_ne τ fb pl hole) (hb : n + (fb + pl) + (u + 3) + 20 * S0 ≤ 20 * S + (if τ 16 m = 1 then 10 else 0)) (gs : z_ge τs τ) {x n' t : Int} (hv : τ 16 m = 1 ∧ τ 17 m = x ∧ τ 18 m = n' ∧ τ 19 m = t) (hD : z_dt A B st x) {k : Nat} {tl : Bool} (c3 : m + 2 * (k + 1) ≤ q + 24) (c4 : z_tl fn tl t) (c5 : z_eb (hole - fb) E pl) (c6 : z_nd A B K (z_C A B K k) E x pl tl a b) (c7 : E' = E) (c8 : pl' = pl + 1) : qh_c90_22 (d + 30) Q y (n : Int) σ := by
  subst c7
  obtain ⟨nn, hd, h1, h2, h3, h4, h5, h6, hh⟩ := c6
  have W0 := W
  obtain ⟨w1, w2, w3, w4, w5, w6, w7, w8, w9⟩ := W0
  have hs := z_XW_sb W
  obtain ⟨d1, d2, d3⟩ := z_dt_cd hD h1
  obtain ⟨hx', hl'⟩ := z_isl_t h2
  refine x_ev CX IH hn W rest h10 h26 hm SP hne hb gs hv h6 (fun hS σ1 f1 f2 f3 => ?_)
  obtain ⟨k1, k2, k3⟩ := @z_e2_f τ m S
  have k31 : 0 ≤ z_e2 τ m S 0 31 ∧ z_e2 τ m S 0 31 ≤ 100 := by rw [k1 0 31 (by omega), w6.2.2]; omega
  have ks : z_sb A B (z_e2 τ m S 4) (z_e2 τ m S 5) st := by
    have e4 : z_e2 τ m S 4 = τ 4 := by funext j; exact k1 4 j (by omega)
    have e5 : z_e2 τ m S 5 = τ 5 := by funext j; exact k1 5 j (by omega)
    rw [e4, e5]; exact hs
  have eb1 : z_eb (hole - fb) E' pl := c5
  have t0 : ∀ f : Bool, z_tl f false 0 := fun f => ⟨fun z => Bool.noConfusion z, rfl⟩
  -- arguments of a list, a function
  have args : ∀ (f : Nat → Nat), f 0 = a + 1 → z_fs (z_C A B K k) E' (fun i => z_el A B x (i + 1)) pl nn f → z_jt A B st K (hole - fb) (m + 1) q fn 2 (z_cd B x) 0 0 E' pl (a + 1) E' (pl + nn) (f nn) := fun f e1 e2 =>
    Or.inr (Or.inl ⟨rfl, d3, k, nn, by omega, eb1, ⟨f, hl', e1, rfl, Or.inl rfl, fun i hi => by dsimp only; rw [if_pos rfl, z_el_s]; exact e2 i hi⟩, rfl, rfl⟩)
  rcases hh with ⟨g1, g2, g3, g4, gd⟩ | ⟨g1, g2, a1, b1, g3, g4, g5, g6, g7⟩ | ⟨g1, g2, i, f, c, g3, g4, g5, g6, g7, g8, g9⟩ | ⟨g1, f, g2, g3, g4, g5⟩ | ⟨g1, ⟨g2, g3, g4⟩ | ⟨n1, f, gf, g2, g3, g4, g5⟩⟩ | ⟨g1, g2, f, g3, g4, g5⟩
  · -- quote
    have g : z_ge τ (z_pu (z_e2 τ m S) (z_el A B x 1)) := r_ev1 h26 (by omega) w9 hv w8.2.2.2.2.2 w8.2.2.2.1 hS w8.2.1 (fun d Q hq => r_nd CX.1 ks (i := 0) k2 (by omega) k31 (z_tl_b c4) hD h1 h2 h3 h4 h5 (by omega) (fun z => absurd z (by omega)) (fun _ => ⟨rfl, hq⟩) (fun z => absurd z (by omega)) (fun z => absurd z (by omega)) (fun z => absurd z (by omega)) (fun z => absurd z (by omega)) (fun z => absurd z (by omega)) (fun z => absurd z (by omega)) (fun z z2 => absurd z (by omega)) (fun z => absurd z (by omega)))
    exact x_push CX IH hn W rest h10 h26 hm SP hne hb gs hv.1 hS f1 f2 f3 (Or.inl g3) (z_dt_vl (z_dt_el hD h2.1 (by omega))) rfl c8 g4 g
  · -- if
    have g : z_ge τ (z_q2 (z_e2 τ m S) m 3 x 0 t 1 (z_el A B x 1) 0 0) := r_ev1 h26 (by omega) w9 hv w8.2.2.2.2.2 w8.2.2.2.1 hS w8.2.1 (fun d Q hq => r_nd CX.1 ks (i := 0) k2 (by omega) k31 (z_tl_b c4) hD h1 h2 h3 h4 h5 (by omega) (fun z => absurd z (by omega)) (fun z => absurd z (by omega)) (fun _ => ⟨rfl, hq⟩) (fun z => absurd z (by omega)) (fun z => absurd z (by omega)) (fun z => absurd z (by omega)) (fun z => absurd z (by omega)) (fun z => absurd z (by omega)) (fun z z2 => absurd z (by omega)) (fun z => absurd z (by omega)))
    have it1 : z_jt A B st K (hole - fb) m q fn 3 x 0 t E' (pl + 1) a1 E' pl' b := Or.inr (Or.inr (Or.inl ⟨rfl, hD, k, tl, pl, b1, by omega, c4, rfl, eb1, by rw [g2] at h2; exact h2, g4, g5, g6, g7, rfl, c8⟩))
    have it2 : z_jt A B st K (hole - fb) (m + 1) q fn 1 (z_el A B x 1) 0 0 E' pl (a + 1) E' (pl + 1) a1 := Or.inl ⟨rfl, z_dt_el hD h2.1 (by omega), k, false, by omega, t0 fn, eb1, g3, rfl, rfl⟩
    exact x_two CX IH hn W rest h10 h26 hm SP hne hb gs hv.1 hS f1 f2 f3 (by decide) (by decide) it1 it2 g
  · -- let
    have g : z_ge τ (z_q2 (z_e2 τ m S) m 4 x (i : Int) t 2 (z_el A B x 1) 1 0) := r_ev1 h26 (by omega) w9 hv w8.2.2.2.2.2 w8.2.2.2.1 hS w8.2.1 (fun d Q hq => r_nd CX.1 ks (i := i) k2 (by omega) k31 (z_tl_b c4) hD h1 h2 h3 h4 h5 (by omega) (fun _ => g3) (fun z => absurd z (by omega)) (fun z => absurd z (by omega)) (fun _ => ⟨rfl, hq⟩) (fun z => absurd z (by omega)) (fun z => absurd z (by omega)) (fun z => absurd z (by omega)) (fun z => absurd z (by omega)) (fun z z2 => absurd z (by omega)) (fun z => absurd z (by omega)))
    have it1 : z_jt A B st K (hole - fb) m q fn 4 x (i : Int) t E' (pl + i) (f i) E' pl' b := Or.inr (Or.inr (Or.inr (Or.inl ⟨rfl, hD, k, tl, pl, c, i, by omega, c4, rfl, rfl, eb1, by rw [g2] at h2; exact h2, g3, g4, g7, g8, g9, rfl, c8⟩)))
    have it2 : z_jt A B st K (hole - fb) (m + 1) q fn 2 (z_el A B x 1) 1 0 E' pl (a + 1) E' (pl + i) (f i) := Or.inr (Or.inl ⟨rfl, z_dt_el hD h2.1 (by omega), k, i, by omega, eb1, ⟨f, g3, g5, rfl, Or.inr ⟨rfl, g4⟩, fun j hj => by dsimp only; rw [if_neg (by decide)]; exact g6 j hj⟩, rfl, rfl⟩)
    exact x_two CX IH hn W rest h10 h26 hm SP hne hb gs hv.1 hS f1 f2 f3 (by decide) (by decide) it1 it2 g
  · -- cond
    have g : z_ge τ (z_l1 (z_e2 τ m S) m 6 (z_cd B x) 0 t) := r_ev1 h26 (by omega) w9 hv w8.2.2.2.2.2 w8.2.2.2.1 hS w8.2.1 (fun d Q hq => r_nd CX.1 ks (i := 0) k2 (by omega) k31 (z_tl_b c4) hD h1 h2 h3 h4 h5 (by omega) (fun z => absurd z (by omega)) (fun z => absurd z (by omega)) (fun z => absurd z (by omega)) (fun z => absurd z (by omega)) (fun _ => ⟨rfl, hq⟩) (fun z => absurd z (by omega)) (fun z => absurd z (by omega)) (fun z => absurd z (by omega)) (fun z z2 => absurd z (by omega)) (fun z => absurd z (by omega)))
    have it1 : z_jt A B st K (hole - fb) m q fn 6 (z_cd B x) 0 t E' pl (a + 1) E' pl' b := Or.inr (Or.inr (Or.inr (Or.inr (Or.inr (Or.inl ⟨rfl, d3, k, tl, by omega, c4, eb1, ⟨nn, f, hl', g2, fun i hi => by rw [z_el_s]; exact g3 i hi, g4, g5⟩, rfl, c8⟩)))))
    exact x_one CX IH hn W rest h10 h26 hm SP hne hb gs hv.1 hS f1 f2 f3 (by decide) it1 g
  · -- and, or: nothing behind it
    rw [g2] at hl'
    have hnil := z_isl_0 hl'
    have e8 : ∀ (w : Int) (d : Nat) (Q : mj_Q), (¬ w = 8 → Q none (z_pu (z_e2 τ m S) 268435456)) → (w = 8 → Q none (z_pu (z_e2 τ m S) 268435457)) → mj_B mjm_L mjm_Ms (d + 28) 45 [.inr (.inl 0), .inl w, .inl (z_cd B x), .inl t] (z_e2 τ m S) (fun r σ4 => r = none ∧ Q none σ4) := fun w d Q q1 q2 =>
      wq_m45 (d := d + 25) ⟨fun z => absurd z (by omega), fun _ => ⟨fun z => ⟨k31.1, k31.2, fun σ6 e6 => ⟨rfl, by rw [e6]; exact q1 z⟩⟩, fun z => ⟨k31.1, k31.2, fun σ6 e6 => ⟨rfl, by rw [e6]; exact q2 z⟩⟩⟩⟩
    have g : z_ge τ (z_pu (z_e2 τ m S) (if hd = 268435462 then 268435457 else 268435456)) := by
      by_cases c : hd = 268435462
      · rw [if_pos c]
        exact r_ev1 h26 (by omega) w9 hv w8.2.2.2.2.2 w8.2.2.2.1 hS w8.2.1 (fun d Q hq => r_nd CX.1 ks (i := 0) k2 (by omega) k31 (z_tl_b c4) hD h1 h2 h3 h4 h5 (by omega) (fun z => absurd z (by omega)) (fun z => absurd z (by omega)) (fun z => absurd z (by omega)) (fun z => absurd z (by omega)) (fun z => absurd z (by omega)) (fun _ => mj_B_mono _ _ _ _ _ _ (fun r σ3 z => ⟨z.1, rfl, z.2⟩) (e8 8 d Q (fun z => absurd rfl z) (fun _ => hq))) (fun z => absurd z (by omega)) (fun z => absurd z (by omega)) (fun z z2 => absurd z (by omega)) (fun z => absurd z (by omega)))
      · rw [if_neg c]
        exact r_ev1 h26 (by omega) w9 hv w8.2.2.2.2.2 w8.2.2.2.1 hS w8.2.1 (fun d Q hq => r_nd CX.1 ks (i := 0) k2 (by omega) k31 (z_tl_b c4) hD h1 h2 h3 h4 h5 (by omega) (fun z => absurd z (by omega)) (fun z => absurd z (by omega)) (fun z => absurd z (by omega)) (fun z => absurd z (by omega)) (fun z => absurd z (by omega)) (fun z => absurd z (by omega)) (fun _ => mj_B_mono _ _ _ _ _ _ (fun r σ3 z => ⟨z.1, rfl, z.2⟩) (e8 10 d Q (fun _ => hq) (fun z => absurd z (by decide)))) (fun z => absurd z (by omega)) (fun z z2 => absurd z (by omega)) (fun z => absurd z (by omega)))
    have hv2 : z_dt A B st (if hd = 268435462 then 268435457 else 268435456) := by
      by_cases c : hd = 268435462
      · rw [if_pos c]; exact z_dt_atom (by decide) (by decide)
      · rw [if_neg c]; exact z_dt_atom (by decide) (by decide)
    exact x_push CX IH hn W rest h10 h26 hm SP hne hb gs hv.1 hS f1 f2 f3 (Or.inl g3) (z_dt_vl hv2) rfl c8 g4 g
  · -- and, or
    rw [g2] at hl'
    have hx1 := (z_isl_t hl').1
    obtain ⟨w, ew1, ew2⟩ : ∃ w : Int, (w = 8 ∨ w = 10) ∧ (w = 8 ↔ hd = 268435462) := by
      by_cases c : hd = 268435462
      · exact ⟨8, Or.inl rfl, fun _ => c, fun _ => rfl⟩
      · exact ⟨10, Or.inr rfl, fun z => absurd z (by decide), fun z => absurd z c⟩
    have eo : (if hd = 268435462 then (6 : Int) else 7) = (if w + 1 = 9 then 6 else 7) := by
      by_cases c : hd = 268435462
      · rw [if_pos c, if_pos (by omega)]
      · rw [if_neg c, if_neg (by omega)]
    have gen : ∀ τ', (∀ (d : Nat) (Q : mj_Q), Q none τ' → mj_B mjm_L mjm_Ms (d + 28) 45 [.inr (.inl 0), .inl w, .inl (z_cd B x), .inl t] (z_e2 τ m S) (fun r σ4 => r = none ∧ Q none σ4)) → z_ge τ τ' := by
      intro τ' hB
      by_cases c : hd = 268435462
      · rw [ew2.mpr c] at hB
        exact r_ev1 h26 (by omega) w9 hv w8.2.2.2.2.2 w8.2.2.2.1 hS w8.2.1 (fun d Q hq => r_nd CX.1 ks (i := 0) k2 (by omega) k31 (z_tl_b c4) hD h1 h2 h3 h4 h5 (by omega) (fun z => absurd z (by omega)) (fun z => absurd z (by omega)) (fun z => absurd z (by omega)) (fun z => absurd z (by omega)) (fun z => absurd z (by omega)) (fun _ => mj_B_mono _ _ _ _ _ _ (fun r σ3 z => ⟨z.1, rfl, z.2⟩) (hB d Q hq)) (fun z => absurd z (by omega)) (fun z => absurd z (by omega)) (fun z z2 => absurd z (by omega)) (fun z => absurd z (by omega)))
      · have e10 : w = 10 := by rcases ew1 with e | e; exact absurd (ew2.mp e) c; exact e
        rw [e10] at hB
        exact r_ev1 h26 (by omega) w9 hv w8.2.2.2.2.2 w8.2.2.2.1 hS w8.2.1 (fun d Q hq => r_nd CX.1 ks (i := 0) k2 (by omega) k31 (z_tl_b c4) hD h1 h2 h3 h4 h5 (by omega) (fun z => absurd z (by omega)) (fun z => absurd z (by omega)) (fun z => absurd z (by omega)) (fun z => absurd z (by omega)) (fun z => absurd z (by omega)) (fun z => absurd z (by omega)) (fun _ => mj_B_mono _ _ _ _ _ _ (fun r σ3 z => ⟨z.1, rfl, z.2⟩) (hB d Q hq)) (fun z => absurd z (by omega)) (fun z z2 => absurd z (by omega)) (fun z => absurd z (by omega)))
    cases n1 with
    | zero =>
      have hnil := z_isl_0 (z_isl_t hl').2
      have g : z_ge τ (z_l1 (z_e2 τ m S) m 1 (z_el A B x 1) 0 t) := gen _ (fun d Q hq => r_con (A := A) (B := B) (st := st) (d := d + 25) ks k2 (by omega) (z_tl_b c4) ew1 d3 hx1.1 (fun _ => ⟨rfl, hq⟩) (fun z => absurd hnil z))
      have it1 : z_jt A B st K (hole - fb) m q fn 1 (z_el A B x 1) 0 t E' pl (a + 1) E' pl' b := Or.inl ⟨rfl, z_dt_el hD h2.1 (by omega), k, tl, by omega, c4, eb1, by rw [g3] at g5; exact g5, rfl, c8⟩
      exact x_one CX IH hn W rest h10 h26 hm SP hne hb gs hv.1 hS f1 f2 f3 (by decide) it1 g
    | succ n1 =>
      have hl2 := (z_isl_t hl').2
      have hnn : ¬ z_cd B (z_cd B x) = 268435456 := by
        have := (z_isl_t hl2).1
        omega
      have g : z_ge τ (z_q2 (z_e2 τ m S) m (w + 1) (z_cd B x) 0 t 1 (z_el A B x 1) 0 0) := gen _ (fun d Q hq => r_con (A := A) (B := B) (st := st) (d := d + 25) ks k2 (by omega) (z_tl_b c4) ew1 d3 hx1.1 (fun z => absurd z hnn) (fun _ => ⟨rfl, hq⟩))
      obtain ⟨y1, y2, y3⟩ := g4 0 (by omega)
      rw [g3] at y1
      have it2 : z_jt A B st K (hole - fb) (m + 1) q fn 1 (z_el A B x 1) 0 0 E' pl (a + 1) E' (pl + 1) (gf 0) := Or.inl ⟨rfl, z_dt_el hD h2.1 (by omega), k, false, by omega, t0 fn, eb1, y1, rfl, rfl⟩
      have it1 : z_jt A B st K (hole - fb) m q fn (w + 1) (z_cd B x) 0 t E' (pl + 1) (gf 0) E' pl' b := by
        refine Or.inr (Or.inr (Or.inr (Or.inr (Or.inr (Or.inr (Or.inr (Or.inr (Or.inl ⟨by omega, d3, k, tl, pl, by omega, c4, rfl, eb1, hx1.1, by rw [← eo]; exact y2, ⟨n1, fun i => f (i + 1), fun i => gf (i + 1), hl2, y3, fun i hi => ?_, ?_⟩, rfl, c8⟩))))))))
        · obtain ⟨q1, q2, q3⟩ := g4 (i + 1) (by omega)
          rw [z_el_s, z_el_s, ← eo]
          exact ⟨q1, q2, q3⟩
        · rw [z_el_s, z_el_s]; exact g5
      exact x_two CX IH hn W rest h10 h26 hm SP hne hb gs hv.1 hS f1 f2 f3 (by omega) (by decide) it1 it2 g
  · -- list, functions
    rcases g5 with ⟨g5, g6, g7, g8⟩ | ⟨g5, g6, g7, g8, g9⟩ | ⟨g5, g6, g7⟩
    · have g : z_ge τ (z_q2 (z_e2 τ m S) m 12 268435456 (nn : Int) 0 2 (z_cd B x) 0 0) := r_ev1 h26 (by omega) w9 hv w8.2.2.2.2.2 w8.2.2.2.1 hS w8.2.1 (fun d Q hq => r_nd CX.1 ks (i := 0) k2 (by omega) k31 (z_tl_b c4) hD h1 h2 h3 h4 h5 (by omega) (fun z => absurd z (by omega)) (fun z => absurd z (by omega)) (fun z => absurd z (by omega)) (fun z => absurd z (by omega)) (fun z => absurd z (by omega)) (fun z => absurd z (by omega)) (fun z => absurd z (by omega)) (fun _ => ⟨rfl, hq⟩) (fun z z2 => absurd z (by omega)) (fun z => absurd z (by omega)))
      have it1 : z_jt A B st K (hole - fb) m q fn 12 268435456 (nn : Int) 0 E' (pl + nn) (f nn) E' pl' b := Or.inr (Or.inr (Or.inr (Or.inr (Or.inr (Or.inr (Or.inr (Or.inr (Or.inr (Or.inl ⟨rfl, pl, nn, by omega, rfl, rfl, eb1, g6, g7, g8, rfl, c8⟩)))))))))
      exact x_two CX IH hn W rest h10 h26 hm SP hne hb gs hv.1 hS f1 f2 f3 (by decide) (by decide) it1 (args f g3 g4) g
    · have g : z_ge τ (z_q2 (z_e2 τ m S) m 13 268435456 (hd - 268435456) 0 2 (z_cd B x) 0 0) := r_ev1 h26 (by omega) w9 hv w8.2.2.2.2.2 w8.2.2.2.1 hS w8.2.1 (fun d Q hq => r_nd CX.1 ks (i := 0) k2 (by omega) k31 (z_tl_b c4) hD h1 h2 h3 h4 h5 (by omega) (fun z => absurd z (by omega)) (fun z => absurd z (by omega)) (fun z => absurd z (by omega)) (fun z => absurd z (by omega)) (fun z => absurd z (by omega)) (fun z => absurd z (by omega)) (fun z => absurd z (by omega)) (fun z => absurd z (by omega)) (fun _ _ => ⟨rfl, hq⟩) (fun z => absurd z (by omega)))
      have it1 : z_jt A B st K (hole - fb) m q fn 13 268435456 (hd - 268435456) 0 E' (pl + nn) (f nn) E' pl' b := Or.inr (Or.inr (Or.inr (Or.inr (Or.inr (Or.inr (Or.inr (Or.inr (Or.inr (Or.inr (Or.inl ⟨rfl, pl, by omega, by omega, by omega, by rw [show 268435456 + (hd - 268435456) = hd by omega, ← g7]; rfl, eb1, by rw [show 268435456 + (hd - 268435456) = hd by omega]; exact g8, g9, rfl, c8⟩))))))))))
      exact x_two CX IH hn W rest h10 h26 hm SP hne hb gs hv.1 hS f1 f2 f3 (by decide) (by decide) it1 (args f g3 g4) g
    · have g : z_ge τ (z_q2 (z_e2 τ m S) m 14 hd (nn : Int) t 2 (z_cd B x) 0 0) := r_ev1 h26 (by omega) w9 hv w8.2.2.2.2.2 w8.2.2.2.1 hS w8.2.1 (fun d Q hq => r_nd CX.1 ks (i := 0) k2 (by omega) k31 (z_tl_b c4) hD h1 h2 h3 h4 h5 (by omega) (fun z => absurd z (by omega)) (fun z => absurd z (by omega)) (fun z => absurd z (by omega)) (fun z => absurd z (by omega)) (fun z => absurd z (by omega)) (fun z => absurd z (by omega)) (fun z => absurd z (by omega)) (fun z => absurd z (by omega)) (fun z z2 => absurd z (by omega)) (fun _ => ⟨rfl, hq⟩))
      have it1 : z_jt A B st K (hole - fb) m q fn 14 hd (nn : Int) t E' (pl + nn) (f nn) E' pl' b := Or.inr (Or.inr (Or.inr (Or.inr (Or.inr (Or.inr (Or.inr (Or.inr (Or.inr (Or.inr (Or.inr ⟨rfl, tl, pl, nn, by omega, rfl, c4, h4, h5, rfl, eb1, g6, g7, rfl, c8⟩))))))))))
      exact x_two CX IH hn W rest h10 h26 hm SP hne hb gs hv.1 hS f1 f2 f3 (by decide) (by decide) it1 (args f g3 g4) g
