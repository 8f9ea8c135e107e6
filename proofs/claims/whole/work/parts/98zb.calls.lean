/-! calls: both machines -/
theorem x_fn {A B : Nat → Int} {st : Nat} {K : z_K} {σ0 τ0 σ τ : mj_S} (FN : z_FN A B st K σ0 τ0) (w1 : ∀ q k, ¬ z_xc q k → σ q k = σ0 q k) (w2 : ∀ q k, ¬ z_xm q k → τ q k = τ0 q k) {x : Int} (hx : 268435456 ≤ x) (i : Nat) : ∃ nf : Nat, nf ≤ 16 ∧ τ 0 22 = nf ∧ (((∀ f : Nat, f < nf → ¬ τ 13 f = x) ∧ z_rf σ x i = 3) ∨ ∃ f c s k fin : Nat, f < nf ∧ τ 13 f = x ∧ (∀ f' : Nat, f' < nf → τ 13 f' = x → f' = f) ∧ z_dt A B st (τ 14 f) ∧ z_isl B (τ 14 f) c ∧ c ≤ 5 ∧ z_dt A B st (τ 15 f) ∧ z_rf σ x i = (if c = i then 0 else 4) ∧ z_st σ x = s ∧ k ≤ 12 ∧ z_C A B K k (z_bd (fun j => z_el A B (τ 14 f) j) 0 c []) (τ 15 f) ((c : Int) + 1) true s fin ∧ z_in K fin 11 0 0) := by
  obtain ⟨nf, h1, h2, h3, h4, h5, h6⟩ := FN
  refine ⟨nf, h1, by rw [w2 0 22 (by omega)]; exact h2, ?_⟩
  by_cases c : ∃ f : Nat, f < nf ∧ τ 13 f = x
  · obtain ⟨f, f1, f2⟩ := c
    obtain ⟨j, c, g1, g2, g3, g4, g5, g6, g7, g8, g9, g10, s, k, fin, g11, g12, g13, g14⟩ := h6 f f1
    have e13 : τ 13 f = τ0 13 f := w2 13 f (by omega)
    have e14 : τ 14 f = τ0 14 f := w2 14 f (by omega)
    have e15 : τ 15 f = τ0 15 f := w2 15 f (by omega)
    have ex : x = 268435456 + (j : Int) := by rw [← f2, e13, g2]
    refine Or.inr ⟨f, c, s, k, fin, f1, f2, fun f' a1 a2 => ?_, by rw [e14]; exact g9, by rw [e14]; exact g8, g5, by rw [e15]; exact g10, ?_, ?_, g12, by rw [e14, e15]; exact g13, g14⟩
    · rw [w2 13 f' (by omega)] at a2
      rw [e13] at f2
      exact h4 f' f a1 f1 (by rw [a2, f2])
    · unfold z_rf
      rw [show (x - 268435456).toNat = j by omega, w1 24 j (by omega), w1 26 j (by omega), g3, g4, if_pos ⟨hx, by omega, by decide⟩]
      by_cases e : c = i
      · rw [if_pos e, if_pos (by omega)]
      · rw [if_neg e, if_neg (by omega)]
    · unfold z_st
      rw [show (x - 268435456).toNat = j by omega, w1 28 j (by omega), g11, if_pos ⟨hx, by omega⟩]
  · refine Or.inl ⟨fun f f1 f2 => c ⟨f, f1, f2⟩, ?_⟩
    unfold z_rf
    refine if_neg (fun z => ?_)
    obtain ⟨f, f1, f2⟩ := h5 (x - 268435456).toNat (by omega) (by rw [← w1 24 _ (by omega)]; exact z.2.2)
    exact c ⟨f, f1, by rw [w2 13 f (by omega), f2]; omega⟩
theorem z_eb_fn (nm : Nat → Int) (i : Nat) : z_eb (i : Int) (z_bd nm 0 i []) (i + 1) := by
  refine ⟨by omega, by rw [z_bd_len]; simp, fun a r hr => ?_⟩
  rcases z_bd_mem hr with hr | ⟨j, j1, j2, j3⟩
  · cases hr
  · omega
/-- both have called -/
theorem x_cgo {A B : Nat → Int} {st : Nat} {K : z_K} {σ0 τ0 : mj_S} {S0 fuel d : Nat} {Q : mj_Q} {y : Int} {τs : mj_S} {n : Nat} (IH : z_IH A B st K σ0 τ0 S0 fuel d Q y τs n) {σ' τ' : mj_S} {m : Nat} {fb hp c s fin v fr u S k : Nat} {nm : Nat → Int} {bo : Int} {be : Nat → Nat} {G : Nat → Bool}
    (W' : z_XW A B st σ0 τ0 (n + 1) σ' τ' (fb + (c + 1)) S fuel be G) (f7 : z_dt A B st bo) (hk : k ≤ 12) (hC : z_C A B K k (z_bd nm 0 c []) bo ((c : Int) + 1) true s fin) (hhp : hp = fb + c)
    (ch1 : z_jc A B st K σ' τ' (m + 1) true fin (z_bd nm 0 c []) (c + 2) fb (hp : Int) v fr (m + 1) u) (u4 : τ' 16 (m + 1) = 1 ∧ τ' 17 (m + 1) = bo ∧ τ' 18 (m + 1) = 0 ∧ τ' 19 (m + 1) = 1) (e26 : τ' 0 26 = ((m + 2 : Nat) : Int)) (h10 : σ' 7 10 = s) (h8 : σ' 7 8 = fb) (h9 : σ' 7 9 = hp) (h36 : τ' 0 36 = v) (h37 : τ' 0 37 = fb) (h38 : τ' 0 38 = fr) (h33 : τ' 0 33 = ((v + c : Nat) : Int)) (hev : z_ev (τ' 21) (τ' 22) fb v (z_bd nm 0 c []) (v + c)) (hne : ∀ j, j < c → 0 ≤ τ' 20 (fb + j)) (hb : n + 1 + (fb + (c + 1)) + (u + 3) + 20 * S0 ≤ 20 * S + 10) (gs : z_ge τs τ') : qh_c90_22 (d + 30) Q y ((n + 1 : Nat) : Int) σ' := by
  subst hhp
  have ch2 : z_jc A B st K σ' τ' (m + 1 + 1) true s (z_bd nm 0 c []) (c + 1) fb ((fb + c : Nat) : Int) v fr (m + 1) (u + 3) :=
    z_jc_push u4.1 u4.2.1 u4.2.2.1 u4.2.2.2 (by decide) (Or.inl ⟨rfl, f7, k, true, by omega, ⟨fun _ => rfl, rfl⟩, by rw [show ((fb + c : Nat) : Int) - (fb : Int) = (c : Int) by omega]; exact z_eb_fn _ c, hC, rfl, rfl⟩) ch1
  refine IH (n + 1) (by omega) σ' τ' (m + 1 + 1) true s _ (c + 1) fb ((fb + c : Nat) : Int) v fr (m + 1) (u + 3) S be G ⟨W', ch2, h10, e26, ⟨h8, h9, h36, fun _ => h37, h38, v + c, h33, hev⟩, fun j j1 j2 j3 => ?_, by rw [show m + 1 + 1 - 1 = m + 1 by omega, u4.1, if_pos rfl]; exact hb⟩ gs
  have := hne (j - fb) (by omega)
  rw [show fb + (j - fb) = j by omega] at this
  exact this
theorem x_call0 {A B : Nat → Int} {st : Nat} {K : z_K} {σ0 τ0 : mj_S} {S0 fuel d : Nat} {Q : mj_Q} {y : Int} {τs : mj_S} {n : Nat} (CX : z_CX A B st K σ0 τ0 S0 fuel Q τs) (IH : z_IH A B st K σ0 τ0 S0 fuel d Q y τs n) (hn : n < 999000) {σ τ : mj_S} {m : Nat} {fn : Bool} {a : Nat} {E E' : List (Int × Int)} {pl pl' b fb : Nat} {hole : Int} {bg fr q u S : Nat} {be : Nat → Nat} {G : Nat → Bool}
    (W : z_XW A B st σ0 τ0 n σ τ (fb + pl) S fuel be G) (rest : z_jc A B st K σ τ m fn b E' pl' fb hole bg fr q u) (h10 : σ 7 10 = a) (h26 : τ 0 26 = (m : Int) + 1) (hm : m < 2700) (SP : z_SP σ τ fn E fb hole bg fr) (hne : z_ne τ fb pl hole) (hb : n + (fb + pl) + (u + 3) + 20 * S0 ≤ 20 * S + (if τ 16 m = 1 then 10 else 0)) (gs : z_ge τs τ) {x t : Int} {p0 i : Nat} (hv : τ 16 m = 14 ∧ τ 17 m = x ∧ τ 18 m = i ∧ τ 19 m = t) (c3 : m ≤ q + 24) (c4 : z_tl fn false t) (c5 : 268435456 ≤ x) (c6 : x < 536870912) (c7 : pl = p0 + i) (c8 : z_eb (hole - fb) E p0) (c9 : z_in K a 9 x (i : Int)) (c10 : b = a + 1) (c11 : E' = E) (c12 : pl' = p0 + 1) : qh_c90_22 (d + 30) Q y (n : Int) σ := by
  subst c7 c10 c11 c12
  obtain ⟨hK, hK4⟩ := z_CX_K CX W
  have hs := z_XW_sb W
  have W0 := W
  obtain ⟨w1, w2, w3, w4, w5, w6, w7, w8, w9⟩ := W0
  obtain ⟨s1, s2, s3, s4, s5, v, s6, s7⟩ := SP
  have hbd := z_H_b w3
  have hp := c8.1
  have hvl := z_ev_len s7
  have hEl := c8.2.1
  obtain ⟨j1, j2, j3, j4, j5, j6, j7⟩ := z_jc_bd rest
  obtain ⟨nf, n1, n2, hfn⟩ := x_fn CX.2.2.2.2.2.1 w1 w2 c5 i
  rw [hv.1, if_neg (by decide)] at hb
  have ht : t = 0 := c4.2
  have e7 : σ 7 7 = ((fb + p0 + i : Nat) : Int) := by rw [w6.2.1]; omega
  have e31 : τ 0 31 = ((fb + p0 + i : Nat) : Int) := by rw [w6.2.2]; omega
  have e100 : fb + p0 + i ≤ 100 := by have := w6.1; omega
  have e712 := w8.2.2.2.2.1
  have e041 := w8.2.2.2.2.2
  have e8 := w8.1
  have e711 := w8.2.2.1
  have xdr : z_dr x := by omega
  have hn1 : n < 1000000 := by omega
  have hm1 : m + 1 < 3000 := by omega
  have hv4 : v + i ≤ 400 := by omega
  have hfr : fr + 1 < 220 := by omega
  have hvb : v ≤ fb + p0 := by omega
  have hho : hole < ((fb + p0 : Nat) : Int) := by omega
  have hmq : m ≤ q + 25 := by omega
  have bgv : bg ≤ v := by omega
  have hb1 : n + 1 + 20 * S0 ≤ 20 * S + 20 := by omega
  have hb2 : n + 1 + (fb + p0 + (i + 1)) + (u + 3 + 3) + 20 * S0 ≤ 20 * S + 10 := by omega
  have hne1 : ∀ j : Nat, fb ≤ j → j < fb + p0 → (j : Int) ≠ hole → 0 ≤ τ 20 j := fun j i1 i2 i3 => hne j i1 (by omega) i3
  have hne2 : ∀ j : Nat, j < i → 0 ≤ τ 20 (fb + p0 + j) := fun j i1 => hne _ (by omega) (by omega) (by omega)
  have w5' : ∀ j, j < fb + p0 + i → z_pv A B st be G (σ 29 j) (τ 20 j) := fun j hj => w5 j (by omega)
  clear hb hm w6 w8 c8 hp hEl hvl j1 j2 j3 j4 j5 j6 j7 c3 c4 hne w5 hn
  rcases hfn with ⟨hno, hrf⟩ | ⟨f, c, s, k, fin, f1, f2, f3, f4, f5, f6, f7, hrf, hst, hk, hC, hfin⟩
  · have g := r_calln CX.1 hs h26 hm1 w9 hv n2 n1 hno
    have er : ∀ (e : Int) (σ' : mj_S), e = 3 ∨ e = 4 → (∀ q k, ¬ (q = 7 ∧ k = 10) → σ' q k = σ q k) → z_ge τ (mj_up (mj_up τ 0 26 (m : Int)) 0 5 e) → Q (some (.inl e)) σ' := fun e σ' he f1 g =>
      x_err CX W (n' := n + 1) (S' := S) (by omega) (fun q k z => f1 q k (by omega)) (fun q k z => by rw [mj_up_ne (by omega), mj_up_ne (by omega)]) ⟨e8, by rw [f1 7 12 (by omega)]; exact e712, by rw [mj_up_ne (by omega), mj_up_ne (by omega)]; exact e041⟩ mj_up_eq (by omega) (by omega) hb1 (z_ge_tr gs g)
    exact c_turn hn1 hK hK4 h10 c9 (by decide) (fun ha => c_o9 (h := fb + p0 + i) (f := fb + p0) h10 ha e7 e100 rfl xdr (fun z σ' q1 => ⟨3, by rw [hrf], fun z => absurd z (by decide), fun _ => er 3 σ' (Or.inl rfl) q1 g⟩) (fun z => absurd z (by rw [hrf]; decide)) (fun z => absurd z (by rw [hrf]; decide)))
  by_cases hci : c = i
  case neg =>
    have g := r_calla CX.1 hs h26 hm1 w9 hv n2 n1 f1 f2 f3 f4 f5 hci
    rw [if_neg hci] at hrf
    have er : ∀ (e : Int) (σ' : mj_S), e = 3 ∨ e = 4 → (∀ q k, ¬ (q = 7 ∧ k = 10) → σ' q k = σ q k) → z_ge τ (mj_up (mj_up τ 0 26 (m : Int)) 0 5 e) → Q (some (.inl e)) σ' := fun e σ' he f1 g =>
      x_err CX W (n' := n + 1) (S' := S) (by omega) (fun q k z => f1 q k (by omega)) (fun q k z => by rw [mj_up_ne (by omega), mj_up_ne (by omega)]) ⟨e8, by rw [f1 7 12 (by omega)]; exact e712, by rw [mj_up_ne (by omega), mj_up_ne (by omega)]; exact e041⟩ mj_up_eq (by omega) (by omega) hb1 (z_ge_tr gs g)
    exact c_turn hn1 hK hK4 h10 c9 (by decide) (fun ha => c_o9 (h := fb + p0 + i) (f := fb + p0) h10 ha e7 e100 rfl xdr (fun z σ' q1 => ⟨4, by rw [hrf], fun z => absurd z (by decide), fun _ => er 4 σ' (Or.inr rfl) q1 g⟩) (fun z => absurd z (by rw [hrf]; decide)) (fun z => absurd z (by rw [hrf]; decide)))
  case pos =>
    rw [if_pos hci] at hrf
    have gd := r_call0d CX.1 hs h26 hm1 w9 hv n2 n1 f1 f2 f3 f4 f5 hci ht e31 e100 (by omega) s6 hv4 s5 hfr
    have gk := r_call0s CX.1 hs h26 hm1 w9 hv n2 n1 f1 f2 f3 f4 f5 hci ht e31 e100 (by omega) s6 hv4 s5 hfr
    subst hci
    refine c_turn hn1 hK hK4 h10 c9 (by decide) (fun ha => c_o9 (h := fb + p0 + c) (f := fb + p0) h10 ha e7 e100 rfl xdr (fun z => absurd hrf z) (fun _ heq σ' q1 => ⟨9, rfl, fun z => absurd z (by decide), fun _ => ?_⟩) (fun _ hlt σ' q1 q2 q3 q4 q5 q6 q7 q8 q9 q10 => ⟨0, rfl, fun _ => ?_, fun z => absurd rfl z⟩))
    · obtain ⟨τ', g, o', o5⟩ := gd heq
      clear gk hb2 hne1 hne2
      exact x_err CX W (n' := n + 1) (S' := S) (by omega) (fun q k z => q1 q k (by omega)) (fun q k z => o' q k (by omega)) ⟨e8, by rw [q1 7 12 (by omega)]; exact e712, by rw [o' 0 41 (by omega)]; exact e041⟩ o5 (by omega) (by omega) hb1 (z_ge_tr gs g)
    · obtain ⟨τ', g, o', r1, r2, r3, r4, r5, r6, r7, r8, r9, r10, r11, r12, r13⟩ := gk hlt
      rw [show fb + p0 + c - c = fb + p0 by omega] at r13
      clear gd h10 ha hm1 hv4 hfr xdr hn1 h26 hv hb1 f1 f2 f3 f4 f5 f6 n1 n2 hK hK4
      have W' : z_XW A B st σ0 τ0 (n + 1) σ' τ' (fb + p0 + (c + 1)) S fuel be G := by
        clear hb2 hne1 hne2 hC hmq
        refine xw_mk W (by omega) (fun q k z => q1 q k (by omega)) (fun q k z => o' q k (by omega)) (fun j hj => ?_) ⟨by omega, by rw [q3]; omega, by rw [r5]; omega⟩ ?_ ⟨e8, by rw [q1 7 11 (by omega)]; exact e711, by rw [q1 7 12 (by omega)]; exact e712, by rw [o' 0 41 (by omega)]; exact e041⟩
        · by_cases e : j = fb + p0 + c
          · rw [e, q2, r4]; exact Or.inl ⟨rfl, rfl⟩
          · rw [q1 29 j (by omega), o' 20 j (by omega)]; exact w5' j (by omega)
        · rw [q4, r6, ← w7.1]
          split <;> omega
      have ch0 : z_jc A B st K σ' τ' m fn (a + 1) E' (p0 + 1) fb hole bg fr q u := by
        clear hb2 hne1 hne2 hC W' w7
        exact z_jc_frame (fun j hj => ⟨o' 16 j (by omega), o' 17 j (by omega), o' 18 j (by omega), o' 19 j (by omega)⟩) (fun j hj => ⟨o' 21 j (by omega), o' 22 j (by omega)⟩) (fun j hj => o' 23 j (by omega)) (fun j hj => o' 20 j (by omega)) (fun j hj => ⟨q1 30 j (by omega), q1 31 j (by omega), q1 32 j (by omega)⟩) rest
      have ch1 : z_jc A B st K σ' τ' (m + 1) true fin (z_bd (fun j => z_el A B (τ 14 f) j) 0 c []) (c + 2) (fb + p0) ((fb + p0 + c : Nat) : Int) v (fr + 2) (m + 1) (u + 3) := by
        clear hb2 hne2 hC W' w7
        exact ⟨0, fin, u, rfl, rfl, Or.inl ⟨r1, rfl, rfl, hfin, hvb, fb + p0 + c, rfl, by omega, by omega, fn, a + 1, E', p0, fb, hole, bg, fr, q, q8, by rw [q9]; exact s1, by rw [q10]; exact s2, rfl, by rw [r7]; exact s3, fun z => by rw [r8]; exact s4 z, rfl, hho, hmq, z_ev_frame (fun j hj => ⟨o' 21 j (by omega), o' 22 j (by omega)⟩) s7, fun j j1 j2 j3 => by rw [o' 20 j (by omega)]; exact hne1 j j1 j2 j3, ch0⟩⟩
      exact x_cgo IH W' f7 hk hC rfl ch1 r2 r3 (by rw [q7, hst]) q5 q6 r11 (by rw [r10]; omega) r9 r12 r13 (fun j hj => by rw [o' 20 _ (by omega)]; exact hne2 j hj) hb2 (z_ge_tr gs g)
theorem x_call1 {A B : Nat → Int} {st : Nat} {K : z_K} {σ0 τ0 : mj_S} {S0 fuel d : Nat} {Q : mj_Q} {y : Int} {τs : mj_S} {n : Nat} (CX : z_CX A B st K σ0 τ0 S0 fuel Q τs) (IH : z_IH A B st K σ0 τ0 S0 fuel d Q y τs n) (hn : n < 999000) {σ τ : mj_S} {m : Nat} {fn : Bool} {a : Nat} {E E' : List (Int × Int)} {pl pl' b fb : Nat} {hole : Int} {bg fr q u S : Nat} {be : Nat → Nat} {G : Nat → Bool}
    (W : z_XW A B st σ0 τ0 n σ τ (fb + pl) S fuel be G) (rest : z_jc A B st K σ τ m fn b E' pl' fb hole bg fr q u) (h10 : σ 7 10 = a) (h26 : τ 0 26 = (m : Int) + 1) (hm : m < 2700) (SP : z_SP σ τ fn E fb hole bg fr) (hne : z_ne τ fb pl hole) (hb : n + (fb + pl) + (u + 3) + 20 * S0 ≤ 20 * S + (if τ 16 m = 1 then 10 else 0)) (gs : z_ge τs τ) {x t : Int} {p0 i : Nat} (hv : τ 16 m = 14 ∧ τ 17 m = x ∧ τ 18 m = i ∧ τ 19 m = t) (c3 : m ≤ q + 24) (c4 : z_tl fn true t) (c5 : 268435456 ≤ x) (c6 : x < 536870912) (c7 : pl = p0 + i) (c8 : z_eb (hole - fb) E p0) (c9 : z_in K a 10 x (i : Int)) (c10 : b = a + 1) (c11 : E' = E) (c12 : pl' = p0 + 1) : qh_c90_22 (d + 30) Q y (n : Int) σ := by
  have ht1 : fn = true := c4.1 rfl
  subst ht1
  subst c7 c10 c11 c12
  obtain ⟨hK, hK4⟩ := z_CX_K CX W
  have hs := z_XW_sb W
  have W0 := W
  obtain ⟨w1, w2, w3, w4, w5, w6, w7, w8, w9⟩ := W0
  obtain ⟨s1, s2, s3, s4, s5, v, s6, s7⟩ := SP
  have hbd := z_H_b w3
  have hp := c8.1
  have hvl := z_ev_len s7
  have hEl := c8.2.1
  obtain ⟨j1, j2, j3, j4, j5, j6, j7⟩ := z_jc_bd rest
  obtain ⟨nf, n1, n2, hfn⟩ := x_fn CX.2.2.2.2.2.1 w1 w2 c5 i
  rw [hv.1, if_neg (by decide)] at hb
  have ht : t = 1 := c4.2
  obtain ⟨m0, a1, E1, pl1, u1, y1, y2, y3, y4, y5, y6⟩ := z_jc_ret rest
  obtain ⟨jn, b1, u2, v1, v2, vv⟩ := y6
  rcases vv with ⟨h3, h4, h5, h6, h6', hp1, h7, h8, h8', fn0, a0, E0, p1, fb0, hole0, bg0, fr0, q0, g1, g2, g3, g4, g5, g6, g7, g8, g9, g10, g11, g12⟩ | ⟨h3, vv⟩
  case inr => exact absurd y3 h3
  have hbg0 := z_ev_len g10
  have e7 : σ 7 7 = ((fb + p0 + i : Nat) : Int) := by rw [w6.2.1]; omega
  have e31 : τ 0 31 = ((fb + p0 + i : Nat) : Int) := by rw [w6.2.2]; omega
  have e100 : fb + p0 + i ≤ 100 := by have := w6.1; omega
  have e712 := w8.2.2.2.2.1
  have e041 := w8.2.2.2.2.2
  have e8 := w8.1
  have e711 := w8.2.2.1
  have xdr : z_dr x := by omega
  have hn1 : n < 1000000 := by omega
  have hm1 : m + 1 < 3000 := by omega
  have hv4 : bg + i ≤ 400 := by omega
  have hho : hp1 < fb + p0 := by omega
  have hp9 : σ 7 9 = hp1 := by rw [s2, h7]
  have h37 := s4 rfl
  have hb1 : n + 1 + 20 * S0 ≤ 20 * S + 20 := by omega
  have hb2 : n + 1 + (fb + (i + 1)) + (u2 + 3 + 3) + 20 * S0 ≤ 20 * S + 10 := by omega
  have hne2 : ∀ j : Nat, j < i → 0 ≤ τ 20 (fb + p0 + j) := fun j i1 => hne _ (by omega) (by omega) (by omega)
  have w5' : ∀ j, j < fb + p0 + i → z_pv A B st be G (σ 29 j) (τ 20 j) := fun j hj => w5 j (by omega)
  have hfl : fb < fb + p0 := by omega
  clear hb hm w6 w8 c8 hp hEl hvl j1 j2 j3 j4 j5 j6 j7 c3 c4 hne w5 hn rest v1 v2 y5 s7 s6
  have er : ∀ (e : Int) (σ' : mj_S), e = 3 ∨ e = 4 → (∀ q k, ¬ (q = 7 ∧ k = 10) → σ' q k = σ q k) → z_ge τ (mj_up (mj_up τ 0 26 (m : Int)) 0 5 e) → Q (some (.inl e)) σ' := by
    intro e σ' he f1 g
    clear hb2 hne2 h8 h8' h7 hp9
    exact x_err CX W (n' := n + 1) (S' := S) (by omega) (fun q k z => f1 q k (by omega)) (fun q k z => by rw [mj_up_ne (by omega), mj_up_ne (by omega)]) ⟨e8, by rw [f1 7 12 (by omega)]; exact e712, by rw [mj_up_ne (by omega), mj_up_ne (by omega)]; exact e041⟩ mj_up_eq (by omega) (by omega) hb1 (z_ge_tr gs g)
  rcases hfn with ⟨hno, hrf⟩ | ⟨f, c, s, k, fin, f1, f2, f3, f4, f5, f6, f7, hrf, hst, hk, hC, hfin⟩
  · have g := r_calln CX.1 hs h26 hm1 w9 hv n2 n1 hno
    exact c_turn hn1 hK hK4 h10 c9 (by decide) (fun ha => c_o10 (h := fb + p0 + i) (f := fb + p0) h10 ha e7 e100 rfl s1 hp9 h8 hho xdr (fun z σ' q1 => ⟨3, by rw [hrf], fun z => absurd z (by decide), fun _ => er 3 σ' (Or.inl rfl) q1 g⟩) (fun z => absurd z (by rw [hrf]; decide)))
  by_cases hci : c = i
  case neg =>
    have g := r_calla CX.1 hs h26 hm1 w9 hv n2 n1 f1 f2 f3 f4 f5 hci
    rw [if_neg hci] at hrf
    exact c_turn hn1 hK hK4 h10 c9 (by decide) (fun ha => c_o10 (h := fb + p0 + i) (f := fb + p0) h10 ha e7 e100 rfl s1 hp9 h8 hho xdr (fun z σ' q1 => ⟨4, by rw [hrf], fun z => absurd z (by decide), fun _ => er 4 σ' (Or.inr rfl) q1 g⟩) (fun z => absurd z (by rw [hrf]; decide)))
  case pos =>
    rw [if_pos hci] at hrf
    obtain ⟨τ', g, o', r2, r3, r4, r5, r6, r7, r12, r13⟩ := r_call1s CX.1 hs h26 hm1 w9 hv n2 n1 f1 f2 f3 f4 f5 hci ht e31 e100 hfl s3 hv4 h37 y2 y3 y4
    subst hci
    refine c_turn hn1 hK hK4 h10 c9 (by decide) (fun ha => c_o10 (h := fb + p0 + c) (f := fb + p0) h10 ha e7 e100 rfl s1 hp9 h8 hho xdr (fun z => absurd hrf z) (fun _ σ' q1 qv q2 q3 q4 q6 q7 q8 q9 q10 => ⟨0, rfl, fun _ => ?_, fun z => absurd rfl z⟩))
    clear h10 ha hm1 hv4 xdr hn1 h26 hv hb1 f1 f2 f3 f4 f5 f6 n1 n2 hK hK4 er y4
    have W' : z_XW A B st σ0 τ0 (n + 1) σ' τ' (fb + (c + 1)) S fuel be G := by
      clear hb2 hne2 hC g12 g11 h8' h7 h5
      refine xw_mk W (by omega) (fun q k z => q1 q k (by omega)) (fun q k z => o' q k (by omega)) (fun j hj => ?_) ⟨by omega, by rw [q3]; omega, by rw [r6]; omega⟩ ?_ ⟨e8, by rw [q1 7 11 (by omega)]; exact e711, by rw [q1 7 12 (by omega)]; exact e712, by rw [o' 0 41 (by omega)]; exact e041⟩
      · by_cases e : j = fb + c
        · rw [e, q2, r5]; exact Or.inl ⟨rfl, rfl⟩
        · by_cases e2 : j < fb
          · rw [q1 29 j (by omega), o' 20 j (by omega)]; exact w5' j (by omega)
          · have a1 := qv (j - fb) (by omega)
            have a2 := r4 (j - fb) (by omega)
            rw [show fb + (j - fb) = j by omega] at a1 a2
            rw [a1, a2]
            exact w5' _ (by omega)
      · rw [q4, r7, ← w7.1]
        split <;> omega
    have ch1 : z_jc A B st K σ' τ' (m0 + 1) true fin (z_bd (fun j => z_el A B (τ 14 f) j) 0 c []) (c + 2) fb ((fb + c : Nat) : Int) bg fr (m0 + 1) (u2 + 3) := by
      clear hb2 hne2 hC W' w7 w5' h8' h7 qv r4
      refine ⟨0, fin, u2, rfl, rfl, Or.inl ⟨by rw [o' 16 m0 (by omega)]; exact y3, rfl, rfl, hfin, h6', fb + c, rfl, by omega, by omega, fn0, a0, E0, p1, fb0, hole0, bg0, fr0, q0, by rw [q8]; exact g1, by rw [q9]; exact g2, by rw [q10]; exact g3, g4, by rw [o' 23 _ (by omega)]; exact g5, fun z => by rw [o' 23 _ (by omega)]; exact g6 z, g7, g8, g9, z_ev_frame (fun j hj => ⟨o' 21 j (by omega), o' 22 j (by omega)⟩) g10, fun j j1 j2 j3 => by rw [o' 20 j (by omega)]; exact g11 j j1 j2 j3, ?_⟩⟩
      exact z_jc_frame (fun j hj => ⟨o' 16 j (by omega), o' 17 j (by omega), o' 18 j (by omega), o' 19 j (by omega)⟩) (fun j hj => ⟨o' 21 j (by omega), o' 22 j (by omega)⟩) (fun j hj => o' 23 j (by omega)) (fun j hj => o' 20 j (by omega)) (fun j hj => ⟨q1 30 j (by omega), q1 31 j (by omega), q1 32 j (by omega)⟩) g12
    exact x_cgo IH W' f7 hk hC rfl ch1 r2 r3 (by rw [q7, hst]) (by rw [q1 7 8 (by omega)]; exact s1) q6 (by rw [o' 0 36 (by omega)]; exact s3) (by rw [o' 0 37 (by omega)]; exact h37) (by rw [o' 0 38 (by omega)]; exact s5) r12 r13 (fun j hj => by rw [r4 j hj]; exact hne2 j hj) hb2 (z_ge_tr gs g)
/-- both return -/
theorem x_ret {A B : Nat → Int} {st : Nat} {K : z_K} {σ0 τ0 : mj_S} {S0 fuel d : Nat} {Q : mj_Q} {y : Int} {τs : mj_S} {n : Nat} (CX : z_CX A B st K σ0 τ0 S0 fuel Q τs) (IH : z_IH A B st K σ0 τ0 S0 fuel d Q y τs n) (hn : n < 999000) {σ τ : mj_S} {m : Nat} {a : Nat} {E : List (Int × Int)} {pl fb : Nat} {hole : Int} {bg fr u S : Nat} {be : Nat → Nat} {G : Nat → Bool}
    (W : z_XW A B st σ0 τ0 n σ τ (fb + pl) S fuel be G) (h10 : σ 7 10 = a) (h26 : τ 0 26 = (m : Int) + 1) (hm : m < 2700) (SP : z_SP σ τ true E fb hole bg fr) (hne : z_ne τ fb pl hole) (hb : n + (fb + pl) + (u + 3) + 20 * S0 ≤ 20 * S + (if τ 16 m = 1 then 10 else 0)) (gs : z_ge τs τ) (h16 : τ 16 m = 15) (hin : z_in K a 11 0 0) (hbg : bg ≤ fb) {hp : Nat} (hhp : hole = hp) (hfp : fb ≤ hp) (hpl : hole + 2 ≤ (fb : Int) + pl) {fn0 : Bool} {a0 : Nat} {E0 : List (Int × Int)} {p0 fb0 : Nat} {hole0 : Int} {bg0 fr0 q0 : Nat}
    (g1 : σ 30 hp = a0) (g2 : σ 31 hp = fb0) (g3 : σ 32 hp = hole0) (g4 : fr = fr0 + 2) (g5 : τ 23 fr0 = bg0) (g6 : fn0 = true → τ 23 (fr0 + 1) = fb0) (g7 : fb = fb0 + p0) (g8 : hole0 < fb) (g10 : z_ev (τ 21) (τ 22) fb0 bg0 E0 bg) (g11 : ∀ i : Nat, fb0 ≤ i → i < fb → (i : Int) ≠ hole0 → 0 ≤ τ 20 i) (rest : z_jc A B st K σ τ m fn0 a0 E0 (p0 + 1) fb0 hole0 bg0 fr0 q0 u) : qh_c90_22 (d + 30) Q y (n : Int) σ := by
  obtain ⟨hK, hK4⟩ := z_CX_K CX W
  have W0 := W
  obtain ⟨w1, w2, w3, w4, w5, w6, w7, w8, w9⟩ := W0
  obtain ⟨s1, s2, s3, s4, s5, v, s6, s7⟩ := SP
  obtain ⟨j1, j2, j3, j4, j5, j6, j7⟩ := z_jc_bd rest
  obtain ⟨h, eh⟩ : ∃ h : Nat, fb + pl = fb + h + 1 := ⟨pl - 1, by omega⟩
  rw [h16, if_neg (by decide)] at hb
  have h100 := w6.1
  have htop : 0 ≤ τ 20 (fb + h) := hne (fb + h) (by omega) (by omega) (by omega)
  have hpv := w5 (fb + h) (by omega)
  obtain ⟨τ', g, o', r1, r2, r3, r4, r5, r6, r7⟩ := r_ret (h := fb) (i := h) (bg := bg) (fr := fr0) h26 (by omega) w9 ⟨h16, rfl, rfl, rfl⟩ (by rw [w6.2.2, eh]) (by omega) (s4 rfl) s3 (by omega) (by rw [s5, g4]; omega) (by omega)
  have e7 : σ 7 7 = ((fb + h : Nat) : Int) + 1 := by rw [w6.2.1, eh]; omega
  have hp9 : σ 7 9 = hp := by rw [s2, hhp]
  have hb2 : n + 1 + (fb0 + (p0 + 1)) + u + 20 * S0 ≤ 20 * S := by omega
  have e712 := w8.2.2.2.2.1
  have e041 := w8.2.2.2.2.2
  have e8 := w8.1
  refine c_turn (by omega) hK hK4 h10 hin (by decide) (fun ha => c_o11 (h := fb + h) h10 ha e7 (by omega) s1 hp9 (by omega) (by omega) (fun σ' q1 q2 q3 q4 q5 q6 q7 => ⟨0, rfl, fun _ => ?_, fun z => absurd rfl z⟩))
  clear hb w8 hne hn h26 hK hK4 ha h10 hm j1 j2 j3 j4 j5 j6 j7 s4 s6 s7 hpl
  have W' : z_XW A B st σ0 τ0 (n + 1) σ' τ' (fb + 1) S fuel be G := by
    clear g11 hb2
    exact xw_rep W (h' := fb) (by omega) (by omega) (by omega) (fun q k z => q1 q k (by omega)) (fun q k z => o' q k (by omega)) (by rw [q2, r1]; exact hpv) q3 r3 q4 (by rw [o' 0 42 (by omega), if_neg (by omega)]) ⟨e8, by rw [q1 7 12 (by omega)]; exact e712, by rw [o' 0 41 (by omega)]; exact e041⟩
  refine IH (n + 1) (by omega) σ' τ' m fn0 a0 E0 (p0 + 1) fb0 hole0 bg0 fr0 q0 u S be G ⟨by rw [show fb0 + (p0 + 1) = fb + 1 by omega]; exact W', ?_, by rw [q7, g1], r2, ⟨by rw [q5, g2], by rw [q6, g3], by rw [r5, g5], fun z => by rw [r6, g6 z], r7, bg, r4, z_ev_frame (fun j _ => ⟨o' 21 j (by omega), o' 22 j (by omega)⟩) g10⟩, fun j i1 i2 i3 => ?_, by omega⟩ (z_ge_tr gs g)
  · clear hb2 g11 W'
    exact z_jc_fr (fun q k z => q1 q k (by omega)) (fun q k z => o' q k (by omega)) rest
  · by_cases e : j = fb
    · rw [e, r1]; exact htop
    · rw [o' 20 j (by omega)]; exact g11 j i1 (by omega) i3
