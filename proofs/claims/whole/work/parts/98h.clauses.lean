/-! cond -/
theorem l_step2 {τ : mj_S} {m : Nat} {r : Int} (h26 : τ 0 26 = (m : Int) + 1) (hm : m + 3 < 3000) (h5 : τ 0 5 = 0) (hw : τ 16 m = 2) (hx : τ 17 m = r) (hn : τ 18 m = 2) (hr : z_pr r) (hc : z_pr (z_cd (τ 4) r)) (hc2 : z_pr (z_cd (τ 5) (z_cd (τ 4) r))) : z_gl τ (z_l1 (z_l1 (z_l1 (mj_up τ 0 26 (m : Int)) m 2 (z_cd (τ 5) r) 2 0) (m + 1) 16 (z_el (τ 4) (τ 5) (z_cd (τ 4) r) 1) 0 0) (m + 2) 16 (z_cd (τ 4) (z_cd (τ 4) r)) 0 0) := fun d Q y h => by
  refine l_go h26 (by omega) h5 (fun c => absurd c (by omega)) (fun c => absurd c (by omega)) (fun c => absurd c (by omega)) (fun _ c => absurd c (by omega)) (fun _ _ => ⟨hm, by rw [hx]; exact hr, Or.inr ⟨by rw [hx]; exact hc, by rw [hx]; exact hc2, Or.inr hn⟩, fun c => absurd c (by omega), fun c => absurd c (by omega), fun _ => ?_⟩) (Or.inr (Or.inr (Or.inr hw)))
  rw [hx]; exact h
set_option maxHeartbeats 2000000 in
/-- one clause -/
theorem mk_clause {k K0 : Nat} (ih : z_MFd k (K0 + 2)) {σ τ : mj_S} {Q : mj_Q} {A B : Nat → Int} {r pl h : Int} {tl : Bool} {lv s1 m n len st : Nat} {E : List (Int × Int)} (hA : σ 11 = A) (hB : σ 12 = B) (hst : st ≤ 400) (hSE : z_SE st σ τ) (hr : 536870912 ≤ r ∧ r < 536870912 + (st : Int)) (hD : z_D A B 536870912 0 st k s1 (z_cd A r)) (hcl : z_isl B (z_cd A r) 2) (hlv : lv + k ≤ 12) (hpl : 0 ≤ pl) (hpl2 : pl + s1 ≤ 1000) (hMK : z_MK σ τ E n) (hn : n + s1 ≤ 400) (hlen : σ 4 3 = len) (hl2 : len + 3 * s1 ≤ 2400)
    (h26 : τ 0 26 = (m : Int) + 1) (hm : m + 8 * k + 12 ≤ 3000) (h16 : τ 16 m = 2) (h17 : τ 17 m = r) (h18 : τ 18 m = 2) (h5 : τ 0 5 = 0) {y8 : Int} {X : Int → mj_S → Prop}
    (hok : ∀ (σ' τ' : mj_S) (b g : Nat), z_Fc len n σ σ' → z_Fm m n τ τ' → z_MK σ' τ' E n → σ' 4 3 = ((b + 1 : Nat) : Int) → b + 1 ≤ len + 3 * s1 → len ≤ b → z_C A B (z_Kc σ') k E (z_el A B (z_cd A r) 0) pl false len g → z_in (z_Kc σ') g 5 ((b : Int) + 1) 0 → z_C A B (z_Kc σ') k E (z_el A B (z_cd A r) 1) pl tl (g + 1) b → z_in (z_Kc σ') b 4 h 0 → τ' 0 26 = (m : Int) + 1 → τ' 16 m = 2 → τ' 17 m = z_cd B r → τ' 18 m = 2 → τ' 0 5 = 0 → z_gl τ τ' → z_dr r ∧ mj_r (y8 + 1) ∧ X (b : Int) σ')
    (hbad : ∀ (e : Int) (σ' τ' : mj_S), z_Fc len n σ σ' → z_Fm m n τ τ' → len ≤ σ' 4 3 → σ' 4 3 ≤ 2400 → τ' 0 5 = e → (e = 1 ∨ e = 2 ∨ e = 4) → z_gl τ τ' → Q (some (.inl e)) σ') : mj_B mjc_L mjc_Ms (K0 + 2) 68 [.inr (.inl 5), .inl (z_cd A (z_cd A r)), .inl pl, .inl (z_bo false), .inl (lv : Int)] σ (fun r' σ3 => ∃ v4, r' = some (.inl v4) ∧ (v4 = 0 → 0 ≤ σ3 4 3 ∧ ∀ σ5, σ5 = z_put σ3 5 (-1) 0 → mj_B mjc_L mjc_Ms (K0 + 2) 22 [.inr (.inl 2), .inl (z_cd A r), .inl 1] σ5 (fun r' σ6 => ∃ v7, r' = some (.inl v7) ∧ mj_B mjc_L mjc_Ms (K0 + 2) 68 [.inr (.inl 5), .inl v7, .inl pl, .inl (z_bo tl), .inl (lv : Int)] σ6 (fun r' σ8 => ∃ v9, r' = some (.inl v9) ∧ (v9 = 0 → 0 ≤ σ8 4 3 ∧ ∀ σ10, σ10 = z_put σ8 4 h 0 → mj_B mjc_L mjc_Ms (K0 + 2) 61 [.inr (.inl 4), .inl (if σ3 4 3 < 2400 then σ3 4 3 else -1)] σ10 (fun r' σ11 => r' = none ∧ z_dr r ∧ mj_r (y8 + 1) ∧ X (if σ8 4 3 < 2400 then σ8 4 3 else -1) σ11)) ∧ (¬ v9 = 0 → Q (some (.inl v9)) σ8)))) ∧ (¬ v4 = 0 → Q (some (.inl v4)) σ3)) := by
  obtain ⟨q1, q2⟩ := z_SE_cd hSE hr.2
  rw [hA] at q1
  rw [hB] at q2
  obtain ⟨c0, l0⟩ := z_isl_t hcl
  obtain ⟨c1, l1⟩ := z_isl_t l0
  obtain ⟨k0, p0, s0, t0, g1, g2, g3, g4, g5, g6, g7⟩ := z_D_p (by decide) hD c0.1
  obtain ⟨k1, p1, s2, t1, i1, i2, i3, i4, i5, i6, i7⟩ := z_D_p (by decide) g7 c1.1
  have D0 : z_D A B 536870912 0 st k s0 (z_cd A (z_cd A r)) := z_D_mono (Int.le_refl _) (Nat.le_refl _) (by omega) (by omega) g6
  have D1 : z_D A B 536870912 0 st k s2 (z_cd A (z_cd B (z_cd A r))) := z_D_mono (Int.le_refl _) (Nat.le_refl _) (by omega) (by omega) i6
  obtain ⟨u1, u2⟩ := z_SE_cd hSE (x := z_cd A r) (by omega)
  rw [hA] at u1
  rw [hB] at u2
  obtain ⟨w1, w2⟩ := z_SE_cd hSE (x := z_cd B (z_cd A r)) (by omega)
  rw [hA] at w1
  have gl := l_step2 h26 (by omega) h5 h16 h17 h18 (by omega) (by rw [q1]; omega) (by rw [q1, u2]; omega)
  have eel : z_el (τ 4) (τ 5) (z_cd A r) 1 = z_cd A (z_cd B (z_cd A r)) := by
    show z_cd (τ 4) (z_cd (τ 5) (z_cd A r)) = _
    rw [u2, w1]
  rw [q1, q2, eel, u1] at gl
  generalize hτ : z_l1 (z_l1 (z_l1 (mj_up τ 0 26 (m : Int)) m 2 (z_cd B r) 2 0) (m + 1) 16 (z_cd A (z_cd B (z_cd A r))) 0 0) (m + 2) 16 (z_cd A (z_cd A r)) 0 0 = τ2 at gl
  have o : ∀ q j, ¬ ((16 ≤ q ∧ q ≤ 19 ∧ (j = m ∨ j = m + 1 ∨ j = m + 2)) ∨ (q = 0 ∧ j = 26)) → τ2 q j = τ q j := fun q j c => by
    rw [← hτ, z_l1_o (by omega), z_l1_o (by omega), z_l1_o (by omega), mj_up_ne (by omega)]
  have F2 : z_Fm m n τ τ2 := ⟨fun q j c => o q j (by omega), fun i hi => ⟨o 16 i (by omega), o 17 i (by omega), o 18 i (by omega), o 19 i (by omega)⟩, fun i hi => ⟨o 21 i (by omega), o 22 i (by omega)⟩⟩
  have v2 : τ2 16 (m + 2) = 16 ∧ τ2 17 (m + 2) = z_cd A (z_cd A r) ∧ τ2 0 26 = ((m + 2 : Nat) : Int) + 1 := by
    rw [← hτ]
    obtain ⟨a, b, _, _, c⟩ := @z_l1_v (z_l1 (z_l1 (mj_up τ 0 26 (m : Int)) m 2 (z_cd B r) 2 0) (m + 1) 16 (z_cd A (z_cd B (z_cd A r))) 0 0) (m + 2) 16 (z_cd A (z_cd A r)) 0 0
    exact ⟨a, b, by rw [c]; omega⟩
  have v1 : τ2 16 (m + 1) = 16 ∧ τ2 17 (m + 1) = z_cd A (z_cd B (z_cd A r)) := by
    rw [← hτ]
    obtain ⟨a, b, _, _, _⟩ := @z_l1_v (z_l1 (mj_up τ 0 26 (m : Int)) m 2 (z_cd B r) 2 0) (m + 1) 16 (z_cd A (z_cd B (z_cd A r))) 0 0
    refine ⟨?_, ?_⟩
    · rw [z_l1_o (by omega)]; exact a
    · rw [z_l1_o (by omega)]; exact b
  have v0 : τ2 16 m = 2 ∧ τ2 17 m = z_cd B r ∧ τ2 18 m = 2 := by
    rw [← hτ]
    obtain ⟨a, b, c, _, _⟩ := @z_l1_v (mj_up τ 0 26 (m : Int)) m 2 (z_cd B r) 2 0
    refine ⟨?_, ?_, ?_⟩
    · rw [z_l1_o (by omega), z_l1_o (by omega)]; exact a
    · rw [z_l1_o (by omega), z_l1_o (by omega)]; exact b
    · rw [z_l1_o (by omega), z_l1_o (by omega)]; exact c
  have MK2 : z_MK σ τ2 E n := z_MK_F hMK (z_Fc_rf len n σ) F2 hMK.1 (by rw [o 0 33 (by omega)]; exact hMK.2.2.1)
  refine ih σ τ2 _ _ pl false lv s0 (m + 2) n len st E hst (z_SE_F hSE (z_Fc_rf len n σ) F2) (by rw [hA, hB]; exact D0) hlv hpl (by omega) MK2 (by omega) hlen (by omega) v2.2.2 (by omega) v2.1 v2.2.1 (by rw [o 0 5 (by omega)]; exact h5) (fun σ3 τ3 len3 a1 a2 a3 a4 a5 a6 a7 a8 a9 => ?_) (fun er σ3 τ3 a1 a2 a3 a4 a5 a6 a7 => ⟨_, rfl, fun q => absurd q (by omega), fun _ => hbad er σ3 τ3 a1 (z_Fm_tr (by omega) (Nat.le_refl _) F2 a2) a3 a4 a5 a6 (z_gl_tr gl a7)⟩)
  rw [hA, hB] at a6
  have ll3 := z_C_lt k _ _ _ _ _ _ a6
  refine ⟨_, rfl, fun _ => ⟨by omega, fun σ5 e5 => ?_⟩, fun q => absurd rfl q⟩
  rw [z_put_1 a4 (by omega)] at e5
  obtain ⟨v5, v5'⟩ := @z_p1_v σ3 len3 5 (-1) 0
  rw [← e5] at v5 v5'
  have F5 : z_Fc len3 n σ3 σ5 := by rw [e5]; exact z_Fc_p
  have F05 : z_Fc len n σ σ5 := z_Fc_tr (by omega) (Nat.le_refl _) a1 F5
  have q11 : σ5 11 = A := by funext i; rw [F05.1 11 i (by omega), hA]
  have q12 : σ5 12 = B := by funext i; rw [F05.1 12 i (by omega), hB]
  have MK5 : z_MK σ5 τ3 E n := z_MK_F a3 F5 (z_Fm_rf m n τ3) (by rw [e5, z_p1_o (by omega)]; exact a3.1) a3.2.2.1
  refine t_c22 (d := K0) (k := 1) (by decide) (fun i hi => ?_) ⟨_, rfl, ?_⟩
  · rw [q12]
    match i, hi with
    | 0, _ => show z_dr (z_cd A r); omega
    | 1, _ => show z_dr (z_cd B (z_cd A r)); omega
  rw [q11, q12]
  show mj_B mjc_L mjc_Ms (K0 + 2) 68 [.inr (.inl 5), .inl (z_cd A (z_cd B (z_cd A r))), .inl pl, .inl (z_bo tl), .inl (lv : Int)] σ5 _
  have k1' := a2.2.1 (m + 1) (by omega)
  have k0' := a2.2.1 m (by omega)
  have M03 : z_Fm m n τ τ3 := z_Fm_tr (by omega) (Nat.le_refl _) F2 a2
  refine ih σ5 τ3 _ _ pl tl lv s2 (m + 1) n (len3 + 1) st E hst (z_SE_F hSE F05 M03) (by rw [q11, q12]; exact D1) hlv hpl (by omega) MK5 (by omega) v5' (by omega) (by rw [a7]; omega) (by omega) (by rw [k1'.1]; exact v1.1) (by rw [k1'.2.1]; exact v1.2) a8 (fun σ8 τ8 len8 b1 b2 b3 b4 b5 b6 b7 b8 b9 => ?_) (fun er σ8 τ8 b1 b2 b3 b4 b5 b6 b7 => ⟨_, rfl, fun q => absurd q (by omega), fun _ => hbad er σ8 τ8 (z_Fc_tr (by omega) (Nat.le_refl _) F05 b1) (z_Fm_tr (by omega) (Nat.le_refl _) M03 b2) (by omega) b4 b5 b6 (z_gl_tr (z_gl_tr gl a9) b7)⟩)
  rw [q11, q12] at b6
  have ll8 := z_C_lt k _ _ _ _ _ _ b6
  refine ⟨_, rfl, fun _ => ⟨by omega, fun σ10 e10 => ?_⟩, fun q => absurd rfl q⟩
  rw [z_put_1 b4 (by omega)] at e10
  obtain ⟨v10, v10'⟩ := @z_p1_v σ8 len8 4 h 0
  rw [← e10] at v10 v10'
  have F10 : z_Fc len8 n σ8 σ10 := by rw [e10]; exact z_Fc_p
  have in5 : z_in (z_Kc σ10) len3 5 (-1) 0 := z_Ks_in (lo := 0) (hi := len3 + 1) (z_Ks_tr (z_Ks_F b1 (Nat.le_refl _)) (z_Ks_F F10 (by omega))) (by omega) (by omega) v5
  rw [a4, if_pos (by omega), b4, if_pos (by omega)]
  refine t_c61 (d := K0 + 1) (js := [len3]) (len := len8 + 1) (by omega) v10' (fun i hi => by simp at hi; omega) (by simp) ⟨rfl, fun i hi => absurd hi (by simp), in5.2.1⟩ (fun σ11 d1 d2 => ⟨rfl, ?_⟩)
  have F11 : z_Fc len3 n σ10 σ11 := z_Fc_a d1 (fun j hj => by simp at hj; omega)
  have F8_11 : z_Fc len3 n σ8 σ11 := z_Fc_tr (Nat.le_refl _) (Nat.le_refl _) (z_Fc_tr (by omega) (Nat.le_refl _) (z_Fc_rf len3 n σ8) F10) F11
  have FF : z_Fc len n σ σ11 := z_Fc_tr (by omega) (Nat.le_refl _) (z_Fc_tr (by omega) (Nat.le_refl _) F05 b1) F8_11
  have kA : z_Ks len len3 σ3 σ11 := z_Ks_tr (z_Ks_tr (z_Ks_F F5 (Nat.le_refl _)) (z_Ks_F b1 (by omega))) (z_Ks_F F8_11 (Nat.le_refl _))
  have kB : z_Ks (len3 + 1) len8 σ8 σ11 := z_Ks_tr (z_Ks_F F10 (Nat.le_refl _)) (z_Ks_a d1 (fun j h1 h2 hj => by simp at hj; omega))
  have i11 : z_in (z_Kc σ11) len3 5 ((len8 : Int) + 1) 0 := ⟨by show σ11 19 len3 = 5; rw [d1 19 len3 (fun z => absurd z.1 (by decide))]; exact in5.1, by show σ11 20 len3 = _; rw [d2 len3 (by simp)]; omega, by show σ11 21 len3 = 0; rw [d1 21 len3 (fun z => absurd z.1 (by decide))]; exact in5.2.2⟩
  have i10 : z_in (z_Kc σ11) len8 4 h 0 := z_Ks_in (lo := len8) (hi := len8 + 1) (z_Ks_a d1 (fun j h1 h2 hj => by simp at hj; omega)) (Nat.le_refl _) (by omega) v10
  have m0 := b2.2.1 m (by omega)
  exact hok σ11 τ8 len8 len3 FF (z_Fm_tr (by omega) (Nat.le_refl _) M03 b2) (z_MK_F b3 F8_11 (z_Fm_rf m n τ8) (by rw [d1 5 4 (fun z => absurd z.1 (by decide)), e10, z_p1_o (by omega)]; exact b3.1) b3.2.2.1) (by rw [d1 4 3 (fun z => absurd z.1 (by decide))]; exact v10') (by omega) (by omega) (z_Ks_C kA a6) i11 (z_Ks_C kB b6) i10 (by rw [b7]; omega) (by rw [m0.1, k0'.1]; exact v0.1) (by rw [m0.2.1, k0'.2.1]; exact v0.2.1) (by rw [m0.2.2.1, k0'.2.2.1]; exact v0.2.2) b8 (z_gl_tr (z_gl_tr gl a9) b9)
set_option maxHeartbeats 1000000 in
theorem mk_clauses {k K0 : Nat} (ih : z_MFd k (K0 + 2)) {σ0 τ0 : mj_S} {Q : mj_Q} {A B : Nat → Int} {y1 pl : Int} {tl : Bool} {lv m n len0 st c bnd : Nat} {E : List (Int × Int)} {e : Nat → Int} (hA : A = σ0 11) (hB : B = σ0 12) (hst : st ≤ 400) (hSE : z_SE st σ0 τ0) (hlv : lv + k ≤ 12) (hpl : 0 ≤ pl) (hm : m + 8 * k + 12 ≤ 3000) (hbnd : bnd ≤ 2400) (hc4 : c ≤ 400)
    (hok : ∀ (σ' τ' : mj_S) (f : Nat → Nat), z_Fc len0 n σ0 σ' → z_Fm m n τ0 τ' → z_MK σ' τ' E n → σ' 4 3 = ((f c + 1 : Nat) : Int) → f c + 1 ≤ bnd → f 0 = len0 → (∀ j, j < c → f j < f (j + 1) ∧ z_sg A B k E e pl tl (z_Kc σ') j (f j) (f (j + 1) - 1) ∧ z_in (z_Kc σ') (f (j + 1) - 1) 4 ((f c + 1 : Nat) : Int) 0) → z_in (z_Kc σ') (f c) 2 268435456 0 → τ' 0 26 = m → τ' 0 5 = 0 → z_gl τ0 τ' → Q (some (.inl 0)) σ')
    (hbad : ∀ (e : Int) (σ' τ' : mj_S), z_Fc len0 n σ0 σ' → z_Fm m n τ0 τ' → len0 ≤ σ' 4 3 → σ' 4 3 ≤ 2400 → τ' 0 5 = e → (e = 1 ∨ e = 2 ∨ e = 4) → z_gl τ0 τ' → Q (some (.inl e)) σ') :
    ∀ (j i : Nat) (σ τ : mj_S) (r h : Int) (s len : Nat) (js : List Nat), i + j = c → z_Fc len0 n σ0 σ → z_Fm m n τ0 τ → z_MK σ τ E n → σ 4 3 = len → z_pd (z_sg A B k E e pl tl) 4 (z_Kc σ) i len0 len js → js.length = i → z_chn (σ 20) js h → z_isl B r j → (∀ t, t < j → z_isl B (z_el A B r t) 2) → z_D A B 536870912 0 st (k + 1) s r → (∀ t, t < j → e (i + t) = z_el A B r t) → len + 3 * s + 1 ≤ bnd → pl + s ≤ 1000 → n + s ≤ 400 → τ 0 26 = (m : Int) + 1 → τ 16 m = 2 → τ 17 m = r → τ 18 m = 2 → τ 0 5 = 0 → z_gl τ0 τ → qh_c79_9 (K0 + 2) Q y1 (c : Int) pl (z_bo tl) (lv : Int) h r (i : Int) σ := by
  intro j
  induction j with
  | zero =>
    intro i σ τ r h s len js hij f1 f2 f3 f4 f5 fl fc f6 f6' f7 f8 f9 f10 f11 h26 h16 h17 h18 h5 gl
    have hic : i = c := by omega
    subst hic
    have hnil := z_isl_0 f6
    obtain ⟨p1, p2⟩ := z_pd_in f5
    refine qw_c79_9 (d := K0) ⟨fun _ => ⟨by omega, fun σ1 e1 => ?_⟩, fun q => absurd q (by omega)⟩
    rw [z_put_1 f4 (by omega)] at e1
    obtain ⟨v1, v1'⟩ := @z_p1_v σ len 2 268435456 0
    rw [← e1] at v1 v1'
    have F1 : z_Fc len n σ σ1 := by rw [e1]; exact z_Fc_p
    refine t_c61 (d := K0 + 1) (js := js) (len := len + 1) (by omega) v1' (fun q hq => by have := p2 q hq; omega) (by omega) (z_chn_frame (fun q hq => (F1.2.1 q (p2 q hq).2).2.1) fc) (fun σ2 c1 c2 => ⟨rfl, ?_⟩)
    have F2 : z_Fc len0 n σ1 σ2 := z_Fc_a c1 (fun q hq => (p2 q hq).1)
    have F12 : z_Fc len0 n σ σ2 := z_Fc_tr (Nat.le_refl _) (Nat.le_refl _) (z_Fc_tr p1 (Nat.le_refl _) (z_Fc_rf len0 n σ) F1) F2
    obtain ⟨f, w1, w2, w3⟩ := z_pd_fin (K' := z_Kc σ2) (T := ((len + 1 : Nat) : Int)) z_stb_sg (fun q q1 q2 => ⟨by show σ2 19 q = σ 19 q; rw [c1 19 q (fun z => absurd z.1 (by decide))]; exact (F1.2.1 q q2).1, by show σ2 21 q = σ 21 q; rw [c1 21 q (fun z => absurd z.1 (by decide))]; exact (F1.2.1 q q2).2.2⟩) (fun q q1 q2 q3 => by show σ2 20 q = σ 20 q; rw [c1 20 q (fun z => q3 z.2)]; exact (F1.2.1 q q2).2.1) (fun q hq => c2 q hq) f5
    refine hok σ2 (mj_up τ 0 26 (m : Int)) f (z_Fc_tr (Nat.le_refl _) (Nat.le_refl _) f1 F12) (z_Fm_tr (Nat.le_refl _) (Nat.le_refl _) f2 z_pop) (z_MK_F f3 F12 z_pop (by rw [c1 5 4 (fun z => absurd z.1 (by decide)), e1, z_p1_o (by omega)]; exact f3.1) (by rw [mj_up_ne (by omega)]; exact f3.2.2.1)) (by rw [c1 4 3 (fun z => absurd z.1 (by decide)), w2]; exact v1') (by omega) w1 (by rw [w2]; exact w3) ?_ mj_up_eq (by rw [mj_up_ne (by omega)]; exact h5) (z_gl_tr gl (l_nil h26 (by omega) h5 h16 h17 (by omega)))
    rw [w2]
    exact z_Ks_in (lo := len) (hi := len + 1) (z_Ks_a c1 (fun q q1 q2 hq => by have := p2 q hq; omega)) (Nat.le_refl _) (by omega) v1
  | succ j ihj =>
    intro i σ τ r h s len js hij f1 f2 f3 f4 f5 fl fc f6 f6' f7 f8 f9 f10 f11 h26 h16 h17 h18 h5 gl
    obtain ⟨hr, hl2⟩ := z_isl_t f6
    obtain ⟨k', p, s1, s2, g1, g2, g3, g4, g5, g6, g7⟩ := z_D_p (by decide) f7 hr.1
    have hk' : k' = k := by omega
    subst hk'
    have eA : σ 11 = A := by funext x; rw [hA]; exact f1.1 11 x (by omega)
    have eB : σ 12 = B := by funext x; rw [hB]; exact f1.1 12 x (by omega)
    have e0 : e i = z_cd A r := by have := f8 0 (by omega); rw [Nat.add_zero] at this; exact this
    have hcl : z_isl B (z_cd A r) 2 := f6' 0 (by omega)
    obtain ⟨c0, _⟩ := z_isl_t hcl
    have hD1 : z_D A B 536870912 0 st k' s1 (z_cd A r) := z_D_mono (Int.le_refl _) (Nat.le_refl _) (by omega) (Nat.le_refl _) g6
    obtain ⟨p1, p2⟩ := z_pd_in f5
    refine qw_c79_9 (d := K0) ⟨fun q => absurd q (by omega), fun _ => ?_⟩
    rw [eA]
    refine ⟨by omega, by omega, ?_⟩
    refine mk_clause ih eA eB hst (z_SE_F hSE f1 f2) (r := r) (h := h) (tl := tl) (s1 := s1) (m := m) (len := len) (lv := lv) (pl := pl) ⟨hr.1, by omega⟩ hD1 hcl hlv hpl (by omega) f3 (by omega) f4 (by omega) h26 hm h16 h17 h18 h5 (X := fun b σ11 => qh_c79_9 (K0 + 2) Q y1 (c : Int) pl (z_bo tl) (lv : Int) b (z_cd (σ11 12) r) ((i : Int) + 1) σ11) (fun σ' τ' b g k1 k2 k3 k4 k5 k6 k7 k8 k9 k10 k11 k12 k13 k14 k15 k16 => ⟨by omega, by unfold mj_r; omega, ?_⟩) (fun er σ' τ' k1 k2 k3 k4 k5 k6 k7 => hbad er σ' τ' (z_Fc_tr p1 (Nat.le_refl _) f1 k1) (z_Fm_tr (Nat.le_refl _) (Nat.le_refl _) f2 k2) (by omega) k4 k5 k6 (z_gl_tr gl k7))
    have eB' : σ' 12 = B := by funext x; rw [k1.1 12 x (by omega), eB]
    show qh_c79_9 (K0 + 2) Q y1 (c : Int) pl (z_bo tl) (lv : Int) (b : Int) (z_cd (σ' 12) r) ((i : Int) + 1) σ'
    rw [eB', show ((i : Int) + 1) = ((i + 1 : Nat) : Int) by omega]
    refine ihj (i + 1) σ' τ' (z_cd B r) (b : Int) s2 (b + 1) (b :: js) (by omega) (z_Fc_tr p1 (Nat.le_refl _) f1 k1) (z_Fm_tr (Nat.le_refl _) (Nat.le_refl _) f2 k2) k3 k4 (z_pd_s (z_pd_frame z_stb_sg (z_Fc_K k1 (Nat.le_refl _)) f5) ⟨by rw [e0]; exact hcl, g, by rw [e0]; exact k7, k8, by rw [e0]; exact k9⟩ k6 k10.1 k10.2.2) (by rw [List.length_cons, fl]) (z_chn_cons (fun q hq => by have := p2 q hq; omega) (fun q hq => (k1.2.1 q (p2 q hq).2).2.1) k10.2.1 fc) hl2 (fun t ht => by rw [z_el_s]; exact f6' (t + 1) (by omega)) g7 (fun t ht => ?_) (by omega) (by omega) (by omega) k11 k12 k13 k14 k15 (z_gl_tr gl k16)
    rw [z_el_s, show i + 1 + t = i + (t + 1) by omega]
    exact f8 (t + 1) (by omega)
