/-! what is done with values; then all forms -/
theorem t_c75g {d : Nat} {Q : mj_Q} {σ : mj_S} {hd t : Int} {c len n : Nat} (h1 : (len : Int) ≤ σ 4 3) (h2 : σ 4 3 ≤ 2400) (hc : c ≤ 400) (h : ∀ σ', z_Fc len n σ σ' → len ≤ σ' 4 3 → σ' 4 3 ≤ 2400 → Q none σ') : mj_B mjc_L mjc_Ms (d + 3) 75 [.inr (.inl 5), .inl hd, .inl (c : Int), .inl t] σ Q := by
  have put : ∀ a b e : Int, 0 ≤ σ 4 3 ∧ ∀ σ1, σ1 = z_put σ a b e → Q none σ1 := fun a b e => ⟨by omega, fun σ1 e1 => by
    obtain ⟨w1, w2, w3⟩ := z_Fc_put (len := len) (n := n) (σ := σ) (a := a) (b := b) (c := e) h1 h2
    rw [e1]; exact h _ w1 w2 w3⟩
  have go : ∀ j i σ', i + j = c → z_Fc len n σ σ' → (len : Int) ≤ σ' 4 3 → σ' 4 3 ≤ 2400 → qh_c75_40 (d + 2) Q hd (c : Int) t (i : Int) σ' := by
    intro j
    induction j with
    | zero => exact fun i σ' hij f1 f2 f3 => qw_c75_40 ⟨fun _ => h σ' f1 f2 f3, fun q => absurd q (by omega)⟩
    | succ j ih =>
      intro i σ' hij f1 f2 f3
      refine qw_c75_40 ⟨fun q => absurd q (by omega), fun _ => ⟨by omega, fun σ1 e1 => ⟨by unfold mj_r; omega, ?_⟩⟩⟩
      obtain ⟨w1, w2, w3⟩ := z_Fc_put (len := len) (n := n) (σ := σ') (a := 268435466) (b := 0) (c := 0) f2 f3
      rw [show ((i : Int) + 1) = ((i + 1 : Nat) : Int) by omega, e1]
      exact ih (i + 1) _ (by omega) (z_Fc_tr (Nat.le_refl _) (Nat.le_refl _) f1 w1) w2 w3
  refine wq_c75 ⟨fun _ => ⟨fun _ => ⟨fun _ => put _ _ _, fun _ => put _ _ _⟩, fun _ => ⟨by omega, fun σ3 e3 => ?_⟩⟩, fun _ => put _ _ _⟩
  obtain ⟨w1, w2, w3⟩ := z_Fc_put (len := len) (n := n) (σ := σ) (a := 2) (b := 268435456) (c := 0) h1 h2
  rw [e3]
  exact go c 0 _ (by omega) w1 w2 w3
theorem t_c75 {d : Nat} {Q : mj_Q} {σ : mj_S} {hd : Int} {tl : Bool} {c len n : Nat} (h1 : σ 4 3 = len) (h2 : len + 1 + c ≤ 2400)
    (hlist : hd = 268435464 → ∀ σ', z_Fc len n σ σ' → σ' 5 4 = σ 5 4 → σ' 4 3 = ((len + 1 + c : Nat) : Int) → z_in (z_Kc σ') len 2 268435456 0 → (∀ i, i < c → z_in (z_Kc σ') (len + 1 + i) 268435466 0 0) → Q none σ')
    (hprim : 268435466 ≤ hd → hd ≤ 268435476 → Q none (z_p1 σ len hd 0 0)) (hcall : ¬ hd = 268435464 → ¬ (268435466 ≤ hd ∧ hd ≤ 268435476) → Q none (z_p1 σ len (if tl then 10 else 9) hd (c : Int))) : mj_B mjc_L mjc_Ms (d + 3) 75 [.inr (.inl 5), .inl hd, .inl (c : Int), .inl (z_bo tl)] σ Q := by
  have go : hd = 268435464 → ∀ j i σ', i + j = c → z_Fc len n σ σ' → σ' 5 4 = σ 5 4 → σ' 4 3 = ((len + 1 + i : Nat) : Int) → z_in (z_Kc σ') len 2 268435456 0 → (∀ t, t < i → z_in (z_Kc σ') (len + 1 + t) 268435466 0 0) → qh_c75_40 (d + 2) Q hd (c : Int) (z_bo tl) (i : Int) σ' := by
    intro hh j
    induction j with
    | zero =>
      intro i σ' hij f1 f1' f2 f3 f4
      have : i = c := by omega
      subst this
      exact qw_c75_40 ⟨fun _ => hlist hh σ' f1 f1' f2 f3 f4, fun q => absurd q (by omega)⟩
    | succ j ih =>
      intro i σ' hij f1 f1' f2 f3 f4
      refine qw_c75_40 ⟨fun q => absurd q (by omega), fun _ => ⟨by omega, fun σ1 e1 => ⟨by unfold mj_r; omega, ?_⟩⟩⟩
      rw [z_put_1 f2 (by omega)] at e1
      obtain ⟨v1, v1'⟩ := @z_p1_v σ' (len + 1 + i) 268435466 0 0
      rw [← e1] at v1 v1'
      have F1 : z_Fc (len + 1 + i) n σ' σ1 := by rw [e1]; exact z_Fc_p
      rw [show ((i : Int) + 1) = ((i + 1 : Nat) : Int) by omega]
      refine ih (i + 1) σ1 (by omega) (z_Fc_tr (by omega) (Nat.le_refl _) f1 F1) (by rw [e1, z_p1_o (by omega)]; exact f1') v1' (z_Ks_in (lo := 0) (z_Ks_F F1 (Nat.le_refl _)) (by omega) (by omega) f3) (fun t ht => ?_)
      by_cases e : t = i
      · rw [e]; exact v1
      · exact z_Ks_in (lo := 0) (z_Ks_F F1 (Nat.le_refl _)) (by omega) (by omega) (f4 t (by omega))
  refine wq_c75 ⟨fun c1 => ⟨fun c2 => ⟨fun c3 => ⟨by omega, fun σ1 e1 => ?_⟩, fun c3 => ⟨by omega, fun σ1 e1 => ?_⟩⟩, fun c2 => ⟨by omega, fun σ3 e3 => ?_⟩⟩, fun c1 => ⟨by omega, fun σ4 e4 => ?_⟩⟩
  · have := hcall c2 c1
    cases tl with
    | true => exact absurd c3 (by decide)
    | false => rw [e1, z_put_1 h1 (by omega)]; exact this
  · have := hcall c2 c1
    cases tl with
    | true => rw [e1, z_put_1 h1 (by omega)]; exact this
    | false => exact absurd rfl c3
  · rw [z_put_1 h1 (by omega)] at e3
    obtain ⟨v1, v1'⟩ := @z_p1_v σ len 2 268435456 0
    rw [← e3] at v1 v1'
    exact go c2 c 0 σ3 (by omega) (by rw [e3]; exact z_Fc_p) (by rw [e3, z_p1_o (by omega)]) v1' v1 (fun t ht => absurd ht (Nat.not_lt_zero t))
  · rw [e4, z_put_1 h1 (by omega)]; exact hprim c1.1 c1.2
theorem l_look {τ τ' : mj_S} {m : Nat} {x : Int} (h26 : τ 0 26 = (m : Int) + 1) (hm : m < 3000) (h5 : τ 0 5 = 0) (hw : τ 16 m = 16) (hx : τ 17 m = x) (h : ∀ (d : Nat) (Q : mj_Q), Q none τ' → mj_B mjm_L mjm_Ms (d + 20) 29 [.inr (.inl 0), .inl x] (mj_up τ 0 26 (m : Int)) Q) : z_gl τ τ' := fun d Q y q => by
  refine l_go h26 hm h5 (fun _ => ?_) (fun c => absurd c (by omega)) (fun c => absurd c (by omega)) (fun c => absurd c (by omega)) (fun c => absurd c (by omega)) (Or.inl hw)
  rw [hx]
  exact h d _ ⟨rfl, q⟩
/-- the same list in both stores -/
theorem z_SE_all {st : Nat} {σ τ : mj_S} {A B : Nat → Int} (hA : σ 11 = A) (hB : σ 12 = B) (h : z_SE st σ τ) {k s c : Nat} {y : Int} (hD : z_D A B 536870912 0 st k s y) (hl : z_len B y c) :
    z_len (τ 5) y c ∧ (∀ i, i ≤ c → z_nth (τ 5) y i = z_nth B y i) ∧ (∀ i, i < c → z_el (τ 4) (τ 5) y i = z_el A B y i) ∧ (z_cpl (τ 4) (τ 5) y c ↔ z_cpl A B y c) ∧ ∀ i, i < c → z_el (τ 4) (τ 5) (z_el (τ 4) (τ 5) y i) 0 = z_el A B (z_el A B y i) 0 := by
  have hf : ∀ i, i < st → i < 400 → τ 4 i = A i ∧ τ 5 i = B i := fun i h1 _ => by rw [← hA, ← hB]; exact h i h1
  have hf' : ∀ i, i < st → i < 400 → A i = τ 4 i ∧ B i = τ 5 i := fun i h1 h2 => ⟨(hf i h1 h2).1.symm, (hf i h1 h2).2.symm⟩
  obtain ⟨g1, g2⟩ := z_D_els (A' := τ 4) (B' := τ 5) (by decide) hf c hD hl
  refine ⟨⟨fun i hi => by rw [g1 i (by omega)]; exact hl.1 i hi, by rw [g1 c (Nat.le_refl _)]; exact hl.2⟩, g1, fun i hi => (g2 i hi).1, ⟨fun z i hi => ?_, fun z i hi => ?_⟩, fun i hi => ?_⟩
  · obtain ⟨e, k', s', _, _, h3⟩ := g2 i hi
    have := z i hi
    rw [e] at this
    exact z_D_isl (A' := A) (B' := B) (by decide) hf' (z_D_frame (fun i _ h1 h2 => hf i h1 h2) h3) this
  · obtain ⟨e, k', s', _, _, h3⟩ := g2 i hi
    rw [e]
    exact z_D_isl (by decide) hf h3 (z i hi)
  · obtain ⟨e, k', s', _, _, h3⟩ := g2 i hi
    rw [e]
    show z_cd (τ 4) (z_el A B y i) = z_cd A (z_el A B y i)
    rw [← hA]
    refine (z_SE_cd h ?_).1
    by_cases c1 : 536870912 ≤ z_el A B y i
    · obtain ⟨k2, p2, s2, t2, _, j2, j3, _⟩ := z_D_p (by decide) h3 c1
      rw [hA]; omega
    · rw [hA]; omega
set_option maxHeartbeats 2000000 in
/-- what the reference makes of a list with a symbol as its head -/
theorem look_all {σ τ : mj_S} {A B : Nat → Int} {x hd : Int} {n m st k s c : Nat} (hA : σ 11 = A) (hB : σ 12 = B) (hst : st ≤ 400) (hs : s ≤ 400) (hSE : z_SE st σ τ) (hD : z_D A B 536870912 0 st (k + 1) s x) (hl : z_isl B x (n + 1)) (hhd : z_cd A x = hd) (h1 : 268435456 ≤ hd) (h2 : hd < 536870912) (hlc : n = 2 → z_len B (z_cd A (z_cd B x)) c)
    (h26 : τ 0 26 = (m : Int) + 1) (hm : m + 8 ≤ 3000) (h5 : τ 0 5 = 0) (h16 : τ 16 m = 16) (h17 : τ 17 m = x) :
    ((hd = 268435458 ∧ ¬ n = 1) ∨ (hd = 268435459 ∧ ¬ n = 3) ∨ (hd = 268435460 ∧ (¬ n = 2 ∨ ¬ (z_nth B (z_cd A (z_cd B x)) c = 268435456 ∧ z_cpl A B (z_cd A (z_cd B x)) c ∧ z_vs (fun i => z_el A B (z_el A B (z_cd A (z_cd B x)) i) 0) c))) ∨ (hd = 268435461 ∧ ¬ z_cpl A B (z_cd B x) n) ∨ hd = 268435465 → z_gl τ (mj_up (mj_up τ 0 26 (m : Int)) 0 5 1)) ∧
    (268435466 ≤ hd → hd ≤ 268435476 → ¬ (n : Int) = z_ar hd → z_gl τ (mj_up (mj_up τ 0 26 (m : Int)) 0 5 4)) ∧
    (hd = 268435458 → n = 1 → z_gl τ (mj_up τ 0 26 (m : Int))) ∧
    (hd = 268435460 → n = 2 → z_nth B (z_cd A (z_cd B x)) c = 268435456 → z_cpl A B (z_cd A (z_cd B x)) c → z_vs (fun i => z_el A B (z_el A B (z_cd A (z_cd B x)) i) 0) c → z_gl τ (z_l1 (z_l1 (z_l1 (z_l1 (mj_up τ 0 26 (m : Int)) m 18 268435456 (c : Int) 0) (m + 1) 16 (z_el A B x 2) 0 0) (m + 2) 17 (z_cd A (z_cd B x)) 0 0) (m + 3) 2 (z_cd A (z_cd B x)) 1 0)) ∧
    (hd = 268435461 → z_cpl A B (z_cd B x) n → z_gl τ (z_l1 (mj_up τ 0 26 (m : Int)) m 2 (z_cd B x) 2 0)) ∧
    (¬ hd = 268435458 → ¬ hd = 268435460 → ¬ hd = 268435461 → ¬ hd = 268435465 → (hd = 268435459 → n = 3) → (268435466 ≤ hd → hd ≤ 268435476 → (n : Int) = z_ar hd) → z_gl τ (z_l1 (mj_up τ 0 26 (m : Int)) m 2 (z_cd B x) 0 0)) := by
  obtain ⟨r0, l0⟩ := z_isl_t hl
  obtain ⟨k0, p0, sh, sa, g1, g2, g3, g4, g5, g6, g7⟩ := z_D_p (by decide) hD r0.1
  have hcn := z_D_cnt (by decide) hD hl
  obtain ⟨x1, x2, x3, _, _⟩ := z_SE_all hA hB hSE hD hl.1
  obtain ⟨q1, q2⟩ := z_SE_cd hSE (x := x) (by omega)
  rw [hA] at q1
  rw [hB] at q2
  obtain ⟨y1, y2, y3, y4, _⟩ := z_SE_all hA hB hSE g7 l0.1
  -- all of it at the state where the form is taken off
  have w4 : mj_up τ 0 26 (m : Int) 4 = τ 4 := z_rq _ _ _ _ _ (by decide)
  have w5 : mj_up τ 0 26 (m : Int) 5 = τ 5 := z_rq _ _ _ _ _ (by decide)
  have a5 : mj_up τ 0 26 (m : Int) 0 5 = 0 := by rw [mj_up_ne (by omega)]; exact h5
  have a26 : mj_up τ 0 26 (m : Int) 0 26 = m := mj_up_eq
  have il : z_isl (mj_up τ 0 26 (m : Int) 5) x (n + 1) := by rw [w5]; exact ⟨x1, by rw [x2 (n + 1) (Nat.le_refl _)]; exact hl.2⟩
  have DT : z_D (τ 4) (τ 5) 536870912 0 st (k + 1) sa (z_cd B x) := by
    have := z_SE_D hSE (x := z_cd B x) (by rw [hA, hB]; exact g7)
    exact this
  have hll : z_ll (mj_up τ 0 26 (m : Int) 4) (mj_up τ 0 26 (m : Int) 5) (z_cd (mj_up τ 0 26 (m : Int) 5) x) n := by
    rw [w4, w5, q2]; exact (z_D_ll (by decide) (by omega) DT y1).1
  have ya : n = 2 → z_cd (τ 4) (z_cd B x) = z_cd A (z_cd B x) := fun e => by
    have := (z_isl_t (n := 1) (by rw [e] at l0; exact l0)).1
    obtain ⟨k1, p1, s1, t1, i1, i2, i3, i4, i5, i6, i7⟩ := z_D_p (by decide) g7 this.1
    rw [← hA]; exact (z_SE_cd hSE (by omega)).1
  have yD : n = 2 → ∃ k1 s1, s1 ≤ 400 ∧ z_D A B 536870912 0 st k1 s1 (z_cd A (z_cd B x)) := fun e => by
    have := (z_isl_t (n := 1) (by rw [e] at l0; exact l0)).1
    obtain ⟨k1, p1, s1, t1, i1, i2, i3, i4, i5, i6, i7⟩ := z_D_p (by decide) g7 this.1
    exact ⟨k1, s1, by omega, z_D_mono (Int.le_refl _) (Nat.le_refl _) (by omega) (Nat.le_refl _) i6⟩
  have hlet : n = 2 → c ≤ 400 ∧ z_len (mj_up τ 0 26 (m : Int) 5) (z_cd (mj_up τ 0 26 (m : Int) 4) (z_cd (mj_up τ 0 26 (m : Int) 5) x)) c ∧ z_ll (mj_up τ 0 26 (m : Int) 4) (mj_up τ 0 26 (m : Int) 5) (z_cd (mj_up τ 0 26 (m : Int) 4) (z_cd (mj_up τ 0 26 (m : Int) 5) x)) c := fun e => by
    rw [w4, w5, q2, ya e]
    obtain ⟨k1, s1, hs1, d1⟩ := yD e
    obtain ⟨cn, cn1, cn2⟩ := z_D_len (by decide) s1 d1
    have := z_len_un cn1 (hlc e)
    obtain ⟨z1, _⟩ := z_SE_all hA hB hSE d1 (hlc e)
    exact ⟨by omega, z1, (z_D_ll (w := 536870912) (by decide) hs1 (z_SE_D hSE (x := z_cd A (z_cd B x)) (by rw [hA, hB]; exact d1)) z1).1⟩
  have tr : n = 2 → ((z_nth (mj_up τ 0 26 (m : Int) 5) (z_cd (mj_up τ 0 26 (m : Int) 4) (z_cd (mj_up τ 0 26 (m : Int) 5) x)) c = 268435456 ↔ z_nth B (z_cd A (z_cd B x)) c = 268435456) ∧ (z_cpl (mj_up τ 0 26 (m : Int) 4) (mj_up τ 0 26 (m : Int) 5) (z_cd (mj_up τ 0 26 (m : Int) 4) (z_cd (mj_up τ 0 26 (m : Int) 5) x)) c ↔ z_cpl A B (z_cd A (z_cd B x)) c) ∧ (z_vs (fun i => z_el (mj_up τ 0 26 (m : Int) 4) (mj_up τ 0 26 (m : Int) 5) (z_el (mj_up τ 0 26 (m : Int) 4) (mj_up τ 0 26 (m : Int) 5) (z_cd (mj_up τ 0 26 (m : Int) 4) (z_cd (mj_up τ 0 26 (m : Int) 5) x)) i) 0) c ↔ z_vs (fun i => z_el A B (z_el A B (z_cd A (z_cd B x)) i) 0) c)) := fun e => by
    rw [w4, w5, q2, ya e]
    obtain ⟨k1, s1, hs1, d1⟩ := yD e
    obtain ⟨z1, z2, z3, z4, z5⟩ := z_SE_all hA hB hSE d1 (hlc e)
    refine ⟨by rw [z2 c (Nat.le_refl _)], z4, ?_⟩
    constructor
    · intro z i hi
      obtain ⟨v1, v2⟩ := z i hi
      dsimp only at v1 v2 ⊢
      rw [z5 i hi] at v1 v2
      exact ⟨v1, fun j hj => by have := v2 j hj; rw [z5 j (by omega)] at this; exact this⟩
    · intro z i hi
      obtain ⟨v1, v2⟩ := z i hi
      dsimp only at v1 v2 ⊢
      rw [z5 i hi]
      exact ⟨v1, fun j hj => by rw [z5 j (by omega)]; exact v2 j hj⟩
  have trc : z_cpl (mj_up τ 0 26 (m : Int) 4) (mj_up τ 0 26 (m : Int) 5) (z_cd (mj_up τ 0 26 (m : Int) 5) x) n ↔ z_cpl A B (z_cd B x) n := by rw [w4, w5, q2]; exact y4
  have eh : z_cd (mj_up τ 0 26 (m : Int) 4) x = hd := by rw [w4, q1]; exact hhd
  have e2 : n = 2 → z_el (mj_up τ 0 26 (m : Int) 4) (mj_up τ 0 26 (m : Int) 5) x 2 = z_el A B x 2 := fun e => by rw [w4, w5]; exact x3 2 (by omega)
  have key := fun (d : Nat) (Q : mj_Q) => @o_node d Q (mj_up τ 0 26 (m : Int)) x hd n m il (by omega) eh h1 h2 a5 a26 (by omega) c (fun i => z_el (mj_up τ 0 26 (m : Int) 4) (mj_up τ 0 26 (m : Int) 5) (z_el (mj_up τ 0 26 (m : Int) 4) (mj_up τ 0 26 (m : Int) 5) (z_cd (mj_up τ 0 26 (m : Int) 4) (z_cd (mj_up τ 0 26 (m : Int) 5) x)) i) 0) hll hlet (fun _ => rfl)
  have mk : ∀ τ', (∀ (d : Nat) (Q : mj_Q), Q none τ' → mj_B mjm_L mjm_Ms (d + 20) 29 [.inr (.inl 0), .inl x] (mj_up τ 0 26 (m : Int)) Q) → z_gl τ τ' := fun τ' h => l_look h26 (by omega) h5 h16 h17 h
  refine ⟨fun hw => mk _ (fun d Q hq => key d Q (fun _ => hq) (fun z1 z2 z3 => ?_) (fun z1 z2 => ?_) (fun z1 z2 z3 z4 z5 => ?_) (fun z1 z2 => ?_) (fun z1 z2 z3 z4 z5 z6 => ?_)), fun w1 w2 w3 => mk _ (fun d Q hq => key d Q (fun z => ?_) (fun _ _ _ => hq) (fun z1 z2 => ?_) (fun z1 z2 z3 z4 z5 => ?_) (fun z1 z2 => ?_) (fun z1 z2 z3 z4 z5 z6 => ?_)), fun w1 w2 => mk _ (fun d Q hq => key d Q (fun z => ?_) (fun z1 z2 z3 => ?_) (fun _ _ => hq) (fun z1 z2 z3 z4 z5 => ?_) (fun z1 z2 => ?_) (fun z1 z2 z3 z4 z5 z6 => ?_)), fun w1 w2 w3 w4' w5' => mk _ (fun d Q hq => key d Q (fun z => ?_) (fun z1 z2 z3 => ?_) (fun z1 z2 => ?_) (fun z1 z2 z3 z4 z5 => ?_) (fun z1 z2 => ?_) (fun z1 z2 z3 z4 z5 z6 => ?_)), fun w1 w2 => mk _ (fun d Q hq => key d Q (fun z => ?_) (fun z1 z2 z3 => ?_) (fun z1 z2 => ?_) (fun z1 z2 z3 z4 z5 => ?_) (fun z1 z2 => ?_) (fun z1 z2 z3 z4 z5 z6 => ?_)), fun w1 w2 w3 w4' w5' w6' => mk _ (fun d Q hq => key d Q (fun z => ?_) (fun z1 z2 z3 => ?_) (fun z1 z2 => ?_) (fun z1 z2 z3 z4 z5 => ?_) (fun z1 z2 => ?_) (fun z1 z2 z3 z4 z5 z6 => ?_))⟩
  -- wrong
  · exfalso; omega
  · exfalso; omega
  · exfalso
    rcases hw with z | z | ⟨_, z⟩ | z | z
    · omega
    · omega
    · rcases z with z | z
      · exact z z2
      · obtain ⟨t1, t2, t3⟩ := tr z2
        exact z ⟨t1.mp z3, t2.mp z4, t3.mp z5⟩
    · omega
    · omega
  · exfalso
    rcases hw with z | z | z | ⟨_, z⟩ | z
    · omega
    · omega
    · omega
    · exact z (trc.mp z2)
    · omega
  · exfalso; omega
  -- arguments
  · exfalso; omega
  · exfalso; omega
  · exfalso; omega
  · exfalso; omega
  · exact absurd (z6 w1 w2) w3
  -- quote
  · exfalso; omega
  · exfalso; omega
  · exfalso; omega
  · exfalso; omega
  · exfalso; omega
  -- let
  · exfalso
    obtain ⟨t1, t2, t3⟩ := tr w2
    rcases z with z | z | ⟨_, z⟩ | z | z
    · omega
    · omega
    · rcases z with z | z
      · exact z w2
      · exact z ⟨t1.mpr w3, t2.mpr w4', t3.mpr w5'⟩
    · omega
    · omega
  · exfalso; omega
  · exfalso; omega
  · rw [e2 w2, w4, w5, q2, ya w2]; exact hq
  · exfalso; omega
  · exfalso; omega
  -- cond
  · exfalso
    rcases z with z | z | z | ⟨_, z⟩ | z
    · omega
    · omega
    · omega
    · exact z (trc.mpr w2)
    · omega
  · exfalso; omega
  · exfalso; omega
  · exfalso; omega
  · rw [w5, q2]; exact hq
  · exfalso; omega
  -- the rest
  · exfalso; omega
  · exact absurd (w6' z1 z2) z3
  · exfalso; omega
  · exfalso; omega
  · exfalso; omega
  · rw [w5, q2]; exact hq
