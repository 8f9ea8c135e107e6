/-! all of it: carrying code out -/
theorem x_main {A B : Nat → Int} {st : Nat} {K : z_K} {σ0 τ0 : mj_S} {S0 fuel d : Nat} {Q : mj_Q} {y : Int} {τs : mj_S} (CX : z_CX A B st K σ0 τ0 S0 fuel Q τs) : ∀ (kk n : Nat), 400100 ≤ n + kk → ∀ (σ τ : mj_S) (m : Nat) (fn : Bool) (a : Nat) (E : List (Int × Int)) (pl fb : Nat) (hole : Int) (bg fr q u S : Nat) (be : Nat → Nat) (G : Nat → Bool), z_CF A B st K σ0 τ0 S0 fuel n σ τ m fn a E pl fb hole bg fr q u S be G → z_ge τs τ → qh_c90_22 (d + 30) Q y (n : Int) σ := by
  have bound : ∀ {n m : Nat} {σ τ : mj_S} {h S u : Nat} {be : Nat → Nat} {G : Nat → Bool}, z_XW A B st σ0 τ0 n σ τ h S fuel be G → n + h + u + 20 * S0 ≤ 20 * S + (if τ 16 (m - 1) = 1 then 10 else 0) → n ≤ 400010 := by
    intro n m σ τ h S u be G W hb
    obtain ⟨w1, w2, w3, w4, w5, w6, w7, w8, w9⟩ := W
    split at hb <;> omega
  intro kk
  induction kk with
  | zero =>
    intro n hnk σ τ m fn a E pl fb hole bg fr q u S be G CF gs
    have := bound CF.1 CF.2.2.2.2.2.2
    omega
  | succ kk ih =>
    intro n hnk σ τ0' m0 fn a E0 pl0 fb hole bg fr q u0 S be G CF0 gs0
    have IH : z_IH A B st K σ0 τ0 S0 fuel d Q y τs n := fun n' hn' σ τ m fn a E pl fb hole bg fr q u S be G CF gs => ih n' (by omega) σ τ m fn a E pl fb hole bg fr q u S be G CF gs
    refine x_norm CX.1 (fun τ m' E pl u CF gs loud => ?_) m0 τ0' E0 pl0 u0 CF0 gs0
    have hn := bound CF.1 CF.2.2.2.2.2.2
    clear CF0 gs0 ih hnk
    have CF1 := CF
    obtain ⟨W, ch, h10, h26, SP, hne, hb⟩ := CF
    cases m' with
    | zero =>
      have ch0 := ch
      obtain ⟨c1, b, c2, c3, c4, c5, c6, c7, c8, c9⟩ := ch
      cases u with
      | zero =>
        have eab : a = b := c2
        subst eab
        obtain ⟨hK, hK4⟩ := z_CX_K CX W
        subst c4 c5 c9
        have h0 : 0 ≤ τ 20 0 := hne 0 (by omega) (by omega) (by omega)
        have hb' : n + 20 * S0 ≤ 20 * S + 10 := by split at hb <;> omega
        have op0 : z_op σ 19 (σ 7 10) = 0 := by rw [h10, ← (hK a).1]; exact c3.1
        refine qw_c90_22 (d := d + 29) ⟨fun z => absurd z (by omega), fun _ => ⟨hK4, fun z => absurd op0 z, fun _ => ?_⟩⟩
        exact CX.2.2.2.2.2.2.1 σ τ n S be G W h0 hb' h26 gs
      | succ u =>
        obtain ⟨c, j1, j2⟩ := c2
        have ch' : z_jc A B st K σ τ 0 fn c E pl fb hole bg fr q u := ⟨c1, b, j2, c3, c4, c5, c6, c7, c8, c9⟩
        exact x_jump CX IH (by omega) W j1 ch' h10 h26 SP hne hb gs
    | succ m =>
      have bd := z_jc_bd ch
      have lo := loud m rfl
      have h26' : τ 0 26 = (m : Int) + 1 := by rw [h26]; omega
      have hm2 : m < 2700 := by
        obtain ⟨b1, b2, b3, b4, b5, b6, b7⟩ := bd
        have h100 := W.2.2.2.2.2.1.1
        have : m ≤ q + 25 := by
          obtain ⟨jn, b, u', hj, hu, ch⟩ := ch
          rcases ch with ⟨h3, h4, h5, _⟩ | ⟨h3, E', pl', b', it, rest⟩
          · omega
          · unfold z_jt at it
            rcases it with ⟨c1, c2, k, tl, c3, _⟩ | ⟨c1, c2, k, c, c3, _⟩ | ⟨c1, c2, k, tl, p0, c, c3, _⟩ | ⟨c1, c2, k, tl, p0, c, i, c3, _⟩ | ⟨c1, p0, i, _⟩ | ⟨c1, c2, k, tl, c3, _⟩ | ⟨c1, c2, k, tl, p0, c, c3, _⟩ | ⟨c1, c2, k, tl, c3, _⟩ | ⟨c1, c2, k, tl, p0, c3, _⟩ | ⟨c1, _⟩ | ⟨c1, _⟩ | ⟨c1, tl, p0, i, c3, _⟩
            all_goals omega
        omega
      obtain ⟨jn, b, u', hj, hu, ch⟩ := ch
      rw [show m + 1 - 1 = m by omega] at hb
      cases jn with
      | succ jn =>
        obtain ⟨c, j1, j2⟩ := hj
        have ch' : z_jc A B st K σ τ (m + 1) fn c E pl fb hole bg fr q (u' + 3 + jn) := ⟨jn, b, u', j2, rfl, ch⟩
        refine x_jump CX IH (by omega) W j1 ch' h10 h26 SP hne ?_ gs
        rw [show m + 1 - 1 = m by omega]
        omega
      | zero =>
        have eab : a = b := hj
        subst eab
        have hu' : u = u' + 3 := hu
        subst hu'
        clear bd loud hj hu CF1 h26
        rcases ch with ⟨h3, h4, h5, h6, h6', hp, h7, h8, h8', fn0, a0, E1, p0, fb0, hole0, bg0, fr0, q0, g1, g2, g3, g4, g5, g6, g7, g8, g9, g10, g11, g12⟩ | ⟨h3, E', pl', b', it, rest⟩
        · subst h4
          exact x_ret CX IH (by omega) W h10 h26' (by omega) SP hne hb gs h3 h6 h6' h7 h8 h8' g1 g2 g3 g4 g5 g6 g7 g8 g10 g11 g12
        · obtain ⟨l1, l2, l3, l4, l5⟩ := lo
          unfold z_jt at it
          rcases it with ⟨c1, c2, k, tl, c3, c4, c5, c6, c7, c8⟩ | ⟨c1, _⟩ | ⟨c1, c2, k, tl, p0, c, c3, c4, c5, c6, c7, c8, c9, c10, c11, c12, c13⟩ | ⟨c1, _⟩ | ⟨c1, p0, i, c2, c3, c4, c5, c6, c7, c8, c9, c10⟩ | ⟨c1, c2, k, tl, c3, c4, c5, c6, c7, c8⟩ | ⟨c1, c2, k, tl, p0, c, c3, c4, c5, c6, c7, c7', c8, c9, c10, c11, c12, c13⟩ | ⟨c1, _⟩ | ⟨c1, c2, k, tl, p0, c3, c4, c5, c6, c7, c8, c9, c12, c13⟩ | ⟨c1, p0, i, c2, c3, c4, c5, c6, c7, c8, c9, c10⟩ | ⟨c1, p0, c2, c3, c4, c5, c6, c7, c8, c9, c10⟩ | ⟨c1, tl, p0, i, c2, c3, c4, c5, c6, c7, c8, c9, c10, c11, c12⟩
          · cases k with
            | zero => exact x_leaf CX IH (by omega) W rest h10 h26' (by omega) SP hne hb gs ⟨c1, rfl, rfl, rfl⟩ c6.1 c5 c6.2 c7 c8
            | succ k =>
              rcases c6 with c6 | c6
              · exact x_leaf CX IH (by omega) W rest h10 h26' (by omega) SP hne hb gs ⟨c1, rfl, rfl, rfl⟩ c6.1 c5 c6.2 c7 c8
              · exact x_node CX IH (by omega) W rest h10 h26' (by omega) SP hne hb gs ⟨c1, rfl, rfl, rfl⟩ c2 c3 c4 c5 c6 c7 c8
          · exact absurd c1 l1
          · exact x_if CX IH (by omega) W rest h10 h26' (by omega) SP hne hb gs ⟨c1, rfl, rfl, rfl⟩ c2 c3 c4 c5 c6 c7 c8 c9 c10 c11 c12 c13
          · exact absurd c1 l2
          · exact x_endlet CX IH (by omega) W rest h10 h26' (by omega) SP hne hb gs ⟨c1, rfl, c3, rfl⟩ c4 c5 c6 c7 c8 c9 c10
          · exact x_cend CX IH (by omega) W rest h10 h26' (by omega) SP hne hb gs ⟨c1, rfl, rfl, rfl⟩ (by omega) c6 c7 c8
          · exact x_cond CX IH (by omega) W rest h10 h26' (by omega) SP hne hb gs ⟨c1, rfl, rfl, rfl⟩ c2 c3 c4 c5 c6 c7 c7' c8 c9 c10 c11 c12 c13
          · omega
          · exact x_tao CX IH (by omega) W rest h10 h26' (by omega) SP hne hb gs ⟨rfl, rfl, rfl, rfl⟩ c1 c2 c3 c4 c5 c6 c7 c8 c9 c12 c13
          · exact x_list CX IH (by omega) W rest h10 h26' (by omega) SP hne hb gs ⟨c1, rfl, c3, rfl⟩ c4 c5 c6 c7 c8 c9 c10
          · exact x_apply CX IH (by omega) W rest h10 h26' (by omega) SP hne hb gs ⟨c1, rfl, rfl, rfl⟩ ⟨c3, c4⟩ c5 c6 c7 c8 c9 c10
          · cases tl with
            | false => exact x_call0 CX IH (by omega) W rest h10 h26' (by omega) SP hne hb gs ⟨c1, rfl, c3, rfl⟩ c2 c4 c5 c6 c7 c8 c9 c10 c11 c12
            | true => exact x_call1 CX IH (by omega) W rest h10 h26' (by omega) SP hne hb gs ⟨c1, rfl, c3, rfl⟩ c2 c4 c5 c6 c7 c8 c9 c10 c11 c12
theorem t_exec {A B : Nat → Int} {st : Nat} {K : z_K} {σ τ : mj_S} {S fuel : Nat} {be : Nat → Nat} {G : Nat → Bool} (hst : st ≤ 400) (hK : z_KK K σ) (h4 : σ 4 3 ≤ 2400) (hc1 : 0 ≤ σ 2 10) (hc2 : σ 2 10 ≤ 1900000000) (FN : z_FN A B st K σ τ) (hH : z_H A B st σ τ be G) (hmo : σ 7 13 = τ 0 42 ∧ 0 ≤ σ 7 13 ∧ σ 7 13 ≤ 100) (hS : S ≤ fuel ∧ fuel ≤ 20000 ∧ σ 7 11 = fuel ∧ τ 0 40 = fuel ∧ σ 7 12 = S ∧ τ 0 41 = S) (h5 : τ 0 5 = 0) {x : Int} {k s e : Nat} (hk : k ≤ 12) (hD : z_dt A B st x) (hC : z_C A B K k [] x 0 false s e) (he : z_in K e 0 0 0) {d : Nat} {Q : mj_Q}
    (hok : ∀ (σ' τ' : mj_S) (n' S' : Nat) (be : Nat → Nat) (G : Nat → Bool), z_XW A B st σ τ n' σ' τ' 1 S' fuel be G → 0 ≤ τ' 20 0 → n' + 20 * S ≤ 20 * S' + 10 → (∀ (d : Nat) (R : mj_Q), R (some (.inl (τ' 20 0))) (mj_up τ' 0 31 0) → mj_B mjm_L mjm_Ms (d + 31) 40 [.inr (.inl 0), .inl x] τ R) → Q (some (.inl 0)) σ')
    (hbad : ∀ (e : Int) (σ' τ' : mj_S) (n' S' : Nat), z_XE A B st σ τ n' σ' τ' S' fuel e → n' + 20 * S ≤ 20 * S' + 20 → (∀ (d : Nat) (R : mj_Q), R (some (.inl 268435456)) τ' → mj_B mjm_L mjm_Ms (d + 31) 40 [.inr (.inl 0), .inl x] τ R) → Q (some (.inl e)) σ') : mj_B mjc_L mjc_Ms (d + 31) 90 [.inr (.inl 7), .inl (s : Int)] σ Q := by
  refine wq_c90 (d := d + 29) (fun σ1 e1 σ2 e2 σ3 e3 σ4 e4 => ?_)
  have f1 : ∀ q k, ¬ (q = 7 ∧ (k = 7 ∨ k = 8 ∨ k = 9 ∨ k = 10)) → σ4 q k = σ q k := fun q k z => by rw [e4, mj_up_ne (by omega), e3, mj_up_ne (by omega), e2, mj_up_ne (by omega), e1, mj_up_ne (by omega)]
  have v10 : σ4 7 10 = s := by rw [e4, mj_up_ne (by omega), e3, mj_up_ne (by omega), e2, mj_up_ne (by omega), e1, mj_up_eq]
  have v7 : σ4 7 7 = 0 := by rw [e4, mj_up_ne (by omega), e3, mj_up_ne (by omega), e2, mj_up_eq]
  have v8 : σ4 7 8 = 0 := by rw [e4, mj_up_ne (by omega), e3, mj_up_eq]
  have v9 : σ4 7 9 = -1 := by rw [e4, mj_up_eq]
  clear e1 e2 e3 e4
  have hgo : ∀ τ5 : mj_S, τ5 = mj_up (mj_up (mj_up (mj_up (mj_up τ 0 31 0) 0 26 0) 0 33 0) 0 36 0) 0 38 0 → qh_c90_22 (d + 29 + 1) Q (s : Int) ((0 : Nat) : Int) σ4 := by
    intro τ5 eτ
    have o5 : ∀ q k, ¬ (q = 0 ∧ (k = 26 ∨ k = 31 ∨ k = 33 ∨ k = 36 ∨ k = 38)) → τ5 q k = τ q k := fun q k z => by rw [eτ, mj_up_ne (by omega), mj_up_ne (by omega), mj_up_ne (by omega), mj_up_ne (by omega), mj_up_ne (by omega)]
    have u31 : τ5 0 31 = 0 := by rw [eτ, mj_up_ne (by omega), mj_up_ne (by omega), mj_up_ne (by omega), mj_up_ne (by omega), mj_up_eq]
    have u26 : τ5 0 26 = ((0 : Nat) : Int) := by rw [eτ, mj_up_ne (by omega), mj_up_ne (by omega), mj_up_ne (by omega), mj_up_eq]; rfl
    have u33 : τ5 0 33 = 0 := by rw [eτ, mj_up_ne (by omega), mj_up_ne (by omega), mj_up_eq]
    have u36 : τ5 0 36 = 0 := by rw [eτ, mj_up_ne (by omega), mj_up_eq]
    have u38 : τ5 0 38 = 0 := by rw [eτ, mj_up_eq]
    have start : ∀ (d : Nat) (R : mj_Q) , qh_m40_33 (d + 30) R x (z_la τ5 1 x 0 0) → mj_B mjm_L mjm_Ms (d + 31) 40 [.inr (.inl 0), .inl x] τ R := by
      intro d R hR
      refine wq_m40 (d := d + 29) (fun σ1 e1 σ2 e2 σ3 e3 σ4 e4 σ5 e5 => ?_)
      have : σ5 = τ5 := by rw [e5, e4, e3, e2, e1, eτ]
      rw [this]
      exact ⟨by omega, by omega, Or.inl rfl, fun σ6 e6 => by rw [e6]; exact hR⟩
    rw [z_la_1 u26] at start
    have lv := @z_l1_v τ5 0 1 x 0 0
    have lo : ∀ q k, ¬ ((16 ≤ q ∧ q ≤ 19) ∨ (q = 0 ∧ (k = 26 ∨ k = 31 ∨ k = 33 ∨ k = 36 ∨ k = 38))) → z_l1 τ5 0 1 x 0 0 q k = τ q k := fun q k z => by rw [z_l1_o (by omega), o5 q k (by omega)]
    have l31 : z_l1 τ5 0 1 x 0 0 0 31 = 0 := by rw [z_l1_o (by omega)]; exact u31
    have l33 : z_l1 τ5 0 1 x 0 0 0 33 = 0 := by rw [z_l1_o (by omega)]; exact u33
    have l36 : z_l1 τ5 0 1 x 0 0 0 36 = 0 := by rw [z_l1_o (by omega)]; exact u36
    have l38 : z_l1 τ5 0 1 x 0 0 0 38 = 0 := by rw [z_l1_o (by omega)]; exact u38
    generalize z_l1 τ5 0 1 x 0 0 = τs at start lv lo l31 l33 l36 l38
    clear o5 u31 u26 u33 u36 u38 eτ
    have CX : z_CX A B st K σ τ S fuel Q τs := by
      refine ⟨hst, hK, h4, hc1, hc2, FN, fun σ' τ' n' S' be G W h0 hb h26 gs => hok σ' τ' n' S' be G W h0 hb (fun d R hR => start d R (gs d R x ?_)), fun e σ' τ' n' S' W hb gs => hbad e σ' τ' n' S' W hb (fun d R hR => start d R (gs d R x ?_))⟩
      · have w31 : τ' 0 31 = 1 := W.2.2.2.2.2.1.2.2
        have w5 : τ' 0 5 = 0 := W.2.2.2.2.2.2.2.2
        refine qw_m40_33 (d := d + 29) ⟨fun _ => ⟨fun _ => ⟨by omega, by omega, fun σ1 e1 => ?_⟩, fun z => absurd z (by omega)⟩, fun z => absurd z (by omega)⟩
        rw [w31] at e1
        rw [e1, w31]
        exact hR
      · obtain ⟨x1, x2, x3, x4, x5, x6, x7, x8, x9⟩ := W
        exact qw_m40_33 (d := d + 29) ⟨fun _ => ⟨fun z => absurd z (by omega), fun _ => hR⟩, fun _ => ⟨fun _ => ⟨fun z => absurd z (by omega), fun _ => hR⟩, fun z => absurd z (by omega)⟩⟩
    have W : z_XW A B st σ τ 0 σ4 τs 0 S fuel be G := by
      refine ⟨fun q k z => f1 q k (by omega), fun q k z => lo q k (by omega), z_H_fr (fun q k z => f1 q k (by omega)) (fun q k z => lo q k (by omega)) hH, ?_, fun i hi => absurd hi (Nat.not_lt_zero i), ⟨by omega, v7, l31⟩, ?_, ⟨hS.1, hS.2.1, ?_, ?_, ?_, ?_⟩, ?_⟩
      · rw [f1 2 10 (by omega)]; omega
      · rw [f1 7 13 (by omega), lo 0 42 (by omega)]; exact hmo
      · rw [f1 7 11 (by omega)]; exact hS.2.2.1
      · rw [lo 0 40 (by omega)]; exact hS.2.2.2.1
      · rw [f1 7 12 (by omega)]; exact hS.2.2.2.2.1
      · rw [lo 0 41 (by omega)]; exact hS.2.2.2.2.2
      · rw [lo 0 5 (by omega)]; exact h5
    have ch0 : z_jc A B st K σ4 τs 0 false e [] 1 0 (-1) 0 0 0 0 := ⟨rfl, e, rfl, he, rfl, rfl, rfl, rfl, rfl, rfl⟩
    have ch1 : z_jc A B st K σ4 τs 1 false s [] 0 0 (-1) 0 0 0 3 := z_jc_push lv.1 lv.2.1 lv.2.2.1 lv.2.2.2.1 (by decide) (Or.inl ⟨rfl, hD, k, false, by omega, ⟨fun z => Bool.noConfusion z, rfl⟩, ⟨by omega, Nat.le_refl _, fun a r hr => by cases hr⟩, hC, rfl, rfl⟩) ch0
    exact x_main CX 400100 0 (by omega) σ4 τs 1 false s [] 0 0 (-1) 0 0 0 3 S be G ⟨W, ch1, v10, lv.2.2.2.2, ⟨v8, v9, l36, fun z => Bool.noConfusion z, l38, 0, l33, rfl⟩, fun i i1 i2 _ => absurd i2 (by omega), by rw [show 1 - 1 = 0 from rfl, lv.1, if_pos rfl]; omega⟩ (z_ge_rf τs)
  exact hgo _ rfl
