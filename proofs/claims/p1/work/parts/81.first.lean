/-! the face's methods: what they answer and do, where no form is carried out -/
theorem sc_type {d : Nat} {σ : mj_S} {Q : mj_Q} {c : Int} (h0 : 0 ≤ σ 3 3) (h1 : σ 3 3 ≤ 300) (hc : mj_fit .char c) (ha : σ 3 3 < 300 → Q (some (.inl 1)) (mj_up (mj_up σ 18 (σ 3 3).toNat c) 3 3 (σ 3 3 + 1))) (hb : σ 3 3 = 300 → Q (some (.inl 0)) σ) : mj_B mjc_L mjc_Ms (d + 2) 0 [.inr (.inl 0), .inl c] σ Q := by
  refine wp_c0 (wp_c34 ⟨fun h => ⟨h0, h, hc, fun σ1 e1 => ?_⟩, fun h => ⟨Or.inl rfl, 0, rfl, Or.inl rfl, hb (by omega)⟩⟩)
  have e2 : σ1 3 3 = σ 3 3 := by rw [e1, mj_up_ne (by omega)]
  rw [e2]
  refine ⟨mj_rN (by omega) (by omega), fun σ2 e3 => ⟨Or.inr rfl, 1, rfl, Or.inr rfl, ?_⟩⟩
  rw [e3, e1]
  exact ha h
theorem sc_clear {d : Nat} {σ : mj_S} {Q : mj_Q} (h : Q (some (.inl (σ 3 3))) (mj_up σ 3 3 0)) : mj_B mjc_L mjc_Ms (d + 2) 1 [.inr (.inl 0)] σ Q :=
  wp_c1 (wp_c35 (fun σ1 e1 => ⟨_, rfl, by rw [e1]; exact h⟩))
def sc_cnt (σ : mj_S) (w : Int) : Int := if w = 0 then σ 8 4 else if w = 1 then σ 6 6 else if w = 2 then σ 1 2 else if w = 3 then σ 2 8 else if w = 4 then σ 2 0 - σ 2 9 else if w = 5 then σ 2 10 else if w = 6 then σ 7 12 else if w = 7 then σ 0 8 else if w = 8 then σ 7 13 else -1
theorem sc_count {d : Nat} {σ : mj_S} {Q : mj_Q} {w : Int} (hr : mj_r (σ 2 0 - σ 2 9)) (h : Q (some (.inl (sc_cnt σ w))) σ) : mj_B mjc_L mjc_Ms (d + 2) 4 [.inr (.inl 0), .inl w] σ Q := by
  unfold sc_cnt at h
  refine wp_c4 ⟨fun e => wp_c111 ⟨_, rfl, ?_⟩, fun e => wp_c81 ⟨_, rfl, ?_⟩, fun e => wp_c10 ⟨_, rfl, ?_⟩, fun e => wp_c16 ⟨_, rfl, ?_⟩, fun e => wp_c17 ⟨hr, _, rfl, ?_⟩, fun e => wp_c18 ⟨_, rfl, ?_⟩, fun e => wp_c86 ⟨_, rfl, ?_⟩, fun e => ?_, fun e => wp_c87 ⟨_, rfl, ?_⟩, fun e => ?_⟩
  all_goals first
    | (subst e; simpa using h)
    | (rw [if_neg (by omega), if_neg (by omega), if_neg (by omega), if_neg (by omega), if_neg (by omega), if_neg (by omega), if_neg (by omega), if_neg (by omega), if_neg (by omega)] at h; exact h)
theorem sm_thrown {d : Nat} {σ : mj_S} {Q : mj_Q} (h : Q (some (.inl (σ 0 1))) σ) : mj_B mjm_L mjm_Ms (d + 1) 1 [.inr (.inl 0)] σ Q := wp_m1 h
theorem sm_type {d : Nat} {σ : mj_S} {Q : mj_Q} {c : Int} (h0 : 0 ≤ σ 0 2) (h1 : σ 0 2 ≤ 300) (hc : mj_fit .char c) (ha : σ 0 2 < 300 → Q (some (.inl 1)) (mj_up (mj_up (mj_up σ 0 1 0) 1 (σ 0 2).toNat c) 0 2 (σ 0 2 + 1))) (hb : σ 0 2 = 300 → Q (some (.inl 0)) (mj_up σ 0 1 0)) : mj_B mjm_L mjm_Ms (d + 1) 9 [.inr (.inl 0), .inl c] σ Q := by
  refine wp_m9 (fun σ1 e1 => ?_)
  have e2 : σ1 0 2 = σ 0 2 := by rw [e1, mj_up_ne (by omega)]
  rw [e2]
  refine ⟨fun h => ⟨h0, by omega, hc, fun σ2 e3 => ?_⟩, fun h => ⟨Or.inl rfl, by rw [e1]; exact hb h⟩⟩
  have e4 : σ2 0 2 = σ 0 2 := by rw [e3, mj_up_ne (by omega), e2]
  rw [e4]
  refine ⟨mj_rN (by omega) (by omega), fun σ3 e5 => ⟨Or.inr rfl, ?_⟩⟩
  rw [e5, e3, e1]
  exact ha (by omega)
theorem sm_clear {d : Nat} {σ : mj_S} {Q : mj_Q} (h : Q (some (.inl (σ 0 2))) (mj_up (mj_up σ 0 1 0) 0 2 0)) : mj_B mjm_L mjm_Ms (d + 1) 10 [.inr (.inl 0)] σ Q := by
  refine wp_m10 (fun σ1 e1 σ2 e2 => ?_)
  rw [e2, e1, mj_up_ne (σ := σ) (by omega)]
  exact h
def sm_cnt (σ : mj_S) (w : Int) : Int := if w = 0 then σ 0 44 else if w = 1 then σ 0 22 else if w = 2 then σ 0 6 else if w = 3 then σ 0 11 else if w = 4 then σ 0 12 else if w = 5 then σ 0 13 else if w = 6 then σ 0 41 else if w = 7 then σ 0 43 else if w = 8 then σ 0 42 else -1
theorem sm_count {d : Nat} {σ : mj_S} {Q : mj_Q} {w : Int} (h : Q (some (.inl (sm_cnt σ w))) (mj_up σ 0 1 0)) : mj_B mjm_L mjm_Ms (d + 1) 62 [.inr (.inl 0), .inl w] σ Q := by
  unfold sm_cnt at h
  refine wp_m62 (fun σ1 e1 => ?_)
  have hk : ∀ k, k ≠ 1 → σ1 0 k = σ 0 k := fun k hk => by rw [e1, mj_up_ne (by omega)]
  rw [hk 44 (by decide), hk 22 (by decide), hk 6 (by decide), hk 11 (by decide), hk 12 (by decide), hk 13 (by decide), hk 41 (by decide), hk 43 (by decide), hk 42 (by decide)]
  rw [← e1] at h
  refine ⟨fun e => ?_, fun e => ?_, fun e => ?_, fun e => ?_, fun e => ?_, fun e => ?_, fun e => ?_, fun e => ?_, fun e => ?_, fun e => ?_⟩
  all_goals first
    | (subst e; simpa using h)
    | (rw [if_neg (by omega), if_neg (by omega), if_neg (by omega), if_neg (by omega), if_neg (by omega), if_neg (by omega), if_neg (by omega), if_neg (by omega), if_neg (by omega)] at h; exact h)
/-- run where no text is -/
theorem sc_run0 {d : Nat} {σ : mj_S} {Q : mj_Q} {x : Int} (hx : 0 ≤ x) (hx2 : x ≤ 20000) (ht : σ 3 3 = 0) (h : ∀ σ', Q (some (.inl 0)) σ') : mj_B mjc_L mjc_Ms (d + 4) 2 [.inr (.inl 0), .inl x] σ Q := by
  refine wp_c2 ⟨fun h => absurd h (by omega), fun _ => ⟨fun _ => ?_, fun h => absurd h (by omega)⟩⟩
  refine wp_c113 (fun σ1 e1 => ⟨rfl, ?_⟩)
  refine wp_c89 (fun σa ea σb eb σc ec => ⟨rfl, ?_⟩)
  refine wp_c36 (fun σ3 e3 => ⟨rfl, fun σ4 e4 => ?_⟩)
  have t4 : σ4 3 3 = 0 := by
    rw [e4, mj_up_ne (by omega), e3, mj_up_ne (by omega), ec, mj_up_ne (by omega), eb, mj_up_ne (by omega), ea, mj_up_ne (by omega), e1, mj_up_ne (by omega), ht]
  have a4 : σ4 3 4 = 0 := by
    rw [e4, mj_up_ne (by omega), e3, mj_up_eq]
  refine wp_c5 (lw_c5_2 ⟨fun h => absurd h (by decide), fun _ => ?_⟩)
  refine wp_c37 (wp_c48 (lw_c48_2 ⟨fun _ => ⟨rfl, fun _ => ⟨Or.inl rfl, 0, rfl, fun _ => ⟨0, rfl, ?_⟩, fun h => absurd rfl h⟩, fun h => absurd h (by omega)⟩, fun h => absurd h (by omega)⟩))
  exact wp_c35 (fun σ7 e7 => ⟨_, rfl, fun _ => h σ7, fun h => absurd rfl h⟩)
theorem sm_look0 {d : Nat} {σ : mj_S} {Q : mj_Q} (h1 : σ 0 2 ≤ σ 0 4) (h : Q (some (.inl (-1))) σ) : mj_B mjm_L mjm_Ms (d + 1) 11 [.inr (.inl 0)] σ Q := wp_m11 ⟨fun _ => h, fun z => absurd z (by omega)⟩
theorem sm_skip0 {d : Nat} {σ : mj_S} {Q : mj_Q} (h1 : σ 0 2 ≤ σ 0 4) (h : Q none σ) : mj_B mjm_L mjm_Ms (d + 2) 12 [.inr (.inl 0)] σ Q := by
  refine wp_m12 (lw_m12_2 ⟨fun h => absurd h (by decide), fun _ => ?_⟩)
  refine sm_look0 h1 ⟨_, rfl, fun z => absurd z (by decide), fun _ => ?_⟩
  refine sm_look0 h1 ⟨_, rfl, fun z => absurd z (by decide), fun _ => ?_⟩
  refine sm_look0 h1 ⟨_, rfl, fun _ => ?_, fun z => absurd z (by decide)⟩
  refine sm_look0 h1 ⟨_, rfl, fun _ => ?_, fun z => absurd z (by decide)⟩
  exact lw_m12_2 ⟨fun _ => h, fun z => absurd rfl z⟩
theorem sm_run0 {d : Nat} {σ : mj_S} {Q : mj_Q} {x : Int} (ht : σ 0 2 = 0) (ha : ¬ (x < 0 ∨ 20000 < x) → ∀ σ', σ' 0 1 = 0 → Q (some (.inl 0)) σ') (hb : (x < 0 ∨ 20000 < x) → Q (some (.inl 0)) (mj_up σ 0 1 1)) : mj_B mjm_L mjm_Ms (d + 3) 59 [.inr (.inl 0), .inl x] σ Q := by
  refine wp_m59 ⟨fun h => fun σ1 e1 => ⟨fun z => absurd z (by rw [e1, mj_up_eq]; decide), fun _ => by rw [e1]; exact hb (Or.inl h)⟩, fun h0 => ⟨fun h2 => fun σ1 e1 => ⟨fun _ => ?_, fun z => absurd z (by rw [e1, mj_up_eq]; decide)⟩, fun h => fun σ1 e1 => ⟨fun z => absurd z (by rw [e1, mj_up_eq]; decide), fun _ => by rw [e1]; exact hb (Or.inr h)⟩⟩⟩
  intro σ2 e2 σ3 e3 σ4 e4 σ5 e5 σ6 e6 σ7 e7 σ8 e8
  have hk : ∀ k, k ≠ 1 → k ≠ 40 → k ≠ 41 → k ≠ 42 → k ≠ 43 → k ≠ 44 → k ≠ 5 → k ≠ 4 → σ8 0 k = σ 0 k := fun k g1 g2 g3 g4 g5 g6 g7 g8 => by
    rw [e8, mj_up_ne (by omega), e7, mj_up_ne (by omega), e6, mj_up_ne (by omega), e5, mj_up_ne (by omega), e4, mj_up_ne (by omega), e3, mj_up_ne (by omega), e2, mj_up_ne (by omega), e1, mj_up_ne (by omega)]
  have t8 : σ8 0 2 = 0 := by rw [hk 2 (by decide) (by decide) (by decide) (by decide) (by decide) (by decide) (by decide) (by decide), ht]
  have p8 : σ8 0 4 = 0 := by rw [e8, mj_up_eq]
  have r8 : σ8 0 5 = 0 := by rw [e8, mj_up_ne (by omega), e7, mj_up_eq]
  have c8 : σ8 0 1 = 0 := by
    rw [e8, mj_up_ne (by omega), e7, mj_up_ne (by omega), e6, mj_up_ne (by omega), e5, mj_up_ne (by omega), e4, mj_up_ne (by omega), e3, mj_up_ne (by omega), e2, mj_up_ne (by omega), e1, mj_up_eq]
  refine sm_skip0 (by omega) ⟨rfl, ?_⟩
  refine lw_m59_68 ⟨fun z => absurd r8 z, fun _ => ⟨fun _ => ⟨fun _ => fun σ9 e9 => ?_, fun z => absurd z (by omega)⟩, fun z => absurd z (by omega)⟩⟩
  rw [e9, mj_up_ne (by omega), r8]
  exact ha (by omega) _ (by rw [mj_up_ne (by omega)]; exact c8)
theorem sm_output0 {d : Nat} {σ : mj_S} {Q : mj_Q} {x : Int} (h0 : 0 ≤ σ 0 44) (h4 : σ 0 44 ≤ 400) (ha : 0 ≤ x → x < σ 0 44 → mj_fit .char (σ 24 x.toNat) ∧ Q (some (.inl (σ 24 x.toNat))) (mj_up σ 0 1 0)) (hb : (x < 0 ∨ σ 0 44 ≤ x) → Q (some (.inl 32)) (mj_up σ 0 1 1)) : mj_B mjm_L mjm_Ms (d + 1) 61 [.inr (.inl 0), .inl x] σ Q := by
  refine wp_m61 ⟨fun h => fun σ1 e1 => ⟨fun z => absurd z (by rw [e1, mj_up_eq]; decide), fun _ => ⟨⟨by decide, by decide⟩, by rw [e1]; exact hb (Or.inl h)⟩⟩, fun g0 => ⟨fun g1 => fun σ1 e1 => ⟨fun _ => ?_, fun z => absurd z (by rw [e1, mj_up_eq]; decide)⟩, fun h => fun σ1 e1 => ⟨fun z => absurd z (by rw [e1, mj_up_eq]; decide), fun _ => ⟨⟨by decide, by decide⟩, by rw [e1]; exact hb (Or.inr h)⟩⟩⟩⟩
  obtain ⟨f1, f2⟩ := ha g0 g1
  have e2 : σ1 24 x.toNat = σ 24 x.toNat := by rw [e1, mj_up_ne (by omega)]
  rw [e2]
  exact ⟨g0, by omega, f1, by rw [e1]; exact f2⟩
