/-! one turn of each machine -/
def z_ge (τ τ' : mj_S) : Prop := ∀ (d : Nat) (Q : mj_Q) (y : Int), qh_m40_33 (d + 30) Q y τ' → qh_m40_33 (d + 30) Q y τ
theorem z_ge_tr {τ τ' τ2 : mj_S} (h : z_ge τ τ') (g : z_ge τ' τ2) : z_ge τ τ2 := fun d Q y q => h d Q y (g d Q y q)
theorem z_ge_rf (τ : mj_S) : z_ge τ τ := fun _ _ _ h => h
theorem r_turn {τ τ' : mj_S} {m : Nat} (h26 : τ 0 26 = (m : Int) + 1) (hm : m < 3000) (h5 : τ 0 5 = 0) (h : ∀ (d : Nat) (Q : mj_Q), Q none τ' → mj_B mjm_L mjm_Ms (d + 30) 41 [.inr (.inl 0), .inl (τ 16 m), .inl (τ 17 m), .inl (τ 18 m), .inl (τ 19 m)] (mj_up τ 0 26 (m : Int)) Q) : z_ge τ τ' := by
  intro d Q y hq
  refine qw_m40_33 (d := d + 29) ⟨fun z => absurd z (by omega), fun _ => ⟨fun z => absurd h5 z, fun _ => ⟨by unfold mj_r; omega, fun σ3 e3 => ?_⟩⟩⟩
  rw [h26, show (m : Int) + 1 - 1 = m by omega] at e3
  have e26 : σ3 0 26 = m := by rw [e3, mj_up_eq]
  rw [e26, Int.toNat_natCast]
  refine ⟨by omega, by omega, by omega, by omega, by omega, by omega, by omega, by omega, ?_⟩
  have o : ∀ q, 16 ≤ q → σ3 q m = τ q m := fun q hq => by rw [e3, mj_up_ne (by omega)]
  rw [o 16 (by omega), o 17 (by omega), o 18 (by omega), o 19 (by omega), e3]
  exact h d _ ⟨rfl, hq⟩
def z_KK (K : z_K) (σ : mj_S) : Prop := ∀ i : Nat, K.1 i = z_op σ 19 i ∧ K.2.1 i = z_op σ 20 i ∧ K.2.2 i = z_op σ 21 i
theorem c_turn {K : z_K} {σ : mj_S} {n a : Nat} {o x z : Int} (hn : n < 1000000) (hK : z_KK K σ) (h4 : σ 4 3 ≤ 2400) (ha : σ 7 10 = a) (hin : z_in K a o x z) (ho : ¬ o = 0) {d : Nat} {Q : mj_Q} {y : Int}
    (h : a < 2400 → mj_B mjc_L mjc_Ms (d + 30) 91 [.inr (.inl 7), .inl o, .inl x, .inl z] σ (fun r σ1 => ∃ v, r = some (.inl v) ∧ (v = 0 → qh_c90_22 (d + 30) Q y ((n + 1 : Nat) : Int) σ1) ∧ (¬ v = 0 → Q (some (.inl v)) σ1))) : qh_c90_22 (d + 30) Q y (n : Int) σ := by
  obtain ⟨k1, k2, k3⟩ := hK a
  obtain ⟨i1, i2, i3⟩ := hin
  have a2 : a < 2400 := by
    by_cases c : (a : Int) < σ 4 3
    · omega
    · exfalso
      apply ho
      rw [← i1, k1]
      unfold z_op
      rw [if_neg (by omega)]
  refine qw_c90_22 (d := d + 29) ⟨fun z => absurd z (by omega), fun _ => ⟨h4, fun _ => ⟨h4, h4, ?_⟩, fun z => ?_⟩⟩
  · rw [ha, ← k1, ← k2, ← k3, i1, i2, i3]
    have := h a2
    rw [show ((n + 1 : Nat) : Int) = (n : Int) + 1 by omega] at this
    refine mj_B_mono _ _ _ _ _ _ (fun r σ1 hh => ?_) this
    obtain ⟨v, h1, h2, h3⟩ := hh
    exact ⟨v, h1, fun e => ⟨by unfold mj_r; omega, h2 e⟩, h3⟩
  · rw [ha, ← k1, i1] at z
    exact absurd z ho
theorem c_o1 {σ : mj_S} {a : Nat} {S fuel : Nat} {x y : Int} {d : Nat} {Q : mj_Q} (ha : σ 7 10 = a) (ha2 : a < 2400) (h12 : σ 7 12 = S) (h11 : σ 7 11 = fuel) (hS : fuel ≤ 20000) (hok : S < fuel → ∀ σ', (∀ q k, ¬ (q = 7 ∧ (k = 10 ∨ k = 12)) → σ' q k = σ q k) → σ' 7 10 = ((a + 1 : Nat) : Int) → σ' 7 12 = ((S + 1 : Nat) : Int) → Q (some (.inl 0)) σ') (hbad : fuel ≤ S → ∀ σ', (∀ q k, ¬ (q = 7 ∧ k = 10) → σ' q k = σ q k) → Q (some (.inl 5)) σ') : mj_B mjc_L mjc_Ms (d + 30) 91 [.inr (.inl 7), .inl 1, .inl x, .inl y] σ Q := by
  refine wq_c91 (d := d + 28) ⟨by unfold mj_r; omega, fun σ1 e1 => ⟨fun _ => ?_, fun z => absurd z (by decide), fun z => absurd z (by decide), fun z => absurd z (by decide), fun z => absurd z (by decide), fun z => absurd z (by decide), fun z => absurd z (by decide), fun z => absurd z (by decide), fun z => absurd z (by decide), fun z => absurd z (by decide), fun z => absurd z (by decide), fun z => absurd z (by decide), fun z => absurd z (by decide), fun z => absurd z (by decide), fun z => absurd rfl (z.1)⟩⟩
  rw [ha, show (a : Int) + 1 = ((a + 1 : Nat) : Int) by omega] at e1
  have o1 : ∀ q k, ¬ (q = 7 ∧ k = 10) → σ1 q k = σ q k := fun q k z => by rw [e1, mj_up_ne z]
  have a1 : σ1 7 10 = ((a + 1 : Nat) : Int) := by rw [e1, mj_up_eq]
  refine wq_c92 (d := d + 28) ⟨fun z => ⟨?_, fun σ2 e2 => ⟨0, rfl, ?_⟩⟩, fun z => ⟨5, rfl, ?_⟩⟩
  · rw [o1 7 12 (by omega), o1 7 11 (by omega)] at z
    rw [o1 7 12 (by omega)]; unfold mj_r; omega
  · rw [o1 7 12 (by omega), o1 7 11 (by omega)] at z
    refine hok (by omega) σ2 (fun q k c => by rw [e2, mj_up_ne (by omega)]; exact o1 q k (by omega)) (by rw [e2, mj_up_ne (by omega)]; exact a1) ?_
    rw [e2, mj_up_eq, o1 7 12 (by omega)]; omega
  · rw [o1 7 12 (by omega), o1 7 11 (by omega)] at z
    exact hbad (by omega) σ1 o1
theorem c_o2 {σ : mj_S} {a : Nat} {h : Nat} {x y : Int} {d : Nat} {Q : mj_Q} (ha : σ 7 10 = a) (ha2 : a < 2400) (h7 : σ 7 7 = h) (hh : h ≤ 100) (hok : h < 100 → ∀ σ', (∀ q k, ¬ ((q = 29 ∧ k = h) ∨ (q = 7 ∧ (k = 7 ∨ k = 10 ∨ k = 13))) → σ' q k = σ q k) → σ' 7 10 = ((a + 1 : Nat) : Int) → σ' 29 h = x → σ' 7 7 = (h : Int) + 1 → σ' 7 13 = (if σ 7 13 < (h : Int) + 1 then (h : Int) + 1 else σ 7 13) → Q (some (.inl 0)) σ') (hbad : h = 100 → ∀ σ', (∀ q k, ¬ (q = 7 ∧ k = 10) → σ' q k = σ q k) → Q (some (.inl 9)) σ') : mj_B mjc_L mjc_Ms (d + 30) 91 [.inr (.inl 7), .inl 2, .inl x, .inl y] σ Q := by
  refine wq_c91 (d := d + 28) ⟨by unfold mj_r; omega, fun σ1 e1 => ⟨fun z => absurd z (by decide), fun _ => ?_, fun z => absurd z (by decide), fun z => absurd z (by decide), fun z => absurd z (by decide), fun z => absurd z (by decide), fun z => absurd z (by decide), fun z => absurd z (by decide), fun z => absurd z (by decide), fun z => absurd z (by decide), fun z => absurd z (by decide), fun z => absurd z (by decide), fun z => absurd z (by decide), fun z => absurd z (by decide), fun z => absurd rfl (z.2.1)⟩⟩
  rw [ha, show (a : Int) + 1 = ((a + 1 : Nat) : Int) by omega] at e1
  have o1 : ∀ q k, ¬ (q = 7 ∧ k = 10) → σ1 q k = σ q k := fun q k z => by rw [e1, mj_up_ne z]
  have a1 : σ1 7 10 = ((a + 1 : Nat) : Int) := by rw [e1, mj_up_eq]
  by_cases hc : h < 100
  · refine t_c93 (d := d + 28) (h := h) (by rw [o1 7 7 (by omega)]; exact h7) hc (fun σ' f1 f2 f3 f4 => ⟨0, rfl, ?_⟩)
    refine hok hc σ' (fun q k c => by rw [f1 q k (by omega)]; exact o1 q k (by omega)) (by rw [f1 7 10 (by omega)]; exact a1) f2 f3 ?_
    rw [f4, o1 7 13 (by omega)]
  · exact t_c93d (d := d + 28) (h := h) (by rw [o1 7 7 (by omega)]; exact h7) (by omega) ⟨9, rfl, hbad (by omega) σ1 o1⟩
theorem c_o3 {σ : mj_S} {a : Nat} {h fb p : Nat} {y : Int} {d : Nat} {Q : mj_Q} (ha : σ 7 10 = a) (ha2 : a < 2400) (h7 : σ 7 7 = h) (hh : h ≤ 100) (h8 : σ 7 8 = fb) (hp : fb + p < 100) (hok : h < 100 → ∀ σ', (∀ q k, ¬ ((q = 29 ∧ k = h) ∨ (q = 7 ∧ (k = 7 ∨ k = 10 ∨ k = 13))) → σ' q k = σ q k) → σ' 7 10 = ((a + 1 : Nat) : Int) → σ' 29 h = σ 29 (fb + p) → σ' 7 7 = (h : Int) + 1 → σ' 7 13 = (if σ 7 13 < (h : Int) + 1 then (h : Int) + 1 else σ 7 13) → Q (some (.inl 0)) σ') (hbad : h = 100 → ∀ σ', (∀ q k, ¬ (q = 7 ∧ k = 10) → σ' q k = σ q k) → Q (some (.inl 9)) σ') : mj_B mjc_L mjc_Ms (d + 30) 91 [.inr (.inl 7), .inl 3, .inl (p : Int), .inl y] σ Q := by
  refine wq_c91 (d := d + 28) ⟨by unfold mj_r; omega, fun σ1 e1 => ⟨fun z => absurd z (by decide), fun z => absurd z (by decide), fun _ => ?_, fun z => absurd z (by decide), fun z => absurd z (by decide), fun z => absurd z (by decide), fun z => absurd z (by decide), fun z => absurd z (by decide), fun z => absurd z (by decide), fun z => absurd z (by decide), fun z => absurd z (by decide), fun z => absurd z (by decide), fun z => absurd z (by decide), fun z => absurd z (by decide), fun z => absurd rfl (z.2.2.1)⟩⟩
  rw [ha, show (a : Int) + 1 = ((a + 1 : Nat) : Int) by omega] at e1
  have o1 : ∀ q k, ¬ (q = 7 ∧ k = 10) → σ1 q k = σ q k := fun q k z => by rw [e1, mj_up_ne z]
  have a1 : σ1 7 10 = ((a + 1 : Nat) : Int) := by rw [e1, mj_up_eq]
  refine ⟨by rw [o1 7 8 (by omega)]; unfold mj_r; omega, ?_⟩
  have ev : z_vr σ1 (p : Int) = σ 29 (fb + p) := by
    unfold z_vr
    rw [o1 7 8 (by omega), h8, if_pos (by omega), show ((fb : Int) + (p : Int)).toNat = fb + p by omega, o1 29 _ (by omega)]
  rw [ev]
  by_cases hc : h < 100
  · refine t_c93 (d := d + 28) (h := h) (by rw [o1 7 7 (by omega)]; exact h7) hc (fun σ' f1 f2 f3 f4 => ⟨0, rfl, ?_⟩)
    refine hok hc σ' (fun q k c => by rw [f1 q k (by omega)]; exact o1 q k (by omega)) (by rw [f1 7 10 (by omega)]; exact a1) f2 f3 ?_
    rw [f4, o1 7 13 (by omega)]
  · exact t_c93d (d := d + 28) (h := h) (by rw [o1 7 7 (by omega)]; exact h7) (by omega) ⟨9, rfl, hbad (by omega) σ1 o1⟩
theorem c_o4 {σ : mj_S} {a : Nat} {x y : Int} {d : Nat} {Q : mj_Q} (ha : σ 7 10 = a) (ha2 : a < 2400) (hok : ∀ σ', (∀ q k, ¬ (q = 7 ∧ k = 10) → σ' q k = σ q k) → σ' 7 10 = x → Q (some (.inl 0)) σ') : mj_B mjc_L mjc_Ms (d + 30) 91 [.inr (.inl 7), .inl 4, .inl x, .inl y] σ Q := by
  refine wq_c91 (d := d + 28) ⟨by unfold mj_r; omega, fun σ1 e1 => ⟨fun z => absurd z (by decide), fun z => absurd z (by decide), fun z => absurd z (by decide), fun _ => ?_, fun z => absurd z (by decide), fun z => absurd z (by decide), fun z => absurd z (by decide), fun z => absurd z (by decide), fun z => absurd z (by decide), fun z => absurd z (by decide), fun z => absurd z (by decide), fun z => absurd z (by decide), fun z => absurd z (by decide), fun z => absurd z (by decide), fun z => absurd rfl (z.2.2.2.1)⟩⟩
  rw [ha, show (a : Int) + 1 = ((a + 1 : Nat) : Int) by omega] at e1
  have o1 : ∀ q k, ¬ (q = 7 ∧ k = 10) → σ1 q k = σ q k := fun q k z => by rw [e1, mj_up_ne z]
  have a1 : σ1 7 10 = ((a + 1 : Nat) : Int) := by rw [e1, mj_up_eq]
  intro σ2 e2
  exact hok σ2 (fun q k c => by rw [e2, mj_up_ne c]; exact o1 q k c) (by rw [e2, mj_up_eq])
theorem c_o5 {σ : mj_S} {a : Nat} {h : Nat} {x y : Int} {d : Nat} {Q : mj_Q} (ha : σ 7 10 = a) (ha2 : a < 2400) (h7 : σ 7 7 = (h : Int) + 1) (hh : h < 100) (hnil : σ 29 h = 268435456 → ∀ σ', (∀ q k, ¬ (q = 7 ∧ (k = 7 ∨ k = 10)) → σ' q k = σ q k) → σ' 7 7 = (h : Int) → σ' 7 10 = x → Q (some (.inl 0)) σ') (hval : ¬ σ 29 h = 268435456 → ∀ σ', (∀ q k, ¬ (q = 7 ∧ (k = 7 ∨ k = 10)) → σ' q k = σ q k) → σ' 7 7 = (h : Int) → σ' 7 10 = ((a + 1 : Nat) : Int) → Q (some (.inl 0)) σ') : mj_B mjc_L mjc_Ms (d + 30) 91 [.inr (.inl 7), .inl 5, .inl x, .inl y] σ Q := by
  refine wq_c91 (d := d + 28) ⟨by unfold mj_r; omega, fun σ1 e1 => ⟨fun z => absurd z (by decide), fun z => absurd z (by decide), fun z => absurd z (by decide), fun z => absurd z (by decide), fun _ => ?_, fun z => absurd z (by decide), fun z => absurd z (by decide), fun z => absurd z (by decide), fun z => absurd z (by decide), fun z => absurd z (by decide), fun z => absurd z (by decide), fun z => absurd z (by decide), fun z => absurd z (by decide), fun z => absurd z (by decide), fun z => absurd rfl (z.2.2.2.2.1)⟩⟩
  rw [ha, show (a : Int) + 1 = ((a + 1 : Nat) : Int) by omega] at e1
  have o1 : ∀ q k, ¬ (q = 7 ∧ k = 10) → σ1 q k = σ q k := fun q k z => by rw [e1, mj_up_ne z]
  have a1 : σ1 7 10 = ((a + 1 : Nat) : Int) := by rw [e1, mj_up_eq]
  have g7 : σ1 7 7 = (h : Int) + 1 := by rw [o1 7 7 (by omega)]; exact h7
  have eb : z_bl σ1 0 = σ 29 h := by
    have := t_bl (σ := σ1) (h := h) (k := 0) (by rw [g7]; omega) hh
    rw [← o1 29 h (by omega)]; exact this
  refine wq_c98 (d := d + 27) ⟨by unfold mj_r; omega, by unfold mj_r; omega, fun z => ?_, fun z => ?_⟩
  · rw [eb] at z
    refine wq_c100 ⟨by unfold mj_r; omega, fun σ2 e2 => ⟨rfl, 0, rfl, ?_⟩⟩
    rw [g7, show (if 0 < (h : Int) + 1 - 1 then (h : Int) + 1 - 1 else 0) = (h : Int) by split <;> omega] at e2
    exact hval z σ2 (fun q k c => by rw [e2, mj_up_ne (by omega)]; exact o1 q k (by omega)) (by rw [e2, mj_up_eq]) (by rw [e2, mj_up_ne (by omega)]; exact a1)
  · rw [eb] at z
    refine wq_c100 ⟨by unfold mj_r; omega, fun σ2 e2 => ⟨rfl, fun σ3 e3 => ⟨0, rfl, ?_⟩⟩⟩
    rw [g7, show (if 0 < (h : Int) + 1 - 1 then (h : Int) + 1 - 1 else 0) = (h : Int) by split <;> omega] at e2
    exact hnil z σ3 (fun q k c => by rw [e3, mj_up_ne (by omega), e2, mj_up_ne (by omega)]; exact o1 q k (by omega)) (by rw [e3, mj_up_ne (by omega), e2, mj_up_eq]) (by rw [e3, mj_up_eq])
theorem c_o6 {σ : mj_S} {a : Nat} {h : Nat} {x y : Int} {d : Nat} {Q : mj_Q} (ha : σ 7 10 = a) (ha2 : a < 2400) (h7 : σ 7 7 = (h : Int) + 1) (hh : h < 100) (hkeep : σ 29 h = 268435456 → ∀ σ', (∀ q k, ¬ (q = 7 ∧ k = 10) → σ' q k = σ q k) → σ' 7 10 = x → Q (some (.inl 0)) σ') (hdrop : ¬ σ 29 h = 268435456 → ∀ σ', (∀ q k, ¬ (q = 7 ∧ (k = 7 ∨ k = 10)) → σ' q k = σ q k) → σ' 7 7 = (h : Int) → σ' 7 10 = ((a + 1 : Nat) : Int) → Q (some (.inl 0)) σ') : mj_B mjc_L mjc_Ms (d + 30) 91 [.inr (.inl 7), .inl 6, .inl x, .inl y] σ Q := by
  refine wq_c91 (d := d + 28) ⟨by unfold mj_r; omega, fun σ1 e1 => ⟨fun z => absurd z (by decide), fun z => absurd z (by decide), fun z => absurd z (by decide), fun z => absurd z (by decide), fun z => absurd z (by decide), fun _ => ?_, fun z => absurd z (by decide), fun z => absurd z (by decide), fun z => absurd z (by decide), fun z => absurd z (by decide), fun z => absurd z (by decide), fun z => absurd z (by decide), fun z => absurd z (by decide), fun z => absurd z (by decide), fun z => absurd rfl (z.2.2.2.2.2.1)⟩⟩
  rw [ha, show (a : Int) + 1 = ((a + 1 : Nat) : Int) by omega] at e1
  have o1 : ∀ q k, ¬ (q = 7 ∧ k = 10) → σ1 q k = σ q k := fun q k z => by rw [e1, mj_up_ne z]
  have a1 : σ1 7 10 = ((a + 1 : Nat) : Int) := by rw [e1, mj_up_eq]
  have g7 : σ1 7 7 = (h : Int) + 1 := by rw [o1 7 7 (by omega)]; exact h7
  have eb : z_bl σ1 0 = σ 29 h := by
    have := t_bl (σ := σ1) (h := h) (k := 0) (by rw [g7]; omega) hh
    rw [← o1 29 h (by omega)]; exact this
  refine ⟨by unfold mj_r; omega, by unfold mj_r; omega, fun z => ?_, fun z => ?_⟩
  · rw [eb] at z
    refine wq_c99 (d := d + 27) ⟨fun _ => wq_c100 ⟨by unfold mj_r; omega, fun σ2 e2 => ⟨rfl, 0, rfl, ?_⟩⟩, fun c => absurd rfl c⟩
    rw [g7, show (if 0 < (h : Int) + 1 - 1 then (h : Int) + 1 - 1 else 0) = (h : Int) by split <;> omega] at e2
    exact hdrop z σ2 (fun q k c => by rw [e2, mj_up_ne (by omega)]; exact o1 q k (by omega)) (by rw [e2, mj_up_eq]) (by rw [e2, mj_up_ne (by omega)]; exact a1)
  · rw [eb] at z
    refine wq_c99 (d := d + 27) ⟨fun c => absurd c (by decide), fun _ σ2 e2 => ⟨0, rfl, ?_⟩⟩
    exact hkeep z σ2 (fun q k c => by rw [e2, mj_up_ne (by omega)]; exact o1 q k (by omega)) (by rw [e2, mj_up_eq])
theorem c_o7 {σ : mj_S} {a : Nat} {h : Nat} {x y : Int} {d : Nat} {Q : mj_Q} (ha : σ 7 10 = a) (ha2 : a < 2400) (h7 : σ 7 7 = (h : Int) + 1) (hh : h < 100) (hkeep : ¬ σ 29 h = 268435456 → ∀ σ', (∀ q k, ¬ (q = 7 ∧ k = 10) → σ' q k = σ q k) → σ' 7 10 = x → Q (some (.inl 0)) σ') (hdrop : σ 29 h = 268435456 → ∀ σ', (∀ q k, ¬ (q = 7 ∧ (k = 7 ∨ k = 10)) → σ' q k = σ q k) → σ' 7 7 = (h : Int) → σ' 7 10 = ((a + 1 : Nat) : Int) → Q (some (.inl 0)) σ') : mj_B mjc_L mjc_Ms (d + 30) 91 [.inr (.inl 7), .inl 7, .inl x, .inl y] σ Q := by
  refine wq_c91 (d := d + 28) ⟨by unfold mj_r; omega, fun σ1 e1 => ⟨fun z => absurd z (by decide), fun z => absurd z (by decide), fun z => absurd z (by decide), fun z => absurd z (by decide), fun z => absurd z (by decide), fun z => absurd z (by decide), fun _ => ?_, fun z => absurd z (by decide), fun z => absurd z (by decide), fun z => absurd z (by decide), fun z => absurd z (by decide), fun z => absurd z (by decide), fun z => absurd z (by decide), fun z => absurd z (by decide), fun z => absurd rfl (z.2.2.2.2.2.2.1)⟩⟩
  rw [ha, show (a : Int) + 1 = ((a + 1 : Nat) : Int) by omega] at e1
  have o1 : ∀ q k, ¬ (q = 7 ∧ k = 10) → σ1 q k = σ q k := fun q k z => by rw [e1, mj_up_ne z]
  have a1 : σ1 7 10 = ((a + 1 : Nat) : Int) := by rw [e1, mj_up_eq]
  have g7 : σ1 7 7 = (h : Int) + 1 := by rw [o1 7 7 (by omega)]; exact h7
  have eb : z_bl σ1 0 = σ 29 h := by
    have := t_bl (σ := σ1) (h := h) (k := 0) (by rw [g7]; omega) hh
    rw [← o1 29 h (by omega)]; exact this
  refine ⟨by unfold mj_r; omega, by unfold mj_r; omega, fun z => ?_, fun z => ?_⟩
  · rw [eb] at z
    refine wq_c99 (d := d + 27) ⟨fun _ => wq_c100 ⟨by unfold mj_r; omega, fun σ2 e2 => ⟨rfl, 0, rfl, ?_⟩⟩, fun c => absurd rfl c⟩
    rw [g7, show (if 0 < (h : Int) + 1 - 1 then (h : Int) + 1 - 1 else 0) = (h : Int) by split <;> omega] at e2
    exact hdrop z σ2 (fun q k c => by rw [e2, mj_up_ne (by omega)]; exact o1 q k (by omega)) (by rw [e2, mj_up_eq]) (by rw [e2, mj_up_ne (by omega)]; exact a1)
  · rw [eb] at z
    refine wq_c99 (d := d + 27) ⟨fun c => absurd c (by decide), fun _ σ2 e2 => ⟨0, rfl, ?_⟩⟩
    exact hkeep z σ2 (fun q k c => by rw [e2, mj_up_ne (by omega)]; exact o1 q k (by omega)) (by rw [e2, mj_up_eq])
theorem c_o8 {σ : mj_S} {a : Nat} {h i : Nat} {y : Int} {d : Nat} {Q : mj_Q} (ha : σ 7 10 = a) (ha2 : a < 2400) (h7 : σ 7 7 = ((h + i + 1 : Nat) : Int)) (hh : h + i < 100) (hok : ∀ σ', (∀ q k, ¬ ((q = 29 ∧ k = h) ∨ (q = 7 ∧ (k = 7 ∨ k = 10 ∨ k = 13))) → σ' q k = σ q k) → σ' 7 10 = ((a + 1 : Nat) : Int) → σ' 29 h = σ 29 (h + i) → σ' 7 7 = (h : Int) + 1 → σ' 7 13 = (if σ 7 13 < (h : Int) + 1 then (h : Int) + 1 else σ 7 13) → Q (some (.inl 0)) σ') : mj_B mjc_L mjc_Ms (d + 30) 91 [.inr (.inl 7), .inl 8, .inl (i : Int), .inl y] σ Q := by
  refine wq_c91 (d := d + 28) ⟨by unfold mj_r; omega, fun σ1 e1 => ⟨fun z => absurd z (by decide), fun z => absurd z (by decide), fun z => absurd z (by decide), fun z => absurd z (by decide), fun z => absurd z (by decide), fun z => absurd z (by decide), fun z => absurd z (by decide), fun _ => ?_, fun z => absurd z (by decide), fun z => absurd z (by decide), fun z => absurd z (by decide), fun z => absurd z (by decide), fun z => absurd z (by decide), fun z => absurd z (by decide), fun z => absurd rfl (z.2.2.2.2.2.2.2.1)⟩⟩
  rw [ha, show (a : Int) + 1 = ((a + 1 : Nat) : Int) by omega] at e1
  have o1 : ∀ q k, ¬ (q = 7 ∧ k = 10) → σ1 q k = σ q k := fun q k z => by rw [e1, mj_up_ne z]
  have a1 : σ1 7 10 = ((a + 1 : Nat) : Int) := by rw [e1, mj_up_eq]
  have g7 : σ1 7 7 = ((h + i + 1 : Nat) : Int) := by rw [o1 7 7 (by omega)]; exact h7
  have eb : z_bl σ1 0 = σ 29 (h + i) := by
    have := t_bl (σ := σ1) (h := h + i) (k := 0) (by rw [g7]) hh
    rw [← o1 29 _ (by omega)]; exact this
  rw [eb, show (i : Int) + 1 = ((i + 1 : Nat) : Int) by omega]
  refine ⟨by unfold mj_r; omega, by unfold mj_r; omega, by unfold mj_r; omega, t_c96 (d := d + 27) (h := h) (t := i + 1) (by rw [g7]; omega) (by omega) (by omega) (fun σ' f1 f2 f3 f4 => ⟨0, rfl, ?_⟩)⟩
  refine hok σ' (fun q k c => by rw [f1 q k (by omega)]; exact o1 q k (by omega)) (by rw [f1 7 10 (by omega)]; exact a1) f2 f3 ?_
  rw [f4, o1 7 13 (by omega)]
theorem c_o9 {σ : mj_S} {a : Nat} {h f i : Nat} {x : Int} {d : Nat} {Q : mj_Q} (ha : σ 7 10 = a) (ha2 : a < 2400) (h7 : σ 7 7 = h) (hh : h ≤ 100) (hf : h = f + i) (hx : z_dr x) (hrf : ¬ z_rf σ x i = 0 → ∀ σ', (∀ q k, ¬ (q = 7 ∧ k = 10) → σ' q k = σ q k) → Q (some (.inl (z_rf σ x i))) σ') (hdeep : z_rf σ x i = 0 → h = 100 → ∀ σ', (∀ q k, ¬ (q = 7 ∧ k = 10) → σ' q k = σ q k) → Q (some (.inl 9)) σ') (hok : z_rf σ x i = 0 → h < 100 → ∀ σ', (∀ q k, ¬ ((q = 29 ∧ k = h) ∨ (q = 7 ∧ (k = 7 ∨ k = 8 ∨ k = 9 ∨ k = 10 ∨ k = 13)) ∨ (30 ≤ q ∧ q ≤ 32 ∧ k = h)) → σ' q k = σ q k) → σ' 29 h = 268435456 → σ' 7 7 = (h : Int) + 1 → σ' 7 13 = (if σ 7 13 < (h : Int) + 1 then (h : Int) + 1 else σ 7 13) → σ' 7 8 = (f : Int) → σ' 7 9 = (h : Int) → σ' 7 10 = z_st σ x → σ' 30 h = ((a + 1 : Nat) : Int) → σ' 31 h = σ 7 8 → σ' 32 h = σ 7 9 → Q (some (.inl 0)) σ') : mj_B mjc_L mjc_Ms (d + 30) 91 [.inr (.inl 7), .inl 9, .inl x, .inl (i : Int)] σ Q := by
  refine wq_c91 (d := d + 28) ⟨by unfold mj_r; omega, fun σ1 e1 => ⟨fun z => absurd z (by decide), fun z => absurd z (by decide), fun z => absurd z (by decide), fun z => absurd z (by decide), fun z => absurd z (by decide), fun z => absurd z (by decide), fun z => absurd z (by decide), fun z => absurd z (by decide), fun _ => ?_, fun z => absurd z (by decide), fun z => absurd z (by decide), fun z => absurd z (by decide), fun z => absurd z (by decide), fun z => absurd z (by decide), fun z => absurd rfl (z.2.2.2.2.2.2.2.2.1)⟩⟩
  rw [ha, show (a : Int) + 1 = ((a + 1 : Nat) : Int) by omega] at e1
  have o1 : ∀ q k, ¬ (q = 7 ∧ k = 10) → σ1 q k = σ q k := fun q k z => by rw [e1, mj_up_ne z]
  have a1 : σ1 7 10 = ((a + 1 : Nat) : Int) := by rw [e1, mj_up_eq]
  have erf : z_rf σ1 x i = z_rf σ x i := by
    unfold z_rf
    rw [o1 24 _ (by omega), o1 26 _ (by omega)]
  have g7 : σ1 7 7 = h := by rw [o1 7 7 (by omega)]; exact h7
  refine wq_c107 (d := d + 27) ⟨hx, fun z => ?_, fun z => ?_⟩
  · rw [erf] at z
    refine ⟨by rw [g7]; unfold mj_r; omega, ?_⟩
    by_cases hc : h < 100
    · refine t_c93 (d := d + 27) g7 hc (fun σ2 f1 f2 f3 f4 => ⟨0, rfl, fun _ σ3 e3 σ4 e4 σ5 e5 => ⟨hx, fun σ6 e6 => ⟨0, rfl, ?_⟩⟩, fun c => absurd rfl c⟩)
      rw [g7, show (h : Int) - (i : Int) = f by omega] at e4
      rw [g7] at e5 e3
      unfold z_rm at e3
      rw [if_pos (by omega), Int.toNat_natCast, f1 7 10 (by omega), a1, f1 7 8 (by omega), f1 7 9 (by omega), o1 7 8 (by omega), o1 7 9 (by omega)] at e3
      have s3 : ∀ q k, ¬ (30 ≤ q ∧ q ≤ 32 ∧ k = h) → σ3 q k = σ2 q k := fun q k c => by rw [e3, mj_up_ne (by omega), mj_up_ne (by omega), mj_up_ne (by omega)]
      have s6 : ∀ q k, ¬ (q = 7 ∧ (k = 8 ∨ k = 9 ∨ k = 10)) → σ6 q k = σ3 q k := fun q k c => by rw [e6, mj_up_ne (by omega), e5, mj_up_ne (by omega), e4, mj_up_ne (by omega)]
      have est : z_st σ5 x = z_st σ x := by
        unfold z_st
        rw [e5, mj_up_ne (by omega), e4, mj_up_ne (by omega), s3 28 _ (by omega), f1 28 _ (by omega), o1 28 _ (by omega)]
      refine hok z hc σ6 (fun q k c => by rw [s6 q k (by omega), s3 q k (by omega), f1 q k (by omega)]; exact o1 q k (by omega)) (by rw [s6 29 h (by omega), s3 29 h (by omega)]; exact f2) (by rw [s6 7 7 (by omega), s3 7 7 (by omega)]; exact f3) ?_ ?_ ?_ ?_ ?_ ?_ ?_
      · rw [s6 7 13 (by omega), s3 7 13 (by omega), f4, o1 7 13 (by omega)]
      · rw [e6, mj_up_ne (by omega), e5, mj_up_ne (by omega), e4, mj_up_eq]
      · rw [e6, mj_up_ne (by omega), e5, mj_up_eq]
      · rw [e6, mj_up_eq, est]
      · rw [s6 30 h (by omega), e3, mj_up_ne (by omega), mj_up_ne (by omega), mj_up_eq]
      · rw [s6 31 h (by omega), e3, mj_up_ne (by omega), mj_up_eq]
      · rw [s6 32 h (by omega), e3, mj_up_eq]
    · exact t_c93d (d := d + 27) g7 (by omega) ⟨9, rfl, fun c => absurd c (by decide), fun _ => ⟨9, rfl, hdeep z (by omega) σ1 o1⟩⟩
  · rw [erf] at z
    rw [erf]
    exact ⟨_, rfl, hrf z σ1 o1⟩
theorem c_o10 {σ : mj_S} {a : Nat} {h f i hp fb : Nat} {x : Int} {d : Nat} {Q : mj_Q} (ha : σ 7 10 = a) (ha2 : a < 2400) (h7 : σ 7 7 = h) (hh : h ≤ 100) (hf : h = f + i) (h8 : σ 7 8 = fb) (h9 : σ 7 9 = hp) (hfb : fb ≤ hp) (hhp : hp < f) (hx : z_dr x) (hrf : ¬ z_rf σ x i = 0 → ∀ σ', (∀ q k, ¬ (q = 7 ∧ k = 10) → σ' q k = σ q k) → Q (some (.inl (z_rf σ x i))) σ') (hok : z_rf σ x i = 0 → ∀ σ', (∀ q k, ¬ ((q = 29 ∧ fb ≤ k ∧ k ≤ fb + i) ∨ (q = 7 ∧ (k = 7 ∨ k = 9 ∨ k = 10 ∨ k = 13)) ∨ (30 ≤ q ∧ q ≤ 32 ∧ k = fb + i)) → σ' q k = σ q k) → (∀ j, j < i → σ' 29 (fb + j) = σ 29 (f + j)) → σ' 29 (fb + i) = 268435456 → σ' 7 7 = ((fb + i : Nat) : Int) + 1 → σ' 7 13 = (if σ 7 13 < ((fb + i : Nat) : Int) + 1 then ((fb + i : Nat) : Int) + 1 else σ 7 13) → σ' 7 9 = ((fb + i : Nat) : Int) → σ' 7 10 = z_st σ x → σ' 30 (fb + i) = σ 30 hp → σ' 31 (fb + i) = σ 31 hp → σ' 32 (fb + i) = σ 32 hp → Q (some (.inl 0)) σ') : mj_B mjc_L mjc_Ms (d + 30) 91 [.inr (.inl 7), .inl 10, .inl x, .inl (i : Int)] σ Q := by
  refine wq_c91 (d := d + 28) ⟨by unfold mj_r; omega, fun σ1 e1 => ⟨fun z => absurd z (by decide), fun z => absurd z (by decide), fun z => absurd z (by decide), fun z => absurd z (by decide), fun z => absurd z (by decide), fun z => absurd z (by decide), fun z => absurd z (by decide), fun z => absurd z (by decide), fun z => absurd z (by decide), fun _ => ?_, fun z => absurd z (by decide), fun z => absurd z (by decide), fun z => absurd z (by decide), fun z => absurd z (by decide), fun z => absurd rfl (z.2.2.2.2.2.2.2.2.2.1)⟩⟩
  rw [ha, show (a : Int) + 1 = ((a + 1 : Nat) : Int) by omega] at e1
  have o1 : ∀ q k, ¬ (q = 7 ∧ k = 10) → σ1 q k = σ q k := fun q k z => by rw [e1, mj_up_ne z]
  have a1 : σ1 7 10 = ((a + 1 : Nat) : Int) := by rw [e1, mj_up_eq]
  have erf : z_rf σ1 x i = z_rf σ x i := by
    unfold z_rf
    rw [o1 24 _ (by omega), o1 26 _ (by omega)]
  have g7 : σ1 7 7 = h := by rw [o1 7 7 (by omega)]; exact h7
  have g8 : σ1 7 8 = fb := by rw [o1 7 8 (by omega)]; exact h8
  have g9 : σ1 7 9 = hp := by rw [o1 7 9 (by omega)]; exact h9
  refine wq_c108 (d := d + 27) ⟨hx, fun z => ?_, fun z => ?_⟩
  · rw [erf] at z
    rw [g7, g8, g9, show (h : Int) - (i : Int) = f by omega, show (fb : Int) + (i : Int) = ((fb + i : Nat) : Int) by omega, Int.toNat_natCast, Int.toNat_natCast, Int.toNat_natCast]
    refine ⟨by unfold mj_r; omega, by unfold mj_r; omega, fun c => absurd c (by omega), fun _ => ⟨fun c => absurd c (by omega), fun _ => ⟨fun c => absurd c (by omega), fun _ => ⟨fun c => absurd c (by omega), fun _ => ⟨fun _ => ⟨by omega, by omega, by omega, by omega, by omega, fun _ _ => trivial, fun σ2 e2 => ?_⟩, fun c => absurd c (by omega)⟩⟩⟩⟩⟩
    have s2 : ∀ q k, ¬ (q = 29 ∧ fb ≤ k ∧ k < fb + i) → σ2 q k = σ1 q k := fun q k c => by
      rw [e2]
      unfold mj_cp
      by_cases c1 : q = 29
      · rw [if_pos c1, if_neg (by omega)]
      · rw [if_neg c1]
    have s2v : ∀ j, j < i → σ2 29 (fb + j) = σ 29 (f + j) := fun j hj => by
      rw [e2]
      unfold mj_cp
      rw [if_pos rfl, if_pos (by omega), show f + (fb + j - fb) = f + j by omega, o1 29 _ (by omega)]
    have k9 : σ2 7 9 = hp := by rw [s2 7 9 (by omega)]; exact g9
    rw [k9, Int.toNat_natCast]
    refine ⟨by omega, by omega, by omega, by omega, by omega, by omega, fun σ3 e3 σ4 e4 σ5 e5 => ?_⟩
    unfold z_rm at e3
    rw [if_pos (by omega), Int.toNat_natCast, s2 30 hp (by omega), s2 31 hp (by omega), s2 32 hp (by omega), o1 30 hp (by omega), o1 31 hp (by omega), o1 32 hp (by omega)] at e3
    have s3 : ∀ q k, ¬ (30 ≤ q ∧ q ≤ 32 ∧ k = fb + i) → σ3 q k = σ2 q k := fun q k c => by rw [e3, mj_up_ne (by omega), mj_up_ne (by omega), mj_up_ne (by omega)]
    have s5 : ∀ q k, ¬ (q = 7 ∧ (k = 7 ∨ k = 9)) → σ5 q k = σ3 q k := fun q k c => by rw [e5, mj_up_ne (by omega), e4, mj_up_ne (by omega)]
    refine t_c93 (d := d + 27) (h := fb + i) (by rw [e5, mj_up_eq]) (by omega) (fun σ6 f1 f2 f3 f4 => ⟨0, rfl, fun c => absurd rfl c, fun _ => ⟨hx, fun σ7 e7 => ⟨0, rfl, ?_⟩⟩⟩)
    have est : z_st σ6 x = z_st σ x := by
      unfold z_st
      rw [f1 28 _ (by omega), s5 28 _ (by omega), s3 28 _ (by omega), s2 28 _ (by omega), o1 28 _ (by omega)]
    have s7 : ∀ q k, ¬ (q = 7 ∧ k = 10) → σ7 q k = σ6 q k := fun q k c => by rw [e7, mj_up_ne c]
    refine hok z σ7 (fun q k c => by rw [s7 q k (by omega), f1 q k (by omega), s5 q k (by omega), s3 q k (by omega), s2 q k (by omega)]; exact o1 q k (by omega)) (fun j hj => by rw [s7 29 _ (by omega), f1 29 _ (by omega), s5 29 _ (by omega), s3 29 _ (by omega)]; exact s2v j hj) (by rw [s7 29 _ (by omega)]; exact f2) (by rw [s7 7 7 (by omega)]; exact f3) ?_ ?_ ?_ ?_ ?_ ?_
    · rw [s7 7 13 (by omega), f4, s5 7 13 (by omega), s3 7 13 (by omega), s2 7 13 (by omega), o1 7 13 (by omega)]
    · rw [s7 7 9 (by omega), f1 7 9 (by omega), e5, mj_up_ne (by omega), e4, mj_up_eq]
    · rw [e7, mj_up_eq, est]
    · rw [s7 30 _ (by omega), f1 30 _ (by omega), s5 30 _ (by omega), e3, mj_up_ne (by omega), mj_up_ne (by omega), mj_up_eq]
    · rw [s7 31 _ (by omega), f1 31 _ (by omega), s5 31 _ (by omega), e3, mj_up_ne (by omega), mj_up_eq]
    · rw [s7 32 _ (by omega), f1 32 _ (by omega), s5 32 _ (by omega), e3, mj_up_eq]
  · rw [erf] at z
    rw [erf]
    exact ⟨_, rfl, hrf z σ1 o1⟩
theorem c_o11 {σ : mj_S} {a : Nat} {h hp fb : Nat} {x y : Int} {d : Nat} {Q : mj_Q} (ha : σ 7 10 = a) (ha2 : a < 2400) (h7 : σ 7 7 = (h : Int) + 1) (hh : h < 100) (h8 : σ 7 8 = fb) (h9 : σ 7 9 = hp) (hhp : hp < 100) (hfb : fb ≤ h) (hok : ∀ σ', (∀ q k, ¬ ((q = 29 ∧ k = fb) ∨ (q = 7 ∧ (k = 7 ∨ k = 8 ∨ k = 9 ∨ k = 10 ∨ k = 13))) → σ' q k = σ q k) → σ' 29 fb = σ 29 h → σ' 7 7 = (fb : Int) + 1 → σ' 7 13 = (if σ 7 13 < (fb : Int) + 1 then (fb : Int) + 1 else σ 7 13) → σ' 7 8 = σ 31 hp → σ' 7 9 = σ 32 hp → σ' 7 10 = σ 30 hp → Q (some (.inl 0)) σ') : mj_B mjc_L mjc_Ms (d + 30) 91 [.inr (.inl 7), .inl 11, .inl x, .inl y] σ Q := by
  refine wq_c91 (d := d + 28) ⟨by unfold mj_r; omega, fun σ1 e1 => ⟨fun z => absurd z (by decide), fun z => absurd z (by decide), fun z => absurd z (by decide), fun z => absurd z (by decide), fun z => absurd z (by decide), fun z => absurd z (by decide), fun z => absurd z (by decide), fun z => absurd z (by decide), fun z => absurd z (by decide), fun z => absurd z (by decide), fun _ => ?_, fun z => absurd z (by decide), fun z => absurd z (by decide), fun z => absurd z (by decide), fun z => absurd rfl (z.2.2.2.2.2.2.2.2.2.2.1)⟩⟩
  rw [ha, show (a : Int) + 1 = ((a + 1 : Nat) : Int) by omega] at e1
  have o1 : ∀ q k, ¬ (q = 7 ∧ k = 10) → σ1 q k = σ q k := fun q k z => by rw [e1, mj_up_ne z]
  have a1 : σ1 7 10 = ((a + 1 : Nat) : Int) := by rw [e1, mj_up_eq]
  have g7 : σ1 7 7 = (h : Int) + 1 := by rw [o1 7 7 (by omega)]; exact h7
  have g8 : σ1 7 8 = fb := by rw [o1 7 8 (by omega)]; exact h8
  have g9 : σ1 7 9 = hp := by rw [o1 7 9 (by omega)]; exact h9
  have eb : z_bl σ1 0 = σ 29 h := by
    have := t_bl (σ := σ1) (h := h) (k := 0) (by rw [g7]; omega) hh
    rw [← o1 29 h (by omega)]; exact this
  refine wq_c110 (d := d + 27) ⟨fun c => absurd c (by omega), fun _ => ⟨fun _ => ⟨by rw [g7, g8]; unfold mj_r; omega, by unfold mj_r; omega, by unfold mj_r; omega, ?_⟩, fun c => absurd c (by omega)⟩⟩
  rw [eb, g7, g8, show (h : Int) + 1 - (fb : Int) = ((h + 1 - fb : Nat) : Int) by omega]
  refine t_c96 (d := d + 26) (h := fb) (t := h + 1 - fb) (by rw [g7]; omega) (by omega) (by omega) (fun σ2 f1 f2 f3 f4 => ?_)
  have k9 : σ2 7 9 = hp := by rw [f1 7 9 (by omega)]; exact g9
  rw [k9, Int.toNat_natCast]
  refine ⟨0, rfl, by omega, by omega, fun σ3 e3 => ⟨by omega, by omega, fun σ4 e4 => ⟨by omega, by omega, fun σ5 e5 => ⟨0, rfl, ?_⟩⟩⟩⟩
  have s5 : ∀ q k, ¬ (q = 7 ∧ (k = 8 ∨ k = 9 ∨ k = 10)) → σ5 q k = σ2 q k := fun q k c => by rw [e5, mj_up_ne (by omega), e4, mj_up_ne (by omega), e3, mj_up_ne (by omega)]
  refine hok σ5 (fun q k c => by rw [s5 q k (by omega), f1 q k (by omega)]; exact o1 q k (by omega)) (by rw [s5 29 _ (by omega)]; exact f2) (by rw [s5 7 7 (by omega)]; exact f3) ?_ ?_ ?_ ?_
  · rw [s5 7 13 (by omega), f4, o1 7 13 (by omega)]
  · rw [e5, mj_up_ne (by omega), e4, mj_up_ne (by omega), e3, mj_up_eq, f1 31 _ (by omega), o1 31 _ (by omega)]
  · rw [e5, mj_up_ne (by omega), e4, mj_up_eq, e3, mj_up_ne (by omega), f1 32 _ (by omega), o1 32 _ (by omega)]
  · rw [e5, mj_up_eq, e4, mj_up_ne (by omega), e3, mj_up_ne (by omega), f1 30 _ (by omega), o1 30 _ (by omega)]
