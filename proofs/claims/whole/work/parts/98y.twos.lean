/-! two values taken -/
theorem z_nu_vl {A B : Nat → Int} {st : Nat} {be : Nat → Nat} {G : Nat → Bool} {x y : Int} (hb : ∀ j, G j = true → be j < 200) (h : z_vl A B st be G x y) : z_nu x = z_nu y ∧ 0 ≤ z_nu y ∧ z_nu y ≤ 268435455 := by
  have r := z_vl_r hb h
  unfold z_nu
  by_cases c : 0 ≤ x ∧ x ≤ 268435455
  · rw [if_pos c, if_pos (by omega)]; omega
  · rw [if_neg c, if_neg (by omega)]; omega
def z_t2 (τ : mj_S) (m h : Nat) : mj_S := mj_up (mj_up (mj_up τ 0 26 (m : Int)) 0 31 ((h : Int) + 1)) 0 31 (h : Int)
theorem z_t2_f {τ : mj_S} {m h : Nat} : (∀ q k, ¬ (q = 0 ∧ (k = 26 ∨ k = 31)) → z_t2 τ m h q k = τ q k) ∧ z_t2 τ m h 0 26 = m ∧ z_t2 τ m h 0 31 = h := by
  unfold z_t2
  exact ⟨fun q k z => by rw [mj_up_ne (by omega), mj_up_ne (by omega), mj_up_ne (by omega)], by rw [mj_up_ne (by omega), mj_up_ne (by omega), mj_up_eq], mj_up_eq⟩
theorem r_b0 {τ τ' : mj_S} {m h : Nat} {s x t : Int} (h26 : τ 0 26 = (m : Int) + 1) (hm : m < 3000) (h5 : τ 0 5 = 0) (hv : τ 16 m = 13 ∧ τ 17 m = x ∧ τ 18 m = s ∧ τ 19 m = t) (hs : 16 ≤ s ∧ s ≤ 19) (h31 : τ 0 31 = (h : Int) + 2) (hh : h + 1 < 100) (hk : ∀ (d : Nat) (Q : mj_Q), Q none τ' → qh_m53_37 (d + 28) (fun r σ => r = none ∧ Q none σ) s (τ 20 (h + 1)) (τ 20 h) (z_t2 τ m h)) : z_ge τ τ' := by
  refine r_turn h26 hm h5 (fun d Q hq => ?_)
  rw [hv.1, hv.2.1, hv.2.2.1, hv.2.2.2]
  have c31 : mj_up τ 0 26 (m : Int) 0 31 = (h : Int) + 2 := by rw [mj_up_ne (by omega)]; exact h31
  refine wq_m41 (d := d + 27) ⟨fun z => absurd z (by decide), fun z => absurd z (by decide), fun z => absurd z (by decide), fun z => absurd z (by decide), fun z => absurd z (by decide), fun z => absurd z (by decide), fun z => absurd z (by decide), fun z => absurd z (by decide), fun z => absurd z (by decide), fun z => absurd z (by decide), fun z => absurd z (by decide), fun z => absurd z (by decide), fun _ => ?_, fun z => absurd z (by decide), fun z => absurd ⟨by decide, by decide⟩ z⟩
  refine wq_m53 (d := d + 26) ⟨fun _ => ?_, fun z => absurd z (by omega)⟩
  rw [c31, show (h : Int) + 2 - 1 = (h : Int) + 1 by omega, show ((h : Int) + 1).toNat = h + 1 by omega]
  refine ⟨by omega, by omega, fun σ1 e1 => ⟨fun z => absurd z (by omega), fun _ => ⟨fun z => absurd z (by omega), fun _ => ?_⟩⟩⟩
  have b31 : σ1 0 31 = (h : Int) + 1 := by rw [e1, mj_up_eq]
  rw [b31, show (h : Int) + 1 - 1 = h by omega, Int.toNat_natCast]
  refine ⟨by omega, by omega, fun σ2 e2 => ?_⟩
  have b20 : σ1 20 h = τ 20 h := by rw [e1, mj_up_ne (by omega), mj_up_ne (by omega)]
  have c20 : mj_up τ 0 26 (m : Int) 20 (h + 1) = τ 20 (h + 1) := mj_up_ne (by omega)
  rw [b20, c20, e2, e1]
  exact hk d Q hq
/-- sum, difference, less -/
theorem r_p2 {τ : mj_S} {m h : Nat} {s x t : Int} (h26 : τ 0 26 = (m : Int) + 1) (hm : m < 3000) (h5 : τ 0 5 = 0) (hv : τ 16 m = 13 ∧ τ 17 m = x ∧ τ 18 m = s ∧ τ 19 m = t) (h31 : τ 0 31 = (h : Int) + 2) (hh : h + 1 < 100) (ra : 0 ≤ z_nu (τ 20 h) ∧ z_nu (τ 20 h) ≤ 268435455) (rb : 0 ≤ z_nu (τ 20 (h + 1)) ∧ z_nu (τ 20 (h + 1)) ≤ 268435455) :
    (s = 17 → z_nu (τ 20 h) + z_nu (τ 20 (h + 1)) ≤ 268435455 → z_ge τ (z_pu (z_t2 τ m h) (z_nu (τ 20 h) + z_nu (τ 20 (h + 1))))) ∧ (s = 17 → 268435455 < z_nu (τ 20 h) + z_nu (τ 20 (h + 1)) → z_ge τ (mj_up (z_t2 τ m h) 0 5 7)) ∧ (s = 18 → z_ge τ (z_pu (z_t2 τ m h) (if 0 < z_nu (τ 20 h) - z_nu (τ 20 (h + 1)) then z_nu (τ 20 h) - z_nu (τ 20 (h + 1)) else 0))) ∧ (s = 19 → z_ge τ (z_pu (z_t2 τ m h) (z_tr (if z_nu (τ 20 h) < z_nu (τ 20 (h + 1)) then 1 else 0)))) := by
  obtain ⟨f1, f2, f3⟩ := @z_t2_f τ m h
  have e5 : z_t2 τ m h 0 5 = 0 := by rw [f1 0 5 (by omega)]; exact h5
  refine ⟨fun e z => ?_, fun e z => ?_, fun e => ?_, fun e => ?_⟩
  · refine r_b0 h26 hm h5 hv (by omega) h31 hh (fun d Q hq => qw_m53_37 (d := d + 26) ⟨fun _ => ⟨fun _ => ⟨fun c => absurd c (by omega), fun _ => ⟨fun _ => ⟨fun _ => ⟨fun _ => ⟨fun _ => ⟨fun _ => ⟨fun _ => ⟨by unfold mj_r; omega, fun _ => ⟨by unfold mj_r; omega, by omega, by omega, fun σ2 e2 => ⟨rfl, by rw [e2]; exact hq⟩⟩, fun c => absurd c (by omega)⟩, fun c => absurd c (by omega)⟩, fun c => absurd c (by omega)⟩, fun c => absurd c (by omega)⟩, fun c => absurd c (by omega)⟩, fun c => absurd c (by omega)⟩, fun c => absurd c (by omega)⟩⟩, fun c => absurd c (by omega)⟩, fun c => absurd c (by omega)⟩)
  · refine r_b0 h26 hm h5 hv (by omega) h31 hh (fun d Q hq => qw_m53_37 (d := d + 26) ⟨fun _ => ⟨fun _ => ⟨fun c => absurd c (by omega), fun _ => ⟨fun _ => ⟨fun _ => ⟨fun _ => ⟨fun _ => ⟨fun _ => ⟨fun _ => ⟨by unfold mj_r; omega, fun c => absurd c (by omega), fun _ σ2 e2 => ⟨rfl, by rw [e2, z_sp0 e5]; exact hq⟩⟩, fun c => absurd c (by omega)⟩, fun c => absurd c (by omega)⟩, fun c => absurd c (by omega)⟩, fun c => absurd c (by omega)⟩, fun c => absurd c (by omega)⟩, fun c => absurd c (by omega)⟩⟩, fun c => absurd c (by omega)⟩, fun c => absurd c (by omega)⟩)
  · refine r_b0 h26 hm h5 hv (by omega) h31 hh (fun d Q hq => qw_m53_37 (d := d + 26) ⟨fun _ => ⟨fun _ => ⟨fun c => absurd c (by omega), fun _ => ⟨fun _ => ⟨fun _ => ⟨fun _ => ⟨fun _ => ⟨fun _ => ⟨fun c => absurd e c, fun _ => ⟨fun z => ⟨by unfold mj_r; omega, by omega, by omega, fun σ2 e2 => ⟨rfl, ?_⟩⟩, fun z => ⟨by omega, by omega, fun σ2 e2 => ⟨rfl, ?_⟩⟩⟩⟩, fun c => absurd c (by omega)⟩, fun c => absurd c (by omega)⟩, fun c => absurd c (by omega)⟩, fun c => absurd c (by omega)⟩, fun c => absurd c (by omega)⟩⟩, fun c => absurd c (by omega)⟩, fun c => absurd c (by omega)⟩)
    · rw [e2]
      by_cases z2 : 0 < z_nu (τ 20 h) - z_nu (τ 20 (h + 1))
      · rw [if_pos z2] at hq; exact hq
      · rw [if_neg z2] at hq
        rw [show z_nu (τ 20 h) - z_nu (τ 20 (h + 1)) = 0 by omega]; exact hq
    · rw [if_neg (by omega)] at hq
      rw [e2]; exact hq
  · refine r_b0 h26 hm h5 hv (by omega) h31 hh (fun d Q hq => qw_m53_37 (d := d + 26) ⟨fun _ => ⟨fun _ => ⟨fun c => absurd c (by omega), fun _ => ⟨fun _ => ⟨fun _ => ⟨fun _ => ⟨fun _ => ⟨fun c => absurd e c, fun _ => ⟨fun z => ⟨by omega, by omega, fun σ2 e2 => ⟨rfl, ?_⟩⟩, fun z => ⟨by omega, by omega, fun σ2 e2 => ⟨rfl, ?_⟩⟩⟩⟩, fun c => absurd c (by omega)⟩, fun c => absurd c (by omega)⟩, fun c => absurd c (by omega)⟩, fun c => absurd c (by omega)⟩⟩, fun c => absurd c (by omega)⟩, fun c => absurd c (by omega)⟩)
    · rw [if_neg (by omega)] at hq
      rw [e2]; exact hq
    · rw [if_pos z] at hq
      rw [e2]; exact hq
/-- the program's sum, difference, less -/
theorem c_p2 {σ : mj_S} {a h : Nat} {s x y : Int} {d : Nat} {Q : mj_Q} (ha : σ 7 10 = a) (ha2 : a < 2400) (hs : s = 18 ∨ s = 19) (h7 : σ 7 7 = (h : Int) + 2) (hh : h + 1 < 100) (ra : 0 ≤ z_nu (σ 29 h) ∧ z_nu (σ 29 h) ≤ 268435455) (rb : 0 ≤ z_nu (σ 29 (h + 1)) ∧ z_nu (σ 29 (h + 1)) ≤ 268435455)
    (hok : ∀ σ', (∀ q k, ¬ ((q = 29 ∧ k = h) ∨ (q = 7 ∧ (k = 7 ∨ k = 10 ∨ k = 13))) → σ' q k = σ q k) → σ' 7 10 = ((a + 1 : Nat) : Int) → σ' 29 h = (if s = 18 then (if 0 < z_nu (σ 29 h) - z_nu (σ 29 (h + 1)) then z_nu (σ 29 h) - z_nu (σ 29 (h + 1)) else 0) else z_tr (if z_nu (σ 29 h) < z_nu (σ 29 (h + 1)) then 1 else 0)) → σ' 7 7 = (h : Int) + 1 → σ' 7 13 = (if σ 7 13 < (h : Int) + 1 then (h : Int) + 1 else σ 7 13) → Q (some (.inl 0)) σ') : mj_B mjc_L mjc_Ms (d + 30) 91 [.inr (.inl 7), .inl (268435456 + s), .inl x, .inl y] σ Q := by
  refine c_def ha ha2 (by omega) (fun σ1 o1 a1 => ?_)
  have g7 : σ1 7 7 = (h : Int) + 2 := by rw [o1 7 7 (by omega)]; exact h7
  have eb : z_bl σ1 0 = σ 29 (h + 1) := by
    have := t_bl (σ := σ1) (h := h + 1) (k := 0) (by rw [g7]; omega) hh
    rw [← o1 29 _ (by omega)]; exact this
  have eb1 : z_bl σ1 1 = σ 29 h := by
    have := t_bl (σ := σ1) (h := h) (k := 1) (by rw [g7]; omega) (by omega)
    rw [← o1 29 h (by omega)]; exact this
  have fin : ∀ X, X = (if s = 18 then (if 0 < z_nu (σ 29 h) - z_nu (σ 29 (h + 1)) then z_nu (σ 29 h) - z_nu (σ 29 (h + 1)) else 0) else z_tr (if z_nu (σ 29 h) < z_nu (σ 29 (h + 1)) then 1 else 0)) → mj_B mjc_L mjc_Ms (d + 28) 96 [.inr (.inl 7), .inl 2, .inl X] σ1 (fun r σ1 => ∃ v2, r = some (.inl v2) ∧ ∃ v, some (.inl v2 : mj_V) = some (.inl v) ∧ Q (some (.inl v)) σ1) := fun X hX => by
    refine t_c96 (d := d + 26) (h := h) (t := 2) (by rw [g7]; omega) (by omega) (by omega) (fun σ' f1 f2 f3 f4 => ⟨0, rfl, 0, rfl, ?_⟩)
    exact hok σ' (fun q k c => by rw [f1 q k (by omega)]; exact o1 q k (by omega)) (by rw [f1 7 10 (by omega)]; exact a1) (by rw [f2, hX]) f3 (by rw [f4, o1 7 13 (by omega)])
  refine wq_c102 (d := d + 26) ⟨by unfold mj_r; omega, by unfold mj_r; omega, fun z => absurd z (by omega), fun z => absurd z (by omega), fun z => absurd z (by omega), fun z => absurd z (by omega), fun z => absurd z (by omega), fun z => absurd z (by omega), fun z => absurd z (by omega), fun z => ⟨by unfold mj_r; omega, by unfold mj_r; omega, by rw [eb, eb1]; unfold mj_r; omega, fin _ ?_⟩, fun z => ⟨by unfold mj_r; omega, by unfold mj_r; omega, fun c => fin _ ?_, fun c => fin _ ?_⟩, fun z => absurd (by omega) z⟩
  · rw [eb, eb1, if_pos (show s = 18 by omega)]
  · rw [eb, eb1] at c
    rw [if_neg (show ¬ s = 18 by omega), if_neg (by omega)]
  · rw [eb, eb1] at c
    rw [if_neg (show ¬ s = 18 by omega), if_pos c]
theorem c_plus {σ : mj_S} {a h : Nat} {x y : Int} {d : Nat} {Q : mj_Q} (ha : σ 7 10 = a) (ha2 : a < 2400) (h7 : σ 7 7 = (h : Int) + 2) (hh : h + 1 < 100) (ra : 0 ≤ z_nu (σ 29 h) ∧ z_nu (σ 29 h) ≤ 268435455) (rb : 0 ≤ z_nu (σ 29 (h + 1)) ∧ z_nu (σ 29 (h + 1)) ≤ 268435455)
    (hok : z_nu (σ 29 h) + z_nu (σ 29 (h + 1)) ≤ 268435455 → ∀ σ', (∀ q k, ¬ ((q = 29 ∧ k = h) ∨ (q = 7 ∧ (k = 7 ∨ k = 10 ∨ k = 13))) → σ' q k = σ q k) → σ' 7 10 = ((a + 1 : Nat) : Int) → σ' 29 h = z_nu (σ 29 h) + z_nu (σ 29 (h + 1)) → σ' 7 7 = (h : Int) + 1 → σ' 7 13 = (if σ 7 13 < (h : Int) + 1 then (h : Int) + 1 else σ 7 13) → Q (some (.inl 0)) σ') (hbad : 268435455 < z_nu (σ 29 h) + z_nu (σ 29 (h + 1)) → ∀ σ', (∀ q k, ¬ (q = 7 ∧ k = 10) → σ' q k = σ q k) → Q (some (.inl 7)) σ') : mj_B mjc_L mjc_Ms (d + 30) 91 [.inr (.inl 7), .inl 268435473, .inl x, .inl y] σ Q := by
  refine wq_c91 (d := d + 28) ⟨by unfold mj_r; omega, fun σ1 e1 => ⟨fun z => absurd z (by decide), fun z => absurd z (by decide), fun z => absurd z (by decide), fun z => absurd z (by decide), fun z => absurd z (by decide), fun z => absurd z (by decide), fun z => absurd z (by decide), fun z => absurd z (by decide), fun z => absurd z (by decide), fun z => absurd z (by decide), fun z => absurd z (by decide), fun z => absurd z (by decide), fun z => absurd z (by decide), fun _ => ?_, fun z => absurd rfl (z.2.2.2.2.2.2.2.2.2.2.2.2.2)⟩⟩
  rw [ha, show (a : Int) + 1 = ((a + 1 : Nat) : Int) by omega] at e1
  have o1 : ∀ q k, ¬ (q = 7 ∧ k = 10) → σ1 q k = σ q k := fun q k z => by rw [e1, mj_up_ne z]
  have a1 : σ1 7 10 = ((a + 1 : Nat) : Int) := by rw [e1, mj_up_eq]
  have g7 : σ1 7 7 = (h : Int) + 2 := by rw [o1 7 7 (by omega)]; exact h7
  have eb : z_bl σ1 0 = σ 29 (h + 1) := by
    have := t_bl (σ := σ1) (h := h + 1) (k := 0) (by rw [g7]; omega) hh
    rw [← o1 29 _ (by omega)]; exact this
  have eb1 : z_bl σ1 1 = σ 29 h := by
    have := t_bl (σ := σ1) (h := h) (k := 1) (by rw [g7]; omega) (by omega)
    rw [← o1 29 h (by omega)]; exact this
  refine wq_c105 (d := d + 26) ⟨by unfold mj_r; omega, by unfold mj_r; omega, by unfold mj_r; omega, by unfold mj_r; omega, by rw [eb, eb1]; unfold mj_r; omega, fun z => ?_, fun z => ⟨7, rfl, ?_⟩⟩
  · rw [eb, eb1] at z
    rw [eb, eb1]
    refine t_c96 (d := d + 26) (h := h) (t := 2) (by rw [g7]; omega) (by omega) (by omega) (fun σ' f1 f2 f3 f4 => ⟨0, rfl, 0, rfl, ?_⟩)
    exact hok z σ' (fun q k c => by rw [f1 q k (by omega)]; exact o1 q k (by omega)) (by rw [f1 7 10 (by omega)]; exact a1) f2 f3 (by rw [f4, o1 7 13 (by omega)])
  · rw [eb, eb1] at z
    exact hbad z σ1 o1
