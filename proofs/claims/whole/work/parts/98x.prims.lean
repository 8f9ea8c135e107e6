/-! the functions that are given, in both -/
def z_f1 (A B : Nat → Int) (s v : Int) : Int := if s = 11 then z_cd A v else if s = 12 then z_cd B v else if s = 13 then z_tr (if 536870912 ≤ v then 1 else 0) else if s = 14 then z_tr (if 0 ≤ v ∧ v ≤ 268435455 then 1 else 0) else z_tr (if 268435456 ≤ v ∧ v < 536870912 then 1 else 0)
theorem c_def {σ : mj_S} {a : Nat} {o x y : Int} {d : Nat} {Q : mj_Q} (ha : σ 7 10 = a) (ha2 : a < 2400) (ho : 268435467 ≤ o ∧ o ≤ 268435476 ∧ ¬ o = 268435472 ∧ ¬ o = 268435473) (h : ∀ σ1, (∀ q k, ¬ (q = 7 ∧ k = 10) → σ1 q k = σ q k) → σ1 7 10 = ((a + 1 : Nat) : Int) → mj_B mjc_L mjc_Ms (d + 29) 102 [.inr (.inl 7), .inl o] σ1 (fun r σ2 => ∃ v, r = some (.inl v) ∧ Q (some (.inl v)) σ2)) : mj_B mjc_L mjc_Ms (d + 30) 91 [.inr (.inl 7), .inl o, .inl x, .inl y] σ Q := by
  refine wq_c91 (d := d + 28) ⟨by unfold mj_r; omega, fun σ1 e1 => ⟨fun z => absurd z (by omega), fun z => absurd z (by omega), fun z => absurd z (by omega), fun z => absurd z (by omega), fun z => absurd z (by omega), fun z => absurd z (by omega), fun z => absurd z (by omega), fun z => absurd z (by omega), fun z => absurd z (by omega), fun z => absurd z (by omega), fun z => absurd z (by omega), fun z => absurd z (by omega), fun z => absurd z (by omega), fun z => absurd z (by omega), fun _ => ?_⟩⟩
  rw [ha, show (a : Int) + 1 = ((a + 1 : Nat) : Int) by omega] at e1
  exact h σ1 (fun q k z => by rw [e1, mj_up_ne z]) (by rw [e1, mj_up_eq])
/-- one value taken -/
theorem c_p1 {σ : mj_S} {a h : Nat} {s x y : Int} {d : Nat} {Q : mj_Q} (ha : σ 7 10 = a) (ha2 : a < 2400) (hs : 11 ≤ s ∧ s ≤ 15) (h7 : σ 7 7 = (h : Int) + 1) (hh : h < 100) (hv : 0 ≤ σ 29 h ∧ σ 29 h < 536871512)
    (hok : ∀ σ', (∀ q k, ¬ ((q = 29 ∧ k = h) ∨ (q = 7 ∧ (k = 7 ∨ k = 10 ∨ k = 13))) → σ' q k = σ q k) → σ' 7 10 = ((a + 1 : Nat) : Int) → σ' 29 h = z_f1 (σ 11) (σ 12) s (σ 29 h) → σ' 7 7 = (h : Int) + 1 → σ' 7 13 = (if σ 7 13 < (h : Int) + 1 then (h : Int) + 1 else σ 7 13) → Q (some (.inl 0)) σ') : mj_B mjc_L mjc_Ms (d + 30) 91 [.inr (.inl 7), .inl (268435456 + s), .inl x, .inl y] σ Q := by
  refine c_def ha ha2 (by omega) (fun σ1 o1 a1 => ?_)
  have g7 : σ1 7 7 = (h : Int) + 1 := by rw [o1 7 7 (by omega)]; exact h7
  have eb : z_bl σ1 0 = σ 29 h := by
    have := t_bl (σ := σ1) (h := h) (k := 0) (by rw [g7]; omega) hh
    rw [← o1 29 h (by omega)]; exact this
  have e11 : σ1 11 = σ 11 := by funext k; exact o1 11 k (by omega)
  have e12 : σ1 12 = σ 12 := by funext k; exact o1 12 k (by omega)
  have fin : ∀ X, X = z_f1 (σ 11) (σ 12) s (σ 29 h) → mj_B mjc_L mjc_Ms (d + 28) 96 [.inr (.inl 7), .inl 1, .inl X] σ1 (fun r σ1 => ∃ v2, r = some (.inl v2) ∧ ∃ v, some (.inl v2 : mj_V) = some (.inl v) ∧ Q (some (.inl v)) σ1) := fun X hX => by
    refine t_c96 (d := d + 26) (h := h) (t := 1) (by rw [g7]; omega) hh (by omega) (fun σ' f1 f2 f3 f4 => ⟨0, rfl, 0, rfl, ?_⟩)
    exact hok σ' (fun q k c => by rw [f1 q k (by omega)]; exact o1 q k (by omega)) (by rw [f1 7 10 (by omega)]; exact a1) (by rw [f2, hX]) f3 (by rw [f4, o1 7 13 (by omega)])
  refine wq_c102 (d := d + 26) ⟨by unfold mj_r; omega, by unfold mj_r; omega, fun z => ⟨by rw [eb]; exact ⟨by omega, by omega⟩, fin _ ?_⟩, fun z => ⟨by rw [eb]; exact ⟨by omega, by omega⟩, fin _ ?_⟩, fun z => fin _ ?_, fun z => fin _ ?_, fun z => fin _ ?_, fun z => absurd z (by omega), fun z => absurd z (by omega), fun z => absurd z (by omega), fun z => absurd z (by omega), fun z => absurd (by omega) z⟩
  · rw [eb, e11, show s = 11 by omega]; rfl
  · rw [eb, e12, show s = 12 by omega]; rfl
  · rw [eb, show s = 13 by omega]; rfl
  · rw [eb, show s = 14 by omega]; rfl
  · rw [eb, show s = 15 by omega]; rfl
theorem r_p1 {τ : mj_S} {m h : Nat} {s x t : Int} (h26 : τ 0 26 = (m : Int) + 1) (hm : m < 3000) (h5 : τ 0 5 = 0) (hv : τ 16 m = 13 ∧ τ 17 m = x ∧ τ 18 m = s ∧ τ 19 m = t) (hs : 11 ≤ s ∧ s ≤ 15) (h31 : τ 0 31 = (h : Int) + 1) (hh : h < 100) (hy : 0 ≤ τ 20 h ∧ τ 20 h < 536871512) : z_ge τ (z_pu (mj_up (mj_up τ 0 26 (m : Int)) 0 31 (h : Int)) (z_f1 (τ 4) (τ 5) s (τ 20 h))) := by
  refine r_turn h26 hm h5 (fun d Q hq => ?_)
  rw [hv.1, hv.2.1, hv.2.2.1, hv.2.2.2]
  have c31 : mj_up τ 0 26 (m : Int) 0 31 = (h : Int) + 1 := by rw [mj_up_ne (by omega)]; exact h31
  have c20 : mj_up τ 0 26 (m : Int) 20 h = τ 20 h := mj_up_ne (by omega)
  refine wq_m41 (d := d + 27) ⟨fun z => absurd z (by decide), fun z => absurd z (by decide), fun z => absurd z (by decide), fun z => absurd z (by decide), fun z => absurd z (by decide), fun z => absurd z (by decide), fun z => absurd z (by decide), fun z => absurd z (by decide), fun z => absurd z (by decide), fun z => absurd z (by decide), fun z => absurd z (by decide), fun z => absurd z (by decide), fun _ => ?_, fun z => absurd z (by decide), fun z => absurd ⟨by decide, by decide⟩ z⟩
  refine wq_m53 (d := d + 26) ⟨fun _ => ?_, fun z => absurd z (by omega)⟩
  rw [c31, show (h : Int) + 1 - 1 = h by omega, Int.toNat_natCast, c20]
  refine ⟨by omega, by omega, fun σ1 e1 => ⟨fun _ => ?_, fun z => absurd z (by omega)⟩⟩
  have b31 : σ1 0 31 = h := by rw [e1, mj_up_eq]
  have b4 : σ1 4 = τ 4 := by rw [e1]; funext k; rw [mj_up_ne (by omega), mj_up_ne (by omega)]
  have b5 : σ1 5 = τ 5 := by rw [e1]; funext k; rw [mj_up_ne (by omega), mj_up_ne (by omega)]
  have fin : ∀ Y σ2, Y = z_f1 (τ 4) (τ 5) s (τ 20 h) → σ2 = z_pu σ1 Y → (none : Option mj_V) = none ∧ Q none σ2 := fun Y σ2 eY e2 => by
    rw [e2, eY, e1]
    exact ⟨rfl, hq⟩
  refine qw_m53_37 (d := d + 26) ⟨fun _ => ⟨fun _ => ⟨fun z1 => ⟨fun z => ⟨fun c => absurd z1 c, fun _ => ⟨⟨z, by omega⟩, by omega, by omega, fun σ2 e2 => fin _ σ2 ?_ e2⟩⟩, fun z => ⟨by omega, by omega, fun σ2 e2 => fin _ σ2 ?_ e2⟩⟩, fun z11 => ⟨fun z12 => ⟨fun z13 => ⟨fun z14 => ⟨fun z15 => absurd z15 (by omega), fun z15 => ⟨by omega, by omega, fun σ2 e2 => fin _ σ2 ?_ e2⟩⟩, fun z14 => ⟨fun z => absurd z (by omega), fun _ => ⟨fun z => ⟨by omega, by omega, fun σ2 e2 => fin _ σ2 ?_ e2⟩, fun z => ⟨by omega, by omega, fun σ2 e2 => fin _ σ2 ?_ e2⟩⟩⟩⟩, fun z13 => ⟨by omega, by omega, fun σ2 e2 => fin _ σ2 ?_ e2⟩⟩, fun z12 => ⟨fun z => ⟨fun _ => ⟨⟨z, by omega⟩, by omega, by omega, fun σ2 e2 => fin _ σ2 ?_ e2⟩, fun c => absurd c z11⟩, fun z => ⟨by omega, by omega, fun σ2 e2 => fin _ σ2 ?_ e2⟩⟩⟩⟩, fun z => absurd z (by omega)⟩, fun z => absurd z (by omega)⟩
  · rw [b4, show s = 11 by omega]; rfl
  · rw [show s = 11 by omega]; exact (z_cd_n (by omega)).symm
  · rw [show s = 15 by omega]; rfl
  · rw [show s = 14 by omega]
    show z_tr 0 = z_tr (if 0 ≤ τ 20 h ∧ τ 20 h ≤ 268435455 then 1 else 0)
    rw [if_neg (by omega)]
  · rw [show s = 14 by omega]
    show z_tr 1 = z_tr (if 0 ≤ τ 20 h ∧ τ 20 h ≤ 268435455 then 1 else 0)
    rw [if_pos (by omega)]
  · rw [show s = 13 by omega]; rfl
  · rw [b5, show s = 12 by omega]; rfl
  · rw [show s = 12 by omega]; exact (z_cd_n (by omega)).symm
theorem z_tr_dt {A B : Nat → Int} {st : Nat} (b : Int) : z_dt A B st (z_tr b) := by
  unfold z_tr
  split
  · exact z_dt_atom (by decide) (by decide)
  · exact z_dt_atom (by decide) (by decide)
theorem z_f1_vl {A B : Nat → Int} {st : Nat} {σ τ : mj_S} {be : Nat → Nat} {G : Nat → Bool} (H : z_H A B st σ τ be G) {x y : Int} (h : z_vl A B st be G x y) (s : Int) : z_vl A B st be G (z_f1 (σ 11) (σ 12) s x) (z_f1 (τ 4) (τ 5) s y) := by
  have hb := z_H_b H
  have r := z_vl_r hb h
  obtain ⟨hs, sz, fo, ga, U, tm, ck, HP, hGU, hg, hck⟩ := H
  have nil : z_vl A B st be G 268435456 268435456 := z_dt_vl (z_dt_atom (by decide) (by decide))
  have tr : ∀ b, z_vl A B st be G (z_tr b) (z_tr b) := fun b => z_dt_vl (z_tr_dt b)
  unfold z_f1
  by_cases c1 : s = 11
  · rw [if_pos c1, if_pos c1]
    by_cases hx : 536870912 ≤ x
    · exact (z_vl_p hb hs hg h hx).1
    · rw [z_cd_n (by omega), z_cd_n (by omega)]; exact nil
  rw [if_neg c1, if_neg c1]
  by_cases c2 : s = 12
  · rw [if_pos c2, if_pos c2]
    by_cases hx : 536870912 ≤ x
    · exact (z_vl_p hb hs hg h hx).2.1
    · rw [z_cd_n (by omega), z_cd_n (by omega)]; exact nil
  rw [if_neg c2, if_neg c2]
  by_cases c3 : s = 13
  · rw [if_pos c3, if_pos c3]
    by_cases hx : 536870912 ≤ x
    · rw [if_pos hx, if_pos (by omega)]; exact tr _
    · rw [if_neg hx, if_neg (by omega)]; exact tr _
  rw [if_neg c3, if_neg c3]
  by_cases c4 : s = 14
  · rw [if_pos c4, if_pos c4]
    by_cases hx : 0 ≤ x ∧ x ≤ 268435455
    · rw [if_pos hx, if_pos (by omega)]; exact tr _
    · rw [if_neg hx, if_neg (by omega)]; exact tr _
  rw [if_neg c4, if_neg c4]
  by_cases hx : 268435456 ≤ x ∧ x < 536870912
  · rw [if_pos hx, if_pos (by omega)]; exact tr _
  · rw [if_neg hx, if_neg (by omega)]; exact tr _
