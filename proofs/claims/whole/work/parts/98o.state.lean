/-! values and stacks of both machines; one pair made -/
abbrev z_xc (q k : Nat) : Prop := q = 7 ∨ (q = 2 ∧ (k = 9 ∨ k = 10 ∨ k = 11)) ∨ ((q = 11 ∨ q = 12) ∧ 400 ≤ k) ∨ (13 ≤ q ∧ q ≤ 17) ∨ (29 ≤ q ∧ q ≤ 32)
abbrev z_xm (q k : Nat) : Prop := (q = 0 ∧ (k = 5 ∨ k = 12 ∨ k = 13 ∨ k = 26 ∨ k = 31 ∨ k = 33 ∨ k = 36 ∨ k = 37 ∨ k = 38 ∨ k = 41 ∨ k = 42)) ∨ ((q = 4 ∨ q = 5) ∧ 400 ≤ k) ∨ (6 ≤ q ∧ q ≤ 8) ∨ (16 ≤ q ∧ q ≤ 23)
def z_XW (A B : Nat → Int) (st : Nat) (σ0 τ0 : mj_S) (n : Nat) (σ τ : mj_S) (h S fuel : Nat) (be : Nat → Nat) (G : Nat → Bool) : Prop :=
  (∀ q k, ¬ z_xc q k → σ q k = σ0 q k) ∧ (∀ q k, ¬ z_xm q k → τ q k = τ0 q k) ∧ z_H A B st σ τ be G ∧ (σ0 2 10 ≤ σ 2 10 ∧ σ 2 10 ≤ σ0 2 10 + (n : Int)) ∧ (∀ i, i < h → z_pv A B st be G (σ 29 i) (τ 20 i)) ∧
  (h ≤ 100 ∧ σ 7 7 = h ∧ τ 0 31 = h) ∧ (σ 7 13 = τ 0 42 ∧ (h : Int) ≤ σ 7 13 ∧ σ 7 13 ≤ 100) ∧ (S ≤ fuel ∧ fuel ≤ 20000 ∧ σ 7 11 = fuel ∧ τ 0 40 = fuel ∧ σ 7 12 = S ∧ τ 0 41 = S) ∧ τ 0 5 = 0
def z_XE (A B : Nat → Int) (st : Nat) (σ0 τ0 : mj_S) (n : Nat) (σ τ : mj_S) (S fuel : Nat) (e : Int) : Prop :=
  (∀ q k, ¬ z_xc q k → σ q k = σ0 q k) ∧ (∀ q k, ¬ z_xm q k → τ q k = τ0 q k) ∧ (∃ be G, z_H A B st σ τ be G) ∧ (σ0 2 10 ≤ σ 2 10 ∧ σ 2 10 ≤ σ0 2 10 + (n : Int)) ∧
  (σ 7 13 = τ 0 42 ∧ 0 ≤ σ 7 13 ∧ σ 7 13 ≤ 100) ∧ (S ≤ fuel ∧ σ 7 12 = S ∧ τ 0 41 = S) ∧ τ 0 5 = e ∧ 1 ≤ e ∧ e ≤ 11
theorem xw_mk {A B : Nat → Int} {st : Nat} {σ0 τ0 : mj_S} {n : Nat} {σ τ : mj_S} {h S fuel : Nat} {be : Nat → Nat} {G : Nat → Bool} (W : z_XW A B st σ0 τ0 n σ τ h S fuel be G) {σ' τ' : mj_S} {n' h' S' : Nat} (hn : n ≤ n')
    (hσ : ∀ q k, ¬ (q = 7 ∨ (16 ≤ q ∧ q ≤ 17) ∨ (q = 2 ∧ k = 11) ∨ (29 ≤ q ∧ q ≤ 32)) → σ' q k = σ q k) (hτ : ∀ q k, ¬ ((q = 0 ∧ (k = 26 ∨ k = 31 ∨ k = 33 ∨ k = 36 ∨ k = 37 ∨ k = 38 ∨ k = 41 ∨ k = 42)) ∨ q = 8 ∨ (16 ≤ q ∧ q ≤ 23)) → τ' q k = τ q k)
    (hst : ∀ i, i < h' → z_pv A B st be G (σ' 29 i) (τ' 20 i)) (h7 : h' ≤ 100 ∧ σ' 7 7 = h' ∧ τ' 0 31 = h') (hmo : σ' 7 13 = τ' 0 42 ∧ (h' : Int) ≤ σ' 7 13 ∧ σ' 7 13 ≤ 100) (hS : S' ≤ fuel ∧ σ' 7 11 = fuel ∧ σ' 7 12 = S' ∧ τ' 0 41 = S') : z_XW A B st σ0 τ0 n' σ' τ' h' S' fuel be G := by
  obtain ⟨w1, w2, w3, w4, w5, w6, w7, w8, w9⟩ := W
  refine ⟨fun q k z => by rw [hσ q k (by omega)]; exact w1 q k z, fun q k z => by rw [hτ q k (by omega)]; exact w2 q k z, z_H_fr (fun q k z => hσ q k (by omega)) (fun q k z => hτ q k (by omega)) w3, by rw [hσ 2 10 (by omega)]; omega, hst, h7, hmo, ⟨hS.1, w8.2.1, hS.2.1, by rw [hτ 0 40 (by omega)]; exact w8.2.2.2.1, hS.2.2⟩, by rw [hτ 0 5 (by omega)]; exact w9⟩
theorem xe_mk {A B : Nat → Int} {st : Nat} {σ0 τ0 : mj_S} {n : Nat} {σ τ : mj_S} {h S fuel : Nat} {be : Nat → Nat} {G : Nat → Bool} (W : z_XW A B st σ0 τ0 n σ τ h S fuel be G) {σ' τ' : mj_S} {n' S' : Nat} {e : Int} (hn : n ≤ n')
    (hσ : ∀ q k, ¬ (q = 7 ∨ (16 ≤ q ∧ q ≤ 17) ∨ (q = 2 ∧ k = 11) ∨ (29 ≤ q ∧ q ≤ 32)) → σ' q k = σ q k) (hτ : ∀ q k, ¬ ((q = 0 ∧ (k = 5 ∨ k = 26 ∨ k = 31 ∨ k = 33 ∨ k = 36 ∨ k = 37 ∨ k = 38 ∨ k = 41 ∨ k = 42)) ∨ q = 8 ∨ (16 ≤ q ∧ q ≤ 23)) → τ' q k = τ q k)
    (hmo : σ' 7 13 = τ' 0 42 ∧ 0 ≤ σ' 7 13 ∧ σ' 7 13 ≤ 100) (hS : S' ≤ fuel ∧ σ' 7 12 = S' ∧ τ' 0 41 = S') (he : τ' 0 5 = e) (he1 : 1 ≤ e) (he2 : e ≤ 11) : z_XE A B st σ0 τ0 n' σ' τ' S' fuel e := by
  obtain ⟨w1, w2, w3, w4, w5, w6, w7, w8, w9⟩ := W
  exact ⟨fun q k z => by rw [hσ q k (by omega)]; exact w1 q k z, fun q k z => by rw [hτ q k (by omega)]; exact w2 q k z, ⟨be, G, z_H_fr (fun q k z => hσ q k (by omega)) (fun q k z => hτ q k (by omega)) w3⟩, by rw [hσ 2 10 (by omega)]; omega, hmo, hS, he, he1, he2⟩
/-- a place that is not empty holds a value -/
theorem z_pv_v {A B : Nat → Int} {st : Nat} {be : Nat → Nat} {G : Nat → Bool} {x y : Int} (h : z_pv A B st be G x y) (hy : 0 ≤ y) : z_vl A B st be G x y := by
  rcases h with ⟨_, e⟩ | h
  · omega
  · exact h
theorem z_pv_r {A B : Nat → Int} {st : Nat} {be : Nat → Nat} {G : Nat → Bool} {x y : Int} (hb : ∀ j, G j = true → be j < 200) (h : z_pv A B st be G x y) : 0 ≤ x ∧ x < 536871512 ∧ -1 ≤ y ∧ y < 536871512 := by
  rcases h with ⟨e1, e2⟩ | h
  · omega
  · have := z_vl_r hb h; omega
theorem z_vl_nil {A B : Nat → Int} {st : Nat} {be : Nat → Nat} {G : Nat → Bool} {x y : Int} (hb : ∀ j, G j = true → be j < 200) (h : z_vl A B st be G x y) (c : Int) (hc : c < 536870912) : x = c ↔ y = c := by
  have := z_vl_r hb h
  omega
/-- a datum on the program's stack -/
theorem t_c93 {σ : mj_S} {h : Nat} {x : Int} (h7 : σ 7 7 = h) (hh : h < 100) {d : Nat} {Q : mj_Q} (hq : ∀ σ', (∀ q k, ¬ ((q = 29 ∧ k = h) ∨ (q = 7 ∧ (k = 7 ∨ k = 13))) → σ' q k = σ q k) → σ' 29 h = x → σ' 7 7 = (h : Int) + 1 → σ' 7 13 = (if σ 7 13 < (h : Int) + 1 then (h : Int) + 1 else σ 7 13) → Q (some (.inl 0)) σ') : mj_B mjc_L mjc_Ms (d + 1) 93 [.inr (.inl 7), .inl x] σ Q := by
  refine wq_c93 ⟨fun z => absurd z (by omega), fun _ => ⟨fun _ => ⟨by omega, by omega, fun σ1 e1 => ?_⟩, fun z => absurd z (by omega)⟩⟩
  rw [h7, Int.toNat_natCast] at e1
  have a7 : σ1 7 7 = h := by rw [e1, mj_up_ne (by omega), h7]
  refine ⟨by unfold mj_r; omega, fun σ2 e2 => ?_⟩
  rw [a7] at e2
  have b7 : σ2 7 7 = (h : Int) + 1 := by rw [e2, mj_up_eq]
  have b13 : σ2 7 13 = σ 7 13 := by rw [e2, mj_up_ne (by omega), e1, mj_up_ne (by omega)]
  have b29 : σ2 29 h = x := by rw [e2, mj_up_ne (by omega), e1, mj_up_eq]
  have bo : ∀ q k, ¬ ((q = 29 ∧ k = h) ∨ (q = 7 ∧ (k = 7 ∨ k = 13))) → σ2 q k = σ q k := fun q k z => by rw [e2, mj_up_ne (by omega), e1, mj_up_ne (by omega)]
  refine ⟨fun z => hq σ2 bo b29 b7 (by rw [if_neg (by omega), b13]), fun z σ3 e3 => ?_⟩
  refine hq σ3 (fun q k z' => by rw [e3, mj_up_ne (by omega)]; exact bo q k z') (by rw [e3, mj_up_ne (by omega)]; exact b29) (by rw [e3, mj_up_ne (by omega)]; exact b7) ?_
  rw [if_pos (by omega), e3, mj_up_eq, b7]
theorem t_c93d {σ : mj_S} {h : Nat} {x : Int} (h7 : σ 7 7 = h) (hh : h = 100) {d : Nat} {Q : mj_Q} (hq : Q (some (.inl 9)) σ) : mj_B mjc_L mjc_Ms (d + 1) 93 [.inr (.inl 7), .inl x] σ Q :=
  wq_c93 ⟨fun z => absurd z (by omega), fun _ => ⟨fun z => absurd z (by omega), fun _ => hq⟩⟩
/-- t data of the program's stack replaced by one -/
theorem t_c96 {σ : mj_S} {h t : Nat} {x : Int} (h7 : σ 7 7 = ((h + t : Nat) : Int)) (hh : h < 100) (ht : t ≤ 200) {d : Nat} {Q : mj_Q} (hq : ∀ σ', (∀ q k, ¬ ((q = 29 ∧ k = h) ∨ (q = 7 ∧ (k = 7 ∨ k = 13))) → σ' q k = σ q k) → σ' 29 h = x → σ' 7 7 = (h : Int) + 1 → σ' 7 13 = (if σ 7 13 < (h : Int) + 1 then (h : Int) + 1 else σ 7 13) → Q (some (.inl 0)) σ') : mj_B mjc_L mjc_Ms (d + 2) 96 [.inr (.inl 7), .inl (t : Int), .inl x] σ Q := by
  refine wq_c96 (d := d + 1) ⟨by unfold mj_r; omega, fun σ1 e1 => ?_⟩
  have a7 : σ1 7 7 = h := by
    rw [e1, mj_up_eq]
    split <;> omega
  refine t_c93 a7 hh (fun σ' f1 f2 f3 f4 => ⟨0, rfl, hq σ' (fun q k z => by rw [f1 q k z, e1, mj_up_ne (by omega)]) f2 f3 ?_⟩)
  rw [f4, e1, mj_up_ne (by omega)]
theorem t_bl {σ : mj_S} {h : Nat} {k : Nat} (h7 : σ 7 7 = ((h + k + 1 : Nat) : Int)) (hh : h < 100) : z_bl σ (k : Int) = σ 29 h := by
  unfold z_bl
  rw [if_pos (by omega), show (σ 7 7 - 1 - (k : Int)).toNat = h by omega]
/-- the reference's stack one more -/
theorem z_pu_1 {τ : mj_S} {h : Nat} {x : Int} (h7 : τ 0 31 = h) (hh : h < 100) : (∀ q k, ¬ ((q = 20 ∧ k = h) ∨ (q = 0 ∧ (k = 31 ∨ k = 42))) → z_pu τ x q k = τ q k) ∧ z_pu τ x 20 h = x ∧ z_pu τ x 0 31 = (h : Int) + 1 ∧ z_pu τ x 0 42 = (if τ 0 42 < (h : Int) + 1 then (h : Int) + 1 else τ 0 42) := by
  unfold z_pu
  rw [if_neg (by omega), h7, Int.toNat_natCast]
  refine ⟨fun q k z => by rw [mj_up_ne (by omega), mj_up_ne (by omega), mj_up_ne (by omega)], by rw [mj_up_ne (by omega), mj_up_ne (by omega), mj_up_eq], by rw [mj_up_ne (by omega), mj_up_eq], by rw [mj_up_eq]⟩
theorem z_pu_d {τ : mj_S} {x : Int} (h7 : τ 0 31 = 100) (h5 : τ 0 5 = 0) : z_pu τ x = mj_up τ 0 5 9 := by
  unfold z_pu
  rw [if_pos h7, z_sp0 h5]
