/-! what both machines have in common while code is carried out -/
def z_SP (σ τ : mj_S) (fn : Bool) (E : List (Int × Int)) (fb : Nat) (hole : Int) (bg fr : Nat) : Prop :=
  σ 7 8 = fb ∧ σ 7 9 = hole ∧ τ 0 36 = bg ∧ (fn = true → τ 0 37 = fb) ∧ τ 0 38 = fr ∧ ∃ v : Nat, τ 0 33 = v ∧ z_ev (τ 21) (τ 22) fb bg E v
theorem z_SP_fr {σ τ σ' τ' : mj_S} {fn : Bool} {E : List (Int × Int)} {fb : Nat} {hole : Int} {bg fr : Nat} (hσ : ∀ k, k = 8 ∨ k = 9 → σ' 7 k = σ 7 k) (hτ : ∀ q k, (q = 0 ∧ (k = 33 ∨ k = 36 ∨ k = 37 ∨ k = 38)) ∨ q = 21 ∨ q = 22 → τ' q k = τ q k) (h : z_SP σ τ fn E fb hole bg fr) : z_SP σ' τ' fn E fb hole bg fr := by
  obtain ⟨h1, h2, h3, h4, h5, v, h6, h7⟩ := h
  exact ⟨by rw [hσ 8 (by omega)]; exact h1, by rw [hσ 9 (by omega)]; exact h2, by rw [hτ 0 36 (by omega)]; exact h3, fun z => by rw [hτ 0 37 (by omega)]; exact h4 z, by rw [hτ 0 38 (by omega)]; exact h5, v, by rw [hτ 0 33 (by omega)]; exact h6, z_ev_frame (fun i _ => ⟨hτ 21 i (by omega), hτ 22 i (by omega)⟩) h7⟩
def z_ne (τ : mj_S) (fb pl : Nat) (hole : Int) : Prop := ∀ i : Nat, fb ≤ i → i < fb + pl → (i : Int) ≠ hole → 0 ≤ τ 20 i
def z_CF (A B : Nat → Int) (st : Nat) (K : z_K) (σ0 τ0 : mj_S) (S0 fuel n : Nat) (σ τ : mj_S) (m : Nat) (fn : Bool) (a : Nat) (E : List (Int × Int)) (pl fb : Nat) (hole : Int) (bg fr q u S : Nat) (be : Nat → Nat) (G : Nat → Bool) : Prop :=
  z_XW A B st σ0 τ0 n σ τ (fb + pl) S fuel be G ∧ z_jc A B st K σ τ m fn a E pl fb hole bg fr q u ∧ σ 7 10 = a ∧ τ 0 26 = m ∧ z_SP σ τ fn E fb hole bg fr ∧ z_ne τ fb pl hole ∧ n + (fb + pl) + u + 20 * S0 ≤ 20 * S + (if τ 16 (m - 1) = 1 then 10 else 0)
/-- functions: what the program knows by a symbol's number, the reference by its list -/
def z_FN (A B : Nat → Int) (st : Nat) (K : z_K) (σ τ : mj_S) : Prop := ∃ nf : Nat, nf ≤ 16 ∧ τ 0 22 = nf ∧ σ 6 6 = nf ∧ (∀ f f' : Nat, f < nf → f' < nf → τ 13 f = τ 13 f' → f = f') ∧ (∀ i : Nat, i < 60 → ¬ σ 24 i = 0 → ∃ f : Nat, f < nf ∧ τ 13 f = 268435456 + (i : Int)) ∧
  ∀ f : Nat, f < nf → ∃ (i c : Nat), i < 60 ∧ τ 13 f = 268435456 + (i : Int) ∧ σ 24 i = 1 ∧ σ 26 i = c ∧ c ≤ 5 ∧ σ 25 i = τ 14 f ∧ σ 27 i = τ 15 f ∧ z_isl B (τ 14 f) c ∧ z_dt A B st (τ 14 f) ∧ z_dt A B st (τ 15 f) ∧
    ∃ (s k fin : Nat), σ 28 i = s ∧ k ≤ 12 ∧ z_C A B K k (z_bd (fun j => z_el A B (τ 14 f) j) 0 c []) (τ 15 f) ((c : Int) + 1) true s fin ∧ z_in K fin 11 0 0
def z_CX (A B : Nat → Int) (st : Nat) (K : z_K) (σ0 τ0 : mj_S) (S0 fuel : Nat) (Q : mj_Q) (τs : mj_S) : Prop :=
  st ≤ 400 ∧ z_KK K σ0 ∧ σ0 4 3 ≤ 2400 ∧ 0 ≤ σ0 2 10 ∧ σ0 2 10 ≤ 1900000000 ∧ z_FN A B st K σ0 τ0 ∧
  (∀ (σ' τ' : mj_S) (n' S' : Nat) (be : Nat → Nat) (G : Nat → Bool), z_XW A B st σ0 τ0 n' σ' τ' 1 S' fuel be G → 0 ≤ τ' 20 0 → n' + 20 * S0 ≤ 20 * S' + 10 → τ' 0 26 = 0 → z_ge τs τ' → Q (some (.inl 0)) σ') ∧
  (∀ (e : Int) (σ' τ' : mj_S) (n' S' : Nat), z_XE A B st σ0 τ0 n' σ' τ' S' fuel e → n' + 20 * S0 ≤ 20 * S' + 20 → z_ge τs τ' → Q (some (.inl e)) σ')
def z_IH (A B : Nat → Int) (st : Nat) (K : z_K) (σ0 τ0 : mj_S) (S0 fuel d : Nat) (Q : mj_Q) (y : Int) (τs : mj_S) (n : Nat) : Prop :=
  ∀ n', n < n' → ∀ (σ τ : mj_S) (m : Nat) (fn : Bool) (a : Nat) (E : List (Int × Int)) (pl fb : Nat) (hole : Int) (bg fr q u S : Nat) (be : Nat → Nat) (G : Nat → Bool), z_CF A B st K σ0 τ0 S0 fuel n' σ τ m fn a E pl fb hole bg fr q u S be G → z_ge τs τ → qh_c90_22 (d + 30) Q y (n' : Int) σ
theorem z_CX_K {A B : Nat → Int} {st : Nat} {K : z_K} {σ0 τ0 : mj_S} {S0 fuel : Nat} {Q : mj_Q} {τs : mj_S} (CX : z_CX A B st K σ0 τ0 S0 fuel Q τs) {n : Nat} {σ τ : mj_S} {h S : Nat} {be : Nat → Nat} {G : Nat → Bool} (W : z_XW A B st σ0 τ0 n σ τ h S fuel be G) : z_KK K σ ∧ σ 4 3 ≤ 2400 := by
  obtain ⟨c1, c2, c3, _⟩ := CX
  have w := W.1
  refine ⟨fun i => ?_, by rw [w 4 3 (by omega)]; exact c3⟩
  have := c2 i
  unfold z_op at *
  rw [w 4 3 (by omega), w 19 _ (by omega), w 20 _ (by omega), w 21 _ (by omega)]
  exact this
theorem z_XW_sb {A B : Nat → Int} {st : Nat} {σ0 τ0 : mj_S} {n : Nat} {σ τ : mj_S} {h S fuel : Nat} {be : Nat → Nat} {G : Nat → Bool} (W : z_XW A B st σ0 τ0 n σ τ h S fuel be G) : z_sb A B (τ 4) (τ 5) st := fun i h1 h2 => by
  have := W.2.2.1.1 i h1 h2
  exact ⟨this.2.2.1, this.2.2.2⟩
/-- the simple case: names, frames and what lies below stay -/
theorem cf_mk {A B : Nat → Int} {st : Nat} {K : z_K} {σ0 τ0 : mj_S} {S0 fuel n' : Nat} {σ τ σ' τ' : mj_S} {m' : Nat} {fn : Bool} {a' : Nat} {E : List (Int × Int)} {pl' fb : Nat} {hole : Int} {bg fr q u' S' : Nat} {be' : Nat → Nat} {G' : Nat → Bool} (W' : z_XW A B st σ0 τ0 n' σ' τ' (fb + pl') S' fuel be' G') (ch : z_jc A B st K σ' τ' m' fn a' E pl' fb hole bg fr q u') (h10 : σ' 7 10 = a') (h26 : τ' 0 26 = m') (SP : z_SP σ τ fn E fb hole bg fr) (hσ : ∀ k, k = 8 ∨ k = 9 → σ' 7 k = σ 7 k) (hτ : ∀ q k, (q = 0 ∧ (k = 33 ∨ k = 36 ∨ k = 37 ∨ k = 38)) ∨ q = 21 ∨ q = 22 → τ' q k = τ q k) (hne : z_ne τ' fb pl' hole) (hb : n' + (fb + pl') + u' + 20 * S0 ≤ 20 * S' + (if τ' 16 (m' - 1) = 1 then 10 else 0)) : z_CF A B st K σ0 τ0 S0 fuel n' σ' τ' m' fn a' E pl' fb hole bg fr q u' S' be' G' :=
  ⟨W', ch, h10, h26, z_SP_fr hσ hτ SP, hne, hb⟩
/-- frames for what lies below -/
theorem z_jc_fr {A B : Nat → Int} {st : Nat} {K : z_K} {σ τ σ' τ' : mj_S} {m : Nat} {fn : Bool} {a : Nat} {E : List (Int × Int)} {pl fb : Nat} {hole : Int} {bg fr q u : Nat} (hσ : ∀ q k, 30 ≤ q ∧ q ≤ 32 → σ' q k = σ q k) (hτ : ∀ q k, (21 ≤ q ∧ q ≤ 23) ∨ (16 ≤ q ∧ q ≤ 19 ∧ k < m) ∨ (q = 20 ∧ k < fb) → τ' q k = τ q k) (h : z_jc A B st K σ τ m fn a E pl fb hole bg fr q u) : z_jc A B st K σ' τ' m fn a E pl fb hole bg fr q u :=
  z_jc_frame (fun i hi => ⟨hτ 16 i (by omega), hτ 17 i (by omega), hτ 18 i (by omega), hτ 19 i (by omega)⟩) (fun i _ => ⟨hτ 21 i (by omega), hτ 22 i (by omega)⟩) (fun i _ => hτ 23 i (by omega)) (fun i hi => hτ 20 i (by omega)) (fun i _ => ⟨hσ 30 i (by omega), hσ 31 i (by omega), hσ 32 i (by omega)⟩) h
/-- one thing on top -/
theorem z_jc_push {A B : Nat → Int} {st : Nat} {K : z_K} {σ τ : mj_S} {m : Nat} {fn : Bool} {a b : Nat} {E E' : List (Int × Int)} {pl pl' fb : Nat} {hole : Int} {bg fr q u : Nat} {w x n t : Int} (h16 : τ 16 m = w) (h17 : τ 17 m = x) (h18 : τ 18 m = n) (h19 : τ 19 m = t) (hw : ¬ w = 15) (it : z_jt A B st K (hole - fb) m q fn w x n t E pl a E' pl' b) (h : z_jc A B st K σ τ m fn b E' pl' fb hole bg fr q u) : z_jc A B st K σ τ (m + 1) fn a E pl fb hole bg fr q (u + 3) :=
  ⟨0, a, u, rfl, rfl, Or.inr ⟨by rw [h16]; exact hw, E', pl', b, by rw [h16, h17, h18, h19]; exact it, h⟩⟩
/-- a jump of the program alone -/
theorem x_jump {A B : Nat → Int} {st : Nat} {K : z_K} {σ0 τ0 : mj_S} {S0 fuel d : Nat} {Q : mj_Q} {y : Int} {τs : mj_S} {n : Nat} (CX : z_CX A B st K σ0 τ0 S0 fuel Q τs) (IH : z_IH A B st K σ0 τ0 S0 fuel d Q y τs n) (hn : n < 1000000) {σ τ : mj_S} {m : Nat} {fn : Bool} {a c : Nat} {E : List (Int × Int)} {pl fb : Nat} {hole : Int} {bg fr q u S : Nat} {be : Nat → Nat} {G : Nat → Bool}
    (W : z_XW A B st σ0 τ0 n σ τ (fb + pl) S fuel be G) (hj : z_in K a 4 (c : Int) 0) (ch : z_jc A B st K σ τ m fn c E pl fb hole bg fr q u) (h10 : σ 7 10 = a) (h26 : τ 0 26 = m) (SP : z_SP σ τ fn E fb hole bg fr) (hne : z_ne τ fb pl hole) (hb : n + (fb + pl) + (u + 1) + 20 * S0 ≤ 20 * S + (if τ 16 (m - 1) = 1 then 10 else 0)) (gs : z_ge τs τ) : qh_c90_22 (d + 30) Q y (n : Int) σ := by
  obtain ⟨hK, hK4⟩ := z_CX_K CX W
  refine c_turn hn hK hK4 h10 hj (by decide) (fun ha => c_o4 h10 ha (fun σ' f1 f2 => ⟨0, rfl, fun _ => ?_, fun z => absurd rfl z⟩))
  have W' : z_XW A B st σ0 τ0 (n + 1) σ' τ (fb + pl) S fuel be G := by
    have W0 := W
    obtain ⟨w1, w2, w3, w4, w5, w6, w7, w8, w9⟩ := W
    exact xw_mk W0 (by omega) (fun q k z => f1 q k (by omega)) (fun q k _ => rfl) (fun i hi => by rw [f1 29 i (by omega)]; exact w5 i hi) ⟨w6.1, by rw [f1 7 7 (by omega)]; exact w6.2.1, w6.2.2⟩ (by rw [f1 7 13 (by omega)]; exact w7) ⟨w8.1, by rw [f1 7 11 (by omega)]; exact w8.2.2.1, by rw [f1 7 12 (by omega)]; exact w8.2.2.2.2.1, w8.2.2.2.2.2⟩
  exact IH (n + 1) (by omega) σ' τ m fn c E pl fb hole bg fr q u S be G (cf_mk W' (z_jc_fr (fun q k z => f1 q k (by omega)) (fun _ _ _ => rfl) ch) f2 h26 SP (fun k hk => f1 7 k (by omega)) (fun _ _ _ => rfl) hne (by omega)) gs
