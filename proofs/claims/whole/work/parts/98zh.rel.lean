/-! between two forms: what is alike in both -/
def z_zA (σ : mj_S) : Nat → Int := fun i => if i = 1000 then 268435456 + σ 1 2 else σ 11 i
theorem z_zA_i (σ : mj_S) {i : Nat} (h : i < 1000) : z_zA σ i = σ 11 i := if_neg (by omega)
theorem z_zA_w {σ : mj_S} (h1 : 21 ≤ σ 1 2) (h2 : σ 1 2 ≤ 60) : z_bw (z_zA σ) = 268435456 + σ 1 2 := by
  unfold z_bw
  have e : z_zA σ 1000 = 268435456 + σ 1 2 := if_pos rfl
  rw [e, if_neg (by omega), if_neg (by omega)]
def z_zK (σ : mj_S) : z_K := (fun i => z_op σ 19 i, fun i => z_op σ 20 i, fun i => z_op σ 21 i)
theorem z_zK_K (σ : mj_S) : z_KK (z_zK σ) σ := fun _ => ⟨rfl, rfl, rfl⟩
theorem z_zK_lt {σ : mj_S} {i : Nat} (h : (i : Int) < σ 4 3) : (z_zK σ).1 i = σ 19 i ∧ (z_zK σ).2.1 i = σ 20 i ∧ (z_zK σ).2.2 i = σ 21 i := by
  have e : ∀ q, z_op σ q (i : Int) = σ q i := fun q => by unfold z_op; rw [if_pos ⟨by omega, h⟩, Int.toNat_natCast]
  exact ⟨e 19, e 20, e 21⟩
theorem z_zK_ge {σ : mj_S} {i : Nat} (h : σ 4 3 ≤ (i : Int)) : (z_zK σ).1 i = 0 ∧ (z_zK σ).2.1 i = 0 ∧ (z_zK σ).2.2 i = 0 := by
  have e : ∀ q, z_op σ q (i : Int) = 0 := fun q => by unfold z_op; rw [if_neg (by omega)]
  exact ⟨e 19, e 20, e 21⟩
/-- atoms of a datum lie below w -/
theorem z_T_w {A B : Nat → Int} {w : Int} {lo : Nat} : ∀ {n b k s : Nat} {x : Int}, (∀ i, lo ≤ i → i < b → i < 400 → (A i < 536870912 → A i < w) ∧ (B i < 536870912 → B i < w)) → (x < 536870912 → x < w) → z_T A B 536870912 lo n b k s x → z_T A B w lo n b k s x
  | 0, b, k, s, x, _, hx, h => ⟨⟨h.1.1, hx h.1.2⟩, h.2⟩
  | n + 1, b, k, s, x, hf, hx, h => by
    rcases h with h | ⟨k1, p, s1, s2, h1, h2, h0, h3, h4, h5, h6, h7⟩
    · exact Or.inl ⟨⟨h.1.1, hx h.1.2⟩, h.2⟩
    · obtain ⟨e1, e2⟩ := hf p h0 h3 h4
      exact Or.inr ⟨k1, p, s1, s2, h1, h2, h0, h3, h4, h5, z_T_w (fun i i1 i2 i3 => hf i i1 (by omega) i3) e1 h6, z_T_w hf e2 h7⟩
theorem z_D_w {A B : Nat → Int} {w : Int} {lo b k s : Nat} {x : Int} (hf : ∀ i, lo ≤ i → i < b → i < 400 → (A i < 536870912 → A i < w) ∧ (B i < 536870912 → B i < w)) (hx : x < 536870912 → x < w) (h : z_D A B 536870912 lo b k s x) : z_D A B w lo b k s x := by
  obtain ⟨n, h⟩ := h
  exact ⟨n, z_T_w hf hx h⟩
theorem z_dt_up {A B A' B' : Nat → Int} {st st' : Nat} (hf : z_sb A B A' B' st) (hw : z_bw A ≤ z_bw A') (hst : st ≤ st') {x : Int} (h : z_dt A B st x) : z_dt A' B' st' x := by
  obtain ⟨s, h⟩ := h
  exact ⟨s, z_D_mono hw (Nat.le_refl _) hst (Nat.le_refl _) (z_D_frame (fun i _ h1 h2 => hf i h1 h2) h)⟩
/-- functions stay -/
theorem z_FN_up {A B A' B' : Nat → Int} {st st' len : Nat} {K K' : z_K} {σ τ σ' τ' : mj_S} (hf : z_sb A B A' B' st) (hw : z_bw A ≤ z_bw A') (hst : st ≤ st') (hK0 : ∀ i, len ≤ i → K.1 i = 0) (hK : ∀ i, i < len → K'.1 i = K.1 i ∧ K'.2.1 i = K.2.1 i ∧ K'.2.2 i = K.2.2 i) (fσ : ∀ q k, (q = 6 ∧ k = 6) ∨ (24 ≤ q ∧ q ≤ 28) → σ' q k = σ q k) (fτ : ∀ q k, (q = 0 ∧ k = 22) ∨ (13 ≤ q ∧ q ≤ 15) → τ' q k = τ q k) (h : z_FN A B st K σ τ) : z_FN A' B' st' K' σ' τ' := by
  obtain ⟨nf, h1, h2, h3, h4, h5, h6⟩ := h
  refine ⟨nf, h1, by rw [fτ 0 22 (by omega)]; exact h2, by rw [fσ 6 6 (by omega)]; exact h3, fun f f' a1 a2 a3 => ?_, fun i a1 a2 => ?_, fun f hf1 => ?_⟩
  · rw [fτ 13 f (by omega), fτ 13 f' (by omega)] at a3
    exact h4 f f' a1 a2 a3
  · rw [fσ 24 i (by omega)] at a2
    obtain ⟨f, b1, b2⟩ := h5 i a1 a2
    exact ⟨f, b1, by rw [fτ 13 f (by omega)]; exact b2⟩
  · obtain ⟨i, c, g1, g2, g3, g4, g5, g6, g7, g8, g9, g10, s, k, fin, g11, g12, g13, g14⟩ := h6 f hf1
    have hfin : fin < len := by
      by_cases e : fin < len
      · exact e
      · have := hK0 fin (by omega)
        rw [g14.1] at this
        exact absurd this (by decide)
    rw [fτ 14 f (by omega), fτ 15 f (by omega), fτ 13 f (by omega)]
    refine ⟨i, c, g1, g2, by rw [fσ 24 i (by omega)]; exact g3, by rw [fσ 26 i (by omega)]; exact g4, g5, by rw [fσ 25 i (by omega)]; exact g6, by rw [fσ 27 i (by omega)]; exact g7, ⟨z_sb_len hf g9 g8.1, by rw [z_sb_nth hf g9 g8.1 c (Nat.le_refl _)]; exact g8.2⟩, z_dt_up hf hw hst g9, z_dt_up hf hw hst g10, s, k, fin, by rw [fσ 28 i (by omega)]; exact g11, g12, ?_, ?_⟩
    · have eE : z_bd (fun j => z_el A' B' (τ 14 f) j) 0 c [] = z_bd (fun j => z_el A B (τ 14 f) j) 0 c [] := z_bd_eq (fun j hj => z_sb_el hf g9 g8.1 hj)
      rw [eE]
      obtain ⟨sz, hd⟩ := g10
      have c1 := z_C_store (z_bw_le A) (fun i h1 h2 => hf i h1 h2) k _ _ _ _ _ _ (Nat.le_refl 12) hd g13
      exact z_C_frame k _ _ _ _ _ _ (fun j j1 j2 => hK j (by omega)) c1
    · obtain ⟨e1, e2, e3⟩ := hK fin hfin
      exact ⟨by rw [e1]; exact g14.1, by rw [e2]; exact g14.2.1, by rw [e3]; exact g14.2.2⟩
/-- what holds between two forms -/
def z_R (C : Int) (lv : Prop) (σ τ : mj_S) : Prop :=
  z_X σ τ ∧ z_Y σ τ ∧ z_So σ τ ∧ (∃ be, z_H (z_zA σ) (σ 12) (σ 2 8).toNat σ τ be (fun _ => false)) ∧ z_FN (z_zA σ) (σ 12) (σ 2 8).toNat (z_zK σ) σ τ ∧ (0 ≤ σ 4 3 ∧ σ 4 3 ≤ 3 * σ 2 8) ∧ z_P σ τ ∧ (σ 7 13 = τ 0 42 ∧ 0 ≤ σ 7 13 ∧ σ 7 13 ≤ 100) ∧ (∃ S fuel : Nat, S ≤ fuel ∧ fuel ≤ 20000 ∧ (lv → σ 7 11 = fuel ∧ τ 0 40 = fuel) ∧ σ 7 12 = S ∧ τ 0 41 = S) ∧ (σ 0 8 = τ 0 43 ∧ 0 ≤ σ 0 8) ∧ 0 ≤ σ 2 10 ∧ σ 2 10 ≤ C + 20 * σ 7 12
theorem z_H_no {A B A' B' : Nat → Int} {st st' : Nat} {σ τ : mj_S} {be : Nat → Nat} {G : Nat → Bool} (h : z_H A B st σ τ be G) (hs : z_sa A' B' (σ 11) (σ 12) (τ 4) (τ 5) st') : z_H A' B' st' σ τ be (fun _ => false) := by
  obtain ⟨_, sz, fo, ga, U, tm, ck, HP, _, _, _⟩ := h
  exact ⟨hs, sz, fo, ga, U, tm, 0, HP, fun j z => Bool.noConfusion z, fun j _ z => Bool.noConfusion z, fun j z => Bool.noConfusion z⟩
theorem z_So_sa {σ τ : mj_S} (h : z_So σ τ) : z_sa (z_zA σ) (σ 12) (σ 11) (σ 12) (τ 4) (τ 5) (σ 2 8).toNat := fun i i1 i2 => by
  obtain ⟨h1, h2, h3, h4⟩ := h
  obtain ⟨g1, g2, _⟩ := h4 i (by omega)
  rw [z_zA_i σ (by omega)]
  exact ⟨rfl, rfl, g1.symm, g2.symm⟩
/-- a form is over, and no function is new: what it left in the store and in the code goes -/
theorem z_R_back {C C' : Int} {lv lv' : Prop} {σ τ σ' τ' : mj_S} (R : z_R C lv σ τ) (hX : z_X σ' τ') (hY : z_Y σ' τ') (hk : σ 1 2 ≤ σ' 1 2) (hs : σ' 2 8 = σ 2 8) (hs' : τ' 0 11 = τ 0 11) (hst : ∀ i : Nat, (i : Int) < σ 2 8 → σ' 11 i = σ 11 i ∧ σ' 12 i = σ 12 i ∧ τ' 4 i = τ 4 i ∧ τ' 5 i = τ 5 i) (hl : σ' 4 3 = σ 4 3) (hc : ∀ i : Nat, (i : Int) < σ 4 3 → σ' 19 i = σ 19 i ∧ σ' 20 i = σ 20 i ∧ σ' 21 i = σ 21 i)
    (fσ : ∀ q k, (q = 6 ∧ k = 6) ∨ (24 ≤ q ∧ q ≤ 28) → σ' q k = σ q k) (fτ : ∀ q k, (q = 0 ∧ k = 22) ∨ (13 ≤ q ∧ q ≤ 15) → τ' q k = τ q k) {A B : Nat → Int} {st : Nat} {be : Nat → Nat} {G : Nat → Bool} (hH : z_H A B st σ' τ' be G) (hP : z_P σ' τ') (hmo : σ' 7 13 = τ' 0 42 ∧ 0 ≤ σ' 7 13 ∧ σ' 7 13 ≤ 100) (hfu : ∃ S fuel : Nat, S ≤ fuel ∧ fuel ≤ 20000 ∧ (lv' → σ' 7 11 = fuel ∧ τ' 0 40 = fuel) ∧ σ' 7 12 = S ∧ τ' 0 41 = S) (hdo : σ' 0 8 = τ' 0 43 ∧ 0 ≤ σ' 0 8) (hco : 0 ≤ σ' 2 10) (hco2 : σ' 2 10 ≤ C' + 20 * σ' 7 12) : z_R C' lv' σ' τ' := by
  obtain ⟨r1, r2, r3, r4, r5, r6, r7, r8, r9, r10, r11, r12⟩ := R
  obtain ⟨y1, y2, y3, y4⟩ := hY
  have hSo : z_So σ' τ' := by
    obtain ⟨s1, s2, s3, s4⟩ := r3
    refine ⟨by rw [hs, hs']; exact s1, by rw [hs]; exact s2, by rw [hs]; exact s3, fun i hi => ?_⟩
    rw [hs] at hi
    obtain ⟨g1, g2, g3, g4⟩ := s4 i hi
    obtain ⟨e1, e2, e3, e4⟩ := hst i hi
    rw [e1, e2, e3, e4]
    exact ⟨g1, g2, fun z => by have := g3 z; omega, fun z => by have := g4 z; omega⟩
  have r22 := r2
  obtain ⟨z1, z2, z3, z4⟩ := r22
  have eK : ∀ i, i < (σ 4 3).toNat → (z_zK σ').1 i = (z_zK σ).1 i ∧ (z_zK σ').2.1 i = (z_zK σ).2.1 i ∧ (z_zK σ').2.2 i = (z_zK σ).2.2 i := fun i hi => by
    obtain ⟨a1, a2, a3⟩ := z_zK_lt (σ := σ) (i := i) (by omega)
    obtain ⟨b1, b2, b3⟩ := z_zK_lt (σ := σ') (i := i) (by rw [hl]; omega)
    obtain ⟨c1, c2, c3⟩ := hc i (by omega)
    exact ⟨by rw [a1, b1, c1], by rw [a2, b2, c2], by rw [a3, b3, c3]⟩
  refine ⟨hX, ⟨y1, y2, y3, y4⟩, hSo, ⟨be, z_H_no hH (z_So_sa hSo)⟩, ?_, by rw [hl, hs]; exact r6, hP, hmo, hfu, hdo, hco, hco2⟩
  rw [hs]
  refine z_FN_up (len := (σ 4 3).toNat) (fun i i1 i2 => ?_) ?_ (Nat.le_refl _) (fun i hi => (z_zK_ge (by omega)).1) eK fσ fτ r5
  · obtain ⟨e1, e2, _⟩ := hst i (by have := r3.2.1; omega)
    rw [z_zA_i σ' (by omega), z_zA_i σ (by omega)]
    exact ⟨e1, e2⟩
  · rw [z_zA_w z2 z3, z_zA_w y2 y3]; omega
