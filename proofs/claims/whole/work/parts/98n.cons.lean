/-! a pair more: heaps that are alike stay alike -/
def z_H (A B : Nat → Int) (st : Nat) (σ τ : mj_S) (be : Nat → Nat) (G : Nat → Bool) : Prop :=
  z_sa A B (σ 11) (σ 12) (τ 4) (τ 5) st ∧ ∃ (sz fo : Nat) (ga : Nat → Nat) (U : Nat → Bool) (tm : Nat → Nat) (ck : Nat), z_HP σ τ sz fo be ga U ∧ (∀ j, G j = true → U j = true ∧ j < sz) ∧ z_gc A B (σ 11) (σ 12) (τ 4) (τ 5) st be G tm ∧ ∀ j, G j = true → tm j < ck
theorem z_H_b {A B : Nat → Int} {st : Nat} {σ τ : mj_S} {be : Nat → Nat} {G : Nat → Bool} (H : z_H A B st σ τ be G) : ∀ j, G j = true → be j < 200 := by
  obtain ⟨_, sz, fo, ga, U, tm, ck, HP, hGU, _⟩ := H
  intro j hj
  have := (HP.2.2.2.2.2.1.1 j (hGU j hj).2).1
  have := HP.2.2.2.1
  omega
theorem z_H_i {A B : Nat → Int} {st : Nat} {σ τ : mj_S} {be : Nat → Nat} {G : Nat → Bool} (H : z_H A B st σ τ be G) : ∀ i j, G i = true → G j = true → be i = be j → i = j := by
  obtain ⟨_, sz, fo, ga, U, tm, ck, HP, hGU, _⟩ := H
  intro i j hi hj e
  exact z_bij_inj HP.2.2.2.2.2.1 (hGU i hi).2 (hGU j hj).2 e
theorem z_H_fr {A B : Nat → Int} {st : Nat} {σ τ σ' τ' : mj_S} {be : Nat → Nat} {G : Nat → Bool} (hσ : ∀ q k, (q = 2 ∧ ¬ k = 11) ∨ (11 ≤ q ∧ q ≤ 13) → σ' q k = σ q k) (hτ : ∀ q k, (q = 0 ∧ (k = 0 ∨ k = 12 ∨ k = 13)) ∨ (4 ≤ q ∧ q ≤ 6) → τ' q k = τ q k) (H : z_H A B st σ τ be G) : z_H A B st σ' τ' be G := by
  obtain ⟨hs, sz, fo, ga, U, tm, ck, ⟨p1, p2, p3, p4, p5, p6, p7, p8, p9, p10, p11, p12, p13⟩, hGU, hg, hck⟩ := H
  have e11 : σ' 11 = σ 11 := by funext k; exact hσ 11 k (by omega)
  have e12 : σ' 12 = σ 12 := by funext k; exact hσ 12 k (by omega)
  have e13 : σ' 13 = σ 13 := by funext k; exact hσ 13 k (by omega)
  have e4 : τ' 4 = τ 4 := by funext k; exact hτ 4 k (by omega)
  have e5 : τ' 5 = τ 5 := by funext k; exact hτ 5 k (by omega)
  have e6 : τ' 6 = τ 6 := by funext k; exact hτ 6 k (by omega)
  refine ⟨by rw [e11, e12, e4, e5]; exact hs, sz, fo, ga, U, tm, ck, ⟨by rw [hσ 2 0 (by omega)]; exact p1, by rw [hτ 0 0 (by omega)]; exact p2, p3, p4, by rw [hσ 2 9 (by omega)]; exact p5, p6, by rw [e13]; exact p7, by rw [e13]; exact p8, by rw [e13]; exact p9, by rw [e6]; exact p10, by rw [hτ 0 12 (by omega)]; exact p11, p12, by rw [hσ 2 10 (by omega), hτ 0 13 (by omega)]; exact p13⟩, hGU, by rw [e11, e12, e4, e5]; exact hg, hck⟩
theorem z_H_col {A B : Nat → Int} {st : Nat} {σ τ : mj_S} {be : Nat → Nat} {G : Nat → Bool} (H : z_H A B st σ τ be G) : σ 2 10 = τ 0 13 := by
  obtain ⟨_, sz, fo, ga, U, tm, ck, HP, _⟩ := H
  exact HP.2.2.2.2.2.2.2.2.2.2.2.2
theorem z_vl_mo {A B : Nat → Int} {st : Nat} {be be' : Nat → Nat} {G G' : Nat → Bool} {x y : Int} (hG : ∀ j, G j = true → G' j = true ∧ be' j = be j) (h : z_vl A B st be G x y) : z_vl A B st be' G' x y := by
  rcases h with h | ⟨j, h1, h2, h3, h4⟩
  · exact Or.inl h
  · exact Or.inr ⟨j, h1, (hG j h2).1, h3, by rw [(hG j h2).2]; exact h4⟩
theorem z_pv_mo {A B : Nat → Int} {st : Nat} {be be' : Nat → Nat} {G G' : Nat → Bool} {x y : Int} (hG : ∀ j, G j = true → G' j = true ∧ be' j = be j) (h : z_pv A B st be G x y) : z_pv A B st be' G' x y := by
  rcases h with h | h
  · exact Or.inl h
  · exact Or.inr (z_vl_mo hG h)
/-- the first cell that is not used -/
theorem z_fst (P : Nat → Prop) [DecidablePred P] : ∀ n, (∃ i, i < n ∧ P i) → ∃ k, k < n ∧ P k ∧ ∀ i, i < k → ¬ P i
  | 0, ⟨i, h, _⟩ => absurd h (Nat.not_lt_zero i)
  | n + 1, h => by
    by_cases c : ∃ i, i < n ∧ P i
    · obtain ⟨k, h1, h2, h3⟩ := z_fst P n c
      exact ⟨k, by omega, h2, h3⟩
    · obtain ⟨i, h1, h2⟩ := h
      have : i = n := by
        by_cases e : i = n
        · exact e
        · exact absurd ⟨i, by omega, h2⟩ c
      subst this
      exact ⟨i, by omega, h2, fun j hj hp => c ⟨j, hj, hp⟩⟩
set_option maxHeartbeats 1000000 in
theorem z_H_cons {A B : Nat → Int} {st : Nat} {σ τ : mj_S} {be : Nat → Nat} {G : Nat → Bool} (H : z_H A B st σ τ be G) {fo : Nat} (hfo : σ 2 9 = (fo : Int) + 1) {x1 y1 x2 y2 : Int} (h1 : z_vl A B st be G x1 y1) (h2 : z_vl A B st be G x2 y2) :
    ∃ (j k : Nat) (be' : Nat → Nat) (G' : Nat → Bool), j < 200 ∧ k < 200 ∧ fo < 200 ∧ σ 13 fo = j ∧ τ 6 k = 0 ∧ (∀ i, i < k → ¬ τ 6 i = 0) ∧ ¬ τ 0 12 = τ 0 0 ∧ 0 ≤ τ 0 12 ∧ τ 0 12 < 200 ∧ (∀ i, G i = true → G' i = true ∧ be' i = be i) ∧ G' j = true ∧ be' j = k ∧
      ∀ σ' τ' : mj_S, (∀ q l, (q = 2 ∧ ¬ (l = 11 ∨ l = 9)) ∨ ((q = 11 ∨ q = 12) ∧ ¬ l = 400 + j) ∨ q = 13 → σ' q l = σ q l) → (∀ q l, (q = 0 ∧ (l = 0 ∨ l = 13)) ∨ ((q = 4 ∨ q = 5) ∧ ¬ l = 400 + k) ∨ (q = 6 ∧ ¬ l = k) → τ' q l = τ q l) → σ' 2 9 = fo → σ' 11 (400 + j) = x1 → σ' 12 (400 + j) = x2 → τ' 6 k = 1 → τ' 0 12 = τ 0 12 + 1 → τ' 4 (400 + k) = y1 → τ' 5 (400 + k) = y2 → z_H A B st σ' τ' be' G' := by
  obtain ⟨hs, sz, fo0, ga, U, tm, ck, ⟨p1, p2, p3, p4, p5, p6, p7, p8, p9, p10, p11, p12, p13⟩, hGU, hg, hck⟩ := H
  have efo : fo0 = fo + 1 := by omega
  subst efo
  obtain ⟨a1, a2⟩ := p7 fo (by omega)
  obtain ⟨j, ej⟩ : ∃ j : Nat, σ 13 fo = j := ⟨(σ 13 fo).toNat, by omega⟩
  have hj : j < sz := by omega
  have uj : U j = false := by
    cases c : U j with
    | false => rfl
    | true => exact absurd ej ((p9 j hj).mp c fo (by omega))
  have ex : ∃ i, i < sz ∧ τ 6 i = 0 := ⟨be j, (p6.1 j hj).1, by rw [p10 j hj, uj]; rfl⟩
  obtain ⟨k, k1, k2, k3⟩ := z_fst (fun i => τ 6 i = 0) sz ex
  have gk := p6.2.1 k k1
  have ug : U (ga k) = false := by
    cases c : U (ga k) with
    | false => rfl
    | true =>
      have := p10 (ga k) gk.1
      rw [gk.2, c, k2] at this
      cases this
  have nG : ∀ i, G i = true → ¬ i = j ∧ ¬ i = ga k := fun i hi => by
    have := (hGU i hi).1
    refine ⟨fun e => ?_, fun e => ?_⟩
    · rw [e, uj] at this; cases this
    · rw [e, ug] at this; cases this
  have sw1 : z_sw j (ga k) j = ga k := if_pos rfl
  have swn : ∀ i, ¬ i = j → ¬ i = ga k → z_sw j (ga k) i = i := fun i e1 e2 => by unfold z_sw; rw [if_neg e1, if_neg e2]
  have mo : ∀ i, G i = true → (if i = j then true else G i) = true ∧ be (z_sw j (ga k) i) = be i := fun i hi => by
    obtain ⟨n1, n2⟩ := nG i hi
    exact ⟨by rw [if_neg n1]; exact hi, by rw [swn i n1 n2]⟩
  have ulj : z_cnt (fun i => if i = j then true else U i) sz = z_cnt U sz + 1 := z_cnt_add hj uj
  have lts := z_cnt_le (fun i => if i = j then true else U i) sz
  refine ⟨j, k, fun m => be (z_sw j (ga k) m), fun i => if i = j then true else G i, by omega, by omega, by omega, ej, k2, fun i hi => k3 i hi, by omega, by omega, by omega, mo, if_pos rfl, by show be (z_sw j (ga k) j) = k; rw [sw1, gk.2], ?_⟩
  intro σ' τ' fc fm c1 c2 c3 d1 d2 d3 d4
  have hj4 : j < 200 := by omega
  refine ⟨fun i i1 i2 => ?_, sz, fo, fun m => z_sw j (ga k) (ga m), fun i => if i = j then true else U i, fun i => if i = j then ck else tm i, ck + 1, ⟨by rw [fc 2 0 (by omega)]; exact p1, by rw [fm 0 0 (by omega)]; exact p2, p3, p4, c1, z_bij_sw p6 hj gk.1, fun t ht => ?_, fun t t' t1 t2 => ?_, fun i hi => ?_, fun i hi => ?_, ?_, ?_, ?_⟩, fun i hi => ?_, fun i i1 i2 => ?_, fun i hi => ?_⟩
  · rw [fc 11 i (by omega), fc 12 i (by omega), fm 4 i (by omega), fm 5 i (by omega)]
    exact hs i i1 i2
  · rw [fc 13 t (by omega)]; exact p7 t (by omega)
  · rw [fc 13 t (by omega), fc 13 t' (by omega)]; exact p8 t t' t1 (by omega)
  · dsimp only
    by_cases e : i = j
    · rw [if_pos e]
      refine ⟨fun _ t ht => ?_, fun _ => rfl⟩
      rw [fc 13 t (by omega), e, ← ej]
      exact p8 t fo ht (by omega)
    · rw [if_neg e, p9 i hi]
      refine ⟨fun z t ht => ?_, fun z t ht => ?_⟩
      · rw [fc 13 t (by omega)]; exact z t (by omega)
      · by_cases et : t = fo
        · rw [et, ej]; omega
        · have := z t (by omega)
          rw [fc 13 t (by omega)] at this
          exact this
  · have key : ∀ b : Bool, (if i = j then true else U i) = b → τ' 6 (be (z_sw j (ga k) i)) = (if b = true then 1 else 0) → τ' 6 (be (z_sw j (ga k) i)) = if (if i = j then true else U i) = true then 1 else 0 := fun b e q => by
      rw [q]; subst e; rfl
    by_cases e : i = j
    · refine key true (if_pos e) ?_
      rw [e, sw1, gk.2, d1]; rfl
    · refine key (U i) (if_neg e) ?_
      by_cases e2 : i = ga k
      · have sw2 : z_sw j (ga k) i = j := by unfold z_sw; rw [if_neg e, if_pos e2]
        rw [sw2, e2, ug]
        have : ¬ be j = k := fun e3 => e (by rw [e2]; rw [← gk.2] at e3; exact (z_bij_inj p6 hj gk.1 e3).symm)
        rw [fm 6 _ (by omega), p10 j hj, uj]
      · rw [swn i e e2]
        have : ¬ be i = k := fun e3 => e2 (by rw [← gk.2] at e3; exact z_bij_inj p6 hi gk.1 e3)
        rw [fm 6 _ (by omega), p10 i hi]
  · rw [d2, ulj, p11]; omega
  · rw [ulj]; omega
  · rw [fc 2 10 (by omega), fm 0 13 (by omega)]; exact p13
  · dsimp only at hi ⊢
    by_cases e : i = j
    · rw [if_pos e]; exact ⟨rfl, by omega⟩
    · rw [if_neg e] at hi
      rw [if_neg e]; exact hGU i hi
  · dsimp only at i2 ⊢
    by_cases e : i = j
    · rw [e, sw1, gk.2, c2, c3, d3, d4, if_pos rfl]
      refine ⟨z_vl_mo mo h1, z_vl_mo mo h2, fun i' j1 j2 j3 => ?_⟩
      have gi : G i' = true := by
        rcases j3 with j3 | j3
        · rcases h1 with ⟨_, s, g⟩ | ⟨t, g1, g2, g3, g4⟩
          · have := z_D_r (z_bw_le A) g; omega
          · have : i' = t := by omega
            rw [this]; exact g2
        · rcases h2 with ⟨_, s, g⟩ | ⟨t, g1, g2, g3, g4⟩
          · have := z_D_r (z_bw_le A) g; omega
          · have : i' = t := by omega
            rw [this]; exact g2
      rw [if_neg (nG i' gi).1]
      exact hck i' gi
    · rw [if_neg e] at i2
      obtain ⟨n1, n2⟩ := nG i i2
      have nk : ¬ be i = k := fun e3 => n2 (by rw [← gk.2] at e3; exact z_bij_inj p6 (hGU i i2).2 gk.1 e3)
      rw [swn i n1 n2, fc 11 _ (by omega), fc 12 _ (by omega), fm 4 _ (by omega), fm 5 _ (by omega), if_neg e]
      obtain ⟨g1, g2, g3⟩ := hg i i1 i2
      refine ⟨z_vl_mo mo g1, z_vl_mo mo g2, fun i' j1 j2 j3 => ?_⟩
      have gi : G i' = true := by
        rcases j3 with j3 | j3
        · rcases g1 with ⟨_, s, g⟩ | ⟨t, g1, g2, g3, g4⟩
          · have := z_D_r (z_bw_le A) g; omega
          · have : i' = t := by omega
            rw [this]; exact g2
        · rcases g2 with ⟨_, s, g⟩ | ⟨t, g1, g2, g3, g4⟩
          · have := z_D_r (z_bw_le A) g; omega
          · have : i' = t := by omega
            rw [this]; exact g2
      rw [if_neg (nG i' gi).1]
      exact g3 i' j1 gi j3
  · dsimp only at hi ⊢
    by_cases e : i = j
    · rw [if_pos e]; omega
    · rw [if_neg e] at hi
      rw [if_neg e]
      have := hck i hi
      omega
