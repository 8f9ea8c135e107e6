/-! one form of a run -/
theorem z_X_fr {σ τ σ' τ' : mj_S} (h : z_X σ τ) (fσ : ∀ q k, (q = 3 ∧ k = 3) ∨ q = 18 → σ' q k = σ q k) (fτ : ∀ q k, (q = 0 ∧ k = 2) ∨ q = 1 → τ' q k = τ q k) : z_X σ' τ' := by
  obtain ⟨h1, h2, h3, h4, h5⟩ := h
  have a : σ' 18 = σ 18 := by funext k; exact fσ 18 k (by omega)
  have b : τ' 1 = τ 1 := by funext k; exact fτ 1 k (by omega)
  exact ⟨by rw [a, b]; exact h1, by rw [a]; exact h2, by rw [fσ 3 3 (by omega), fτ 0 2 (by omega)]; exact h3, by rw [fσ 3 3 (by omega)]; exact h4, by rw [fσ 3 3 (by omega)]; exact h5⟩
theorem z_Y_fr {σ τ σ' τ' : mj_S} (h : z_Y σ τ) (y1 : ∀ q k, q = 1 ∨ q = 9 ∨ q = 10 → σ' q k = σ q k) (y2 : ∀ q k, (q = 0 ∧ k = 6) ∨ q = 2 ∨ q = 3 → τ' q k = τ q k) : z_Y σ' τ' := by
  obtain ⟨h1, h2, h3, h4⟩ := h
  refine ⟨by rw [y1 1 2 (by omega), y2 0 6 (by omega)]; exact h1, by rw [y1 1 2 (by omega)]; exact h2, by rw [y1 1 2 (by omega)]; exact h3, fun i hi => ?_⟩
  rw [y1 1 2 (by omega)] at hi
  rw [y1 10 i (by omega), y2 3 i (by omega)]
  obtain ⟨k1, k2, k3, k4⟩ := h4 i hi
  exact ⟨k1, k2, k3, fun k hk => by rw [y1 9 _ (by omega), y2 2 _ (by omega)]; exact k4 k hk⟩
theorem z_P_fr {σ τ σ' τ' : mj_S} (h : z_P σ τ) (y1 : ∀ q k, (q = 8 ∧ k = 4) ∨ q = 33 → σ' q k = σ q k) (y2 : ∀ q k, (q = 0 ∧ k = 44) ∨ q = 24 → τ' q k = τ q k) : z_P σ' τ' := by
  obtain ⟨p1, p2, p3, p4⟩ := h
  refine ⟨by rw [y1 8 4 (by omega), y2 0 44 (by omega)]; exact p1, by rw [y1 8 4 (by omega)]; exact p2, by rw [y1 8 4 (by omega)]; exact p3, fun i hi => ?_⟩
  rw [y1 8 4 (by omega)] at hi
  rw [y1 33 i (by omega), y2 24 i (by omega)]
  exact p4 i hi
theorem z_R_fr {C : Int} {lv : Prop} {σ τ σ' τ' : mj_S} (R : z_R C lv σ τ) (fσ : ∀ q k, ¬ (q = 3 ∧ k = 4) → σ' q k = σ q k) (fτ : ∀ q k, ¬ (q = 0 ∧ (k = 1 ∨ k = 4 ∨ k = 5)) → τ' q k = τ q k) : z_R C lv σ' τ' := by
  have R0 := R
  obtain ⟨r1, r2, r3, r4, r5, r6, r7, r8, r9, r10, r11, r12⟩ := R
  obtain ⟨be, hH⟩ := r4
  obtain ⟨S, fuel, u1, u2, u3, u4, u5⟩ := r9
  exact z_R_back R0 (z_X_fr r1 (fun q k z => fσ q k (by omega)) (fun q k z => fτ q k (by omega))) (z_Y_fr r2 (fun q k z => fσ q k (by omega)) (fun q k z => fτ q k (by omega))) (by rw [fσ 1 2 (by omega)]; exact Int.le_refl _) (fσ 2 8 (by omega)) (fτ 0 11 (by omega)) (fun i _ => ⟨fσ 11 i (by omega), fσ 12 i (by omega), fτ 4 i (by omega), fτ 5 i (by omega)⟩) (fσ 4 3 (by omega)) (fun i _ => ⟨fσ 19 i (by omega), fσ 20 i (by omega), fσ 21 i (by omega)⟩) (fun q k z => fσ q k (by omega)) (fun q k z => fτ q k (by omega)) (z_H_fr (fun q k z => fσ q k (by omega)) (fun q k z => fτ q k (by omega)) hH) (z_P_fr r7 (fun q k z => fσ q k (by omega)) (fun q k z => fτ q k (by omega))) (by rw [fσ 7 13 (by omega), fτ 0 42 (by omega)]; exact r8) ⟨S, fuel, u1, u2, fun z => by rw [fσ 7 11 (by omega), fτ 0 40 (by omega)]; exact u3 z, by rw [fσ 7 12 (by omega)]; exact u4, by rw [fτ 0 41 (by omega)]; exact u5⟩ (by rw [fσ 0 8 (by omega), fτ 0 43 (by omega)]; exact r10) (by rw [fσ 2 10 (by omega)]; exact r11) (by rw [fσ 2 10 (by omega), fσ 7 12 (by omega)]; exact r12)
theorem z_rl_f {σ : mj_S} {q k : Nat} {b : Int} (h0 : 0 ≤ b) (h1 : b ≤ σ q k) : (∀ i j, ¬ (i = q ∧ j = k) → z_rl σ q k b i j = σ i j) ∧ z_rl σ q k b q k = b := by
  unfold z_rl
  by_cases c : 0 ≤ b ∧ b < σ q k
  · rw [if_pos c]
    exact ⟨fun i j z => mj_up_ne z, mj_up_eq⟩
  · rw [if_neg c]
    exact ⟨fun _ _ _ => rfl, by omega⟩
theorem z_H_no9 {A B : Nat → Int} {st : Nat} {σ' τ' σ9 τ9 : mj_S} {be : Nat → Nat} {G : Nat → Bool} (hH : z_H A B st σ' τ' be G) (f9 : ∀ q k, ¬ ((q = 2 ∧ k = 8) ∨ (q = 4 ∧ k = 3) ∨ (q = 0 ∧ k = 8)) → σ9 q k = σ' q k) (g9 : ∀ q k, ¬ (q = 0 ∧ k = 11) → τ9 q k = τ' q k) : z_H A B st σ9 τ9 be (fun _ => false) :=
  z_H_re hH (fun q k z => f9 q k (by omega)) (fun q k z => g9 q k (by omega)) (fun i a b => by rw [f9 11 i (by omega), f9 12 i (by omega), g9 4 i (by omega), g9 5 i (by omega)]; exact hH.1 i a b)
/-- a form without a new function is over -/
theorem z_R_fin {C : Int} {σ τ σ3 τ3 σ' τ' σ9 τ9 : mj_S} {e : Int} (R : z_R C True σ τ) (F : z_F 0 σ τ σ3 τ3) (hX : z_X σ3 τ3) (hY : z_Y σ3 τ3) (FR : z_FR σ3 τ3 e σ' τ') (f9 : ∀ q k, ¬ ((q = 2 ∧ k = 8) ∨ (q = 4 ∧ k = 3) ∨ (q = 0 ∧ k = 8)) → σ9 q k = σ' q k) (h28 : σ9 2 8 = σ 2 8) (h43 : σ9 4 3 = σ 4 3) (h08 : σ9 0 8 = σ 0 8 + (if e = 0 then 1 else 0)) (g9 : ∀ q k, ¬ (q = 0 ∧ k = 11) → τ9 q k = τ' q k) (h11 : τ9 0 11 = τ 0 11) : z_R (C + 20) (e = 0) σ9 τ9 := by
  have R0 := R
  have o9 : ∀ q k, ¬ (z_xf q k ∨ (q = 2 ∧ k = 8) ∨ (q = 0 ∧ k = 8)) → σ9 q k = σ3 q k := by
    clear h28 h43 h08 h11 g9
    exact fun q k z => by rw [f9 q k (by omega)]; exact FR.2.2.2.1 q k (by omega)
  have p9 : ∀ q k, ¬ (z_xg q k ∨ (q = 0 ∧ k = 11)) → τ9 q k = τ3 q k := by
    clear h28 h43 h08 h11 f9 o9
    exact fun q k z => by rw [g9 q k (by omega)]; exact FR.2.2.2.2.2.2.1 q k (by omega)
  obtain ⟨r1, r2, r3, r4, r5, r6, r7, r8, r9, r10, r11, r12⟩ := R
  obtain ⟨f1, f2, f3, f4, f5, f6, f7⟩ := F
  obtain ⟨k1, k2, k3, k4, k5, k6, k7, k8, k9, k10, k11, k12, k13⟩ := FR
  obtain ⟨A, B, st, be, G, hH⟩ := k12
  obtain ⟨S, fuel, u1, u2, u3, u4, u5⟩ := k11
  have e43 : σ3 4 3 = σ 4 3 := f1 4 3 (by omega)
  refine z_R_back R0 (z_X_fr hX (fun q k z => o9 q k (by omega)) (fun q k z => p9 q k (by omega))) (z_Y_fr hY (fun q k z => o9 q k (by omega)) (fun q k z => p9 q k (by omega))) (by rw [o9 1 2 (by omega)]; exact f5) h28 h11 (fun i hi => ?_) h43 (fun i hi => ?_) (fun q k z => by rw [o9 q k (by omega)]; exact f1 q k (by omega)) (fun q k z => by rw [p9 q k (by omega)]; exact f2 q k (by omega)) (z_H_no9 hH f9 g9) (z_P_fr k9 (fun q k z => f9 q k (by omega)) (fun q k z => g9 q k (by omega))) (by rw [f9 7 13 (by omega), g9 0 42 (by omega)]; exact k10) ⟨S, fuel, u1, u2, fun z => by rw [f9 7 11 (by omega), g9 0 40 (by omega)]; exact u3 z, by rw [f9 7 12 (by omega)]; exact u4, by rw [g9 0 41 (by omega)]; exact u5⟩ ?_ ?_ ?_
  · have hi4 : i < 400 := by have := r3.2.2.1; omega
    obtain ⟨a1, a2, a3, a4⟩ := f3 i (Or.inl hi)
    rw [o9 11 i (by omega), o9 12 i (by omega), p9 4 i (by omega), p9 5 i (by omega)]
    exact ⟨a1, a2, a3, a4⟩
  · obtain ⟨a1, a2, a3⟩ := k5 i (by omega)
    rw [f9 19 i (by omega), f9 20 i (by omega), f9 21 i (by omega), a1, a2, a3]
    exact ⟨f1 19 i (by omega), f1 20 i (by omega), f1 21 i (by omega)⟩
  · have e1 : τ3 0 43 = τ 0 43 := f2 0 43 (by omega)
    rw [h08, g9 0 43 (by omega), k8, e1, ← r10.1]
    refine ⟨rfl, ?_⟩
    split <;> omega
  · have e1 : σ3 2 10 = σ 2 10 := f1 2 10 (by omega)
    rw [f9 2 10 (by omega)]; omega
  · have e1 : σ3 2 10 = σ 2 10 := f1 2 10 (by omega)
    have e2 : σ3 7 12 = σ 7 12 := f1 7 12 (by omega)
    rw [f9 2 10 (by omega), f9 7 12 (by omega)]; omega
/-- a new function is known, its name was printed -/
theorem z_R_new {C : Int} {σ τ σ3 τ3 σn τn σ' τ' σ9 τ9 : mj_S} (R : z_R C True σ τ) (F : z_F 0 σ τ σ3 τ3) (RD : z_RD σ3 τ3) (NF : z_NF σ3 τ3 σn τn (σ3 2 8).toNat) (FR : z_FR σn τn 0 σ' τ') (h43 : σ' 4 3 = σn 4 3) (f9 : ∀ q k, ¬ (q = 0 ∧ k = 8) → σ9 q k = σ' q k) (h08 : σ9 0 8 = σ' 0 8 + 1) (g9 : ∀ q k, τ9 q k = τ' q k) : z_R (C + 20) True σ9 τ9 := by
  have o9 : ∀ q k, ¬ (z_xf q k ∨ (q = 0 ∧ k = 8)) → σ9 q k = σn q k := by
    clear h43 h08 g9
    exact fun q k z => by rw [f9 q k (by omega)]; exact FR.2.2.2.1 q k (by omega)
  have o3 : ∀ q k, ¬ (z_xf q k ∨ (q = 0 ∧ k = 8) ∨ (24 ≤ q ∧ q ≤ 28) ∨ (q = 6 ∧ k = 6)) → σ9 q k = σ3 q k := by
    clear h43 h08 g9
    exact fun q k z => by rw [o9 q k (by omega)]; exact NF.1 q k (by omega)
  have p9 : ∀ q k, ¬ (z_xg q k) → τ9 q k = τn q k := fun q k z => by rw [g9 q k]; exact FR.2.2.2.2.2.2.1 q k z
  have p3 : ∀ q k, ¬ (z_xg q k ∨ (q = 0 ∧ k = 22) ∨ (13 ≤ q ∧ q ≤ 15)) → τ9 q k = τ3 q k := by
    clear h43 h08 f9
    exact fun q k z => by rw [p9 q k (by omega)]; exact NF.2.1 q k (by omega)
  have e28 : σ9 2 8 = σ3 2 8 := by clear h43 h08; exact o3 2 8 (by omega)
  have hY9 : z_Y σ9 τ9 := by clear h43 h08; exact z_Y_fr RD.2.1 (fun q k z => o3 q k (by omega)) (fun q k z => p3 q k (by omega))
  have hX9 : z_X σ9 τ9 := by clear h43 h08; exact z_X_fr RD.1 (fun q k z => o3 q k (by omega)) (fun q k z => p3 q k (by omega))
  have hSo : z_So σ9 τ9 := by
    clear h43 h08
    obtain ⟨s1, s2, s3, s4⟩ := RD.2.2.1
    refine ⟨by rw [e28, p3 0 11 (by omega)]; exact s1, by rw [e28]; exact s2, by rw [e28]; exact s3, fun i hi => ?_⟩
    rw [e28] at hi
    rw [o3 11 i (by omega), o3 12 i (by omega), p3 4 i (by omega), p3 5 i (by omega), o3 1 2 (by omega)]
    exact s4 i hi
  have ew : z_bw (z_zA σ3) ≤ z_bw (z_zA σ9) := by
    rw [z_zA_w RD.2.1.2.1 RD.2.1.2.2.1, z_zA_w hY9.2.1 hY9.2.2.1, o3 1 2 (by omega)]
    exact Int.le_refl _
  have FN9 : z_FN (z_zA σ9) (σ9 12) (σ9 2 8).toNat (z_zK σ9) σ9 τ9 := by
    rw [e28]
    refine z_FN_up (len := (σn 4 3).toNat) (fun i i1 i2 => ?_) ew (Nat.le_refl _) (fun i hi => (z_zK_ge (by omega)).1) (fun i hi => ?_) (fun q k z => o9 q k (by omega)) (fun q k z => p9 q k (by omega)) NF.2.2.2.1
    · rw [z_zA_i σ9 (by omega), z_zA_i σ3 (by omega)]
      exact ⟨o3 11 i (by omega), o3 12 i (by omega)⟩
    · have n7 := NF.2.2.2.2.2.2.1
      obtain ⟨a1, a2, a3⟩ := z_zK_lt (σ := σn) (i := i) (by omega)
      obtain ⟨b1, b2, b3⟩ := z_zK_lt (σ := σ9) (i := i) (by rw [f9 4 3 (by omega)]; omega)
      obtain ⟨c1, c2, c3⟩ := FR.2.2.2.2.1 i (by omega)
      exact ⟨by rw [a1, b1, f9 19 i (by omega), c1], by rw [a2, b2, f9 20 i (by omega), c2], by rw [a3, b3, f9 21 i (by omega), c3]⟩
  have e4 : σ' 0 8 = σn 0 8 := FR.2.2.2.1 0 8 (by omega)
  obtain ⟨r1, r2, r3, r4, r5, r6, r7, r8, r9, r10, r11, r12⟩ := R
  have f1 := F.1
  have f2 := F.2.1
  obtain ⟨n1, n2, n3, n4, n5, n6, n7, n8⟩ := NF
  obtain ⟨k1, k2, k3, k4, k5, k6, k7, k8, k9, k10, k11, k12, k13⟩ := FR
  obtain ⟨A, B, st, be, G, hH⟩ := k12
  obtain ⟨S, fuel, u1, u2, u3, u4, u5⟩ := k11
  clear k4 k7 k5 p3 o3 p9 o9 n4 r5 r4 r7 r9 r2 r1
  have s2 := hSo.2.1
  refine ⟨hX9, hY9, hSo, ⟨be, z_H_re hH (fun q k z => f9 q k (by omega)) (fun q k z => g9 q k) (z_So_sa hSo)⟩, FN9, ?_, z_P_fr k9 (fun q k z => f9 q k (by omega)) (fun q k z => g9 q k), by rw [f9 7 13 (by omega), g9 0 42]; exact k10, ⟨S, fuel, u1, u2, fun _ => by rw [f9 7 11 (by omega), g9 0 40]; exact u3 rfl, by rw [f9 7 12 (by omega)]; exact u4, by rw [g9 0 41]; exact u5⟩, ?_, ?_, ?_⟩
  · rw [f9 4 3 (by omega), h43]
    omega
  · have e1 : τ3 0 43 = τ 0 43 := f2 0 43 (by omega)
    have e2 : σ3 0 8 = σ 0 8 := f1 0 8 (by omega)
    have e3 : τn 0 43 = τ3 0 43 := n2 0 43 (by omega)
    have e5 : σn 0 8 = σ3 0 8 := n1 0 8 (by omega)
    rw [h08, g9 0 43, k8, if_pos rfl, e3, e1, e4, e5, e2, ← r10.1]
    exact ⟨rfl, by omega⟩
  · have e1 : σ3 2 10 = σ 2 10 := f1 2 10 (by omega)
    have e2 : σn 2 10 = σ3 2 10 := n1 2 10 (by omega)
    rw [f9 2 10 (by omega)]; omega
  · have e1 : σ3 2 10 = σ 2 10 := f1 2 10 (by omega)
    have e2 : σ3 7 12 = σ 7 12 := f1 7 12 (by omega)
    have e3 : σn 2 10 = σ3 2 10 := n1 2 10 (by omega)
    have e4' : σn 7 12 = σ3 7 12 := n1 7 12 (by omega)
    rw [f9 2 10 (by omega), f9 7 12 (by omega)]; omega
