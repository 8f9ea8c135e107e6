/-! a run -/
theorem z_R_tx {C : Int} {lv : Prop} {σ τ σ' τ' : mj_S} (R : z_R C lv σ τ) (hX : z_X σ' τ') (fσ : ∀ q k, ¬ (q = 18 ∨ q = 3) → σ' q k = σ q k) (fτ : ∀ q k, ¬ (q = 1 ∨ (q = 0 ∧ (k = 1 ∨ k = 2 ∨ k = 4 ∨ k = 5))) → τ' q k = τ q k) : z_R C lv σ' τ' := by
  have R0 := R
  obtain ⟨r1, r2, r3, r4, r5, r6, r7, r8, r9, r10, r11, r12⟩ := R
  obtain ⟨be, hH⟩ := r4
  obtain ⟨S, fuel, u1, u2, u3, u4, u5⟩ := r9
  exact z_R_back R0 hX (z_Y_fr r2 (fun q k z => fσ q k (by omega)) (fun q k z => fτ q k (by omega))) (by rw [fσ 1 2 (by omega)]; exact Int.le_refl _) (fσ 2 8 (by omega)) (fτ 0 11 (by omega)) (fun i _ => ⟨fσ 11 i (by omega), fσ 12 i (by omega), fτ 4 i (by omega), fτ 5 i (by omega)⟩) (fσ 4 3 (by omega)) (fun i _ => ⟨fσ 19 i (by omega), fσ 20 i (by omega), fσ 21 i (by omega)⟩) (fun q k z => fσ q k (by omega)) (fun q k z => fτ q k (by omega)) (z_H_fr (fun q k z => fσ q k (by omega)) (fun q k z => fτ q k (by omega)) hH) (z_P_fr r7 (fun q k z => fσ q k (by omega)) (fun q k z => fτ q k (by omega))) (by rw [fσ 7 13 (by omega), fτ 0 42 (by omega)]; exact r8) ⟨S, fuel, u1, u2, fun z => by rw [fσ 7 11 (by omega), fτ 0 40 (by omega)]; exact u3 z, by rw [fσ 7 12 (by omega)]; exact u4, by rw [fτ 0 41 (by omega)]; exact u5⟩ (by rw [fσ 0 8 (by omega), fτ 0 43 (by omega)]; exact r10) (by rw [fσ 2 10 (by omega)]; exact r11) (by rw [fσ 2 10 (by omega), fσ 7 12 (by omega)]; exact r12)
/-- only the papers change -/
theorem z_R_pp {C : Int} {lv : Prop} {σ τ σ' τ' : mj_S} (R : z_R C lv σ τ) (hP : z_P σ' τ') (fσ : ∀ q k, ¬ (q = 33 ∨ (q = 8 ∧ k = 4)) → σ' q k = σ q k) (fτ : ∀ q k, ¬ (q = 24 ∨ (q = 0 ∧ k = 44)) → τ' q k = τ q k) : z_R C lv σ' τ' := by
  have R0 := R
  obtain ⟨r1, r2, r3, r4, r5, r6, r7, r8, r9, r10, r11, r12⟩ := R
  obtain ⟨be, hH⟩ := r4
  obtain ⟨S, fuel, u1, u2, u3, u4, u5⟩ := r9
  exact z_R_back R0 (z_X_fr r1 (fun q k z => fσ q k (by omega)) (fun q k z => fτ q k (by omega))) (z_Y_fr r2 (fun q k z => fσ q k (by omega)) (fun q k z => fτ q k (by omega))) (by rw [fσ 1 2 (by omega)]; exact Int.le_refl _) (fσ 2 8 (by omega)) (fτ 0 11 (by omega)) (fun i _ => ⟨fσ 11 i (by omega), fσ 12 i (by omega), fτ 4 i (by omega), fτ 5 i (by omega)⟩) (fσ 4 3 (by omega)) (fun i _ => ⟨fσ 19 i (by omega), fσ 20 i (by omega), fσ 21 i (by omega)⟩) (fun q k z => fσ q k (by omega)) (fun q k z => fτ q k (by omega)) (z_H_fr (fun q k z => fσ q k (by omega)) (fun q k z => fτ q k (by omega)) hH) hP (by rw [fσ 7 13 (by omega), fτ 0 42 (by omega)]; exact r8) ⟨S, fuel, u1, u2, fun z => by rw [fσ 7 11 (by omega), fτ 0 40 (by omega)]; exact u3 z, by rw [fσ 7 12 (by omega)]; exact u4, by rw [fτ 0 41 (by omega)]; exact u5⟩ (by rw [fσ 0 8 (by omega), fτ 0 43 (by omega)]; exact r10) (by rw [fσ 2 10 (by omega)]; exact r11) (by rw [fσ 2 10 (by omega), fσ 7 12 (by omega)]; exact r12)
/-- what begins a run -/
theorem z_R_go {C : Int} {lv : Prop} {σ τ σ' τ' : mj_S} {x : Int} (R : z_R C lv σ τ) (hx0 : 0 ≤ x) (hx1 : x ≤ 20000) (fσ : ∀ q k, ¬ ((q = 8 ∧ k = 4) ∨ (q = 7 ∧ (k = 11 ∨ k = 12 ∨ k = 13)) ∨ (q = 3 ∧ k = 4) ∨ (q = 0 ∧ k = 8)) → σ' q k = σ q k) (fτ : ∀ q k, ¬ (q = 0 ∧ (k = 1 ∨ k = 4 ∨ k = 5 ∨ (40 ≤ k ∧ k ≤ 44))) → τ' q k = τ q k) (s84 : σ' 8 4 = 0) (s711 : σ' 7 11 = x) (s712 : σ' 7 12 = 0) (s713 : σ' 7 13 = 0) (s08 : σ' 0 8 = 0) (t40 : τ' 0 40 = x) (t41 : τ' 0 41 = 0) (t42 : τ' 0 42 = 0) (t43 : τ' 0 43 = 0) (t44 : τ' 0 44 = 0) : z_R (C + 400000) True σ' τ' := by
  have R0 := R
  obtain ⟨r1, r2, r3, r4, r5, r6, r7, r8, r9, r10, r11, r12⟩ := R
  obtain ⟨be, hH⟩ := r4
  obtain ⟨S, fuel, u1, u2, u3, u4, u5⟩ := r9
  refine z_R_back R0 (z_X_fr r1 (fun q k z => fσ q k (by omega)) (fun q k z => fτ q k (by omega))) (z_Y_fr r2 (fun q k z => fσ q k (by omega)) (fun q k z => fτ q k (by omega))) (by rw [fσ 1 2 (by omega)]; exact Int.le_refl _) (fσ 2 8 (by omega)) (fτ 0 11 (by omega)) (fun i _ => ⟨fσ 11 i (by omega), fσ 12 i (by omega), fτ 4 i (by omega), fτ 5 i (by omega)⟩) (fσ 4 3 (by omega)) (fun i _ => ⟨fσ 19 i (by omega), fσ 20 i (by omega), fσ 21 i (by omega)⟩) (fun q k z => fσ q k (by omega)) (fun q k z => fτ q k (by omega)) (z_H_fr (fun q k z => fσ q k (by omega)) (fun q k z => fτ q k (by omega)) hH) ⟨by rw [s84, t44], by rw [s84]; exact Int.le_refl _, by rw [s84]; decide, fun i hi => absurd hi (by rw [s84]; omega)⟩ (by rw [s713, t42]; decide) ⟨0, x.toNat, by omega, by omega, fun _ => ⟨by rw [s711]; omega, by rw [t40]; omega⟩, s712, t41⟩ (by rw [s08, t43]; decide) (by rw [fσ 2 10 (by omega)]; exact r11) ?_
  rw [fσ 2 10 (by omega), s712]
  omega
theorem z_pcs_up : ∀ (l : List Int) (σ : mj_S), z_pcs (mj_up σ 3 3 0) l = mj_up (z_pcs σ l) 3 3 0
  | [], σ => rfl
  | c :: l, σ => by
    have e : z_pp (mj_up σ 3 3 0) c = mj_up (z_pp σ c) 3 3 0 := by
      unfold z_pp
      rw [mj_up_ne (σ := σ) (i := 8) (j := 4) (by omega)]
      split
      · funext i j
        unfold mj_up
        by_cases h1 : i = 3
        · subst h1
          simp
        · simp [h1]
      · rfl
    show z_pcs (z_pp (mj_up σ 3 3 0) c) l = mj_up (z_pcs (z_pp σ c) l) 3 3 0
    rw [e]
    exact z_pcs_up l (z_pp σ c)
/-- the whole of a run: both answer alike -/
theorem t_run {C : Int} {lv : Prop} {σ τ : mj_S} {x : Int} (R : z_R C lv σ τ) (hC : C ≤ 1200000000) (hx0 : 0 ≤ x) (hx1 : x ≤ 20000) {d : Nat} {Q : mj_Q}
    (h : ∀ (e : Int) (σ' τ' : mj_S), z_R (C + 406000) False σ' τ' → τ' 0 1 = 0 → (∀ (d' : Nat) (S : mj_Q), S (some (.inl e)) τ' → mj_B mjm_L mjm_Ms (d' + 52) 59 [.inr (.inl 0), .inl x] τ S) → Q (some (.inl e)) σ') : mj_B mjc_L mjc_Ms (d + 52) 2 [.inr (.inl 0), .inl x] σ Q := by
  refine wp_c2 (d := d + 51) ⟨fun z => absurd z (by omega), fun _ => ⟨fun _ => ?_, fun z => absurd z (by omega)⟩⟩
  refine wp_c113 (d := d + 50) (fun σ1 e1 => ⟨rfl, wp_c89 (d := d + 50) (fun σa ea σb eb σc ec => ⟨rfl, wp_c36 (d := d + 50) (fun σ3 e3 => ⟨rfl, fun σ4 e4 => ?_⟩)⟩)⟩)
  have f4 : ∀ q k, ¬ ((q = 8 ∧ k = 4) ∨ (q = 7 ∧ (k = 11 ∨ k = 12 ∨ k = 13)) ∨ (q = 3 ∧ k = 4) ∨ (q = 0 ∧ k = 8)) → σ4 q k = σ q k := fun q k z => by rw [e4, mj_up_ne (by omega), e3, mj_up_ne (by omega), ec, mj_up_ne (by omega), eb, mj_up_ne (by omega), ea, mj_up_ne (by omega), e1, mj_up_ne (by omega)]
  have s84 : σ4 8 4 = 0 := by rw [e4, mj_up_ne (by omega), e3, mj_up_ne (by omega), ec, mj_up_ne (by omega), eb, mj_up_ne (by omega), ea, mj_up_ne (by omega), e1, mj_up_eq]
  have s711 : σ4 7 11 = x := by rw [e4, mj_up_ne (by omega), e3, mj_up_ne (by omega), ec, mj_up_ne (by omega), eb, mj_up_ne (by omega), ea, mj_up_eq]
  have s712 : σ4 7 12 = 0 := by rw [e4, mj_up_ne (by omega), e3, mj_up_ne (by omega), ec, mj_up_ne (by omega), eb, mj_up_eq]
  have s713 : σ4 7 13 = 0 := by rw [e4, mj_up_ne (by omega), e3, mj_up_ne (by omega), ec, mj_up_eq]
  have s34 : σ4 3 4 = ((0 : Nat) : Int) := by rw [e4, mj_up_ne (by omega), e3, mj_up_eq]; rfl
  have s08 : σ4 0 8 = ((0 : Nat) : Int) := by rw [e4, mj_up_eq]; rfl
  clear e1 ea eb ec e3 e4
  have X := R.1
  obtain ⟨N, hN⟩ : ∃ N : Nat, σ 3 3 = N := ⟨(σ 3 3).toNat, by have := X.2.2.2.1; omega⟩
  have hN3 : N ≤ 300 := by have := X.2.2.2.2; omega
  have x02 : τ 0 2 = N := by rw [← X.2.2.1]; exact hN
  -- the reference begins
  obtain ⟨τ8, hτ8⟩ : ∃ τ8, τ8 = mj_up (mj_up (mj_up (mj_up (mj_up (mj_up (mj_up (mj_up τ 0 1 0) 0 40 x) 0 41 0) 0 42 0) 0 43 0) 0 44 0) 0 5 0) 0 4 0 := ⟨_, rfl⟩
  have f8 : ∀ q k, ¬ (q = 0 ∧ (k = 1 ∨ k = 4 ∨ k = 5 ∨ (40 ≤ k ∧ k ≤ 44))) → τ8 q k = τ q k := fun q k z => by rw [hτ8, mj_up_ne (by omega), mj_up_ne (by omega), mj_up_ne (by omega), mj_up_ne (by omega), mj_up_ne (by omega), mj_up_ne (by omega), mj_up_ne (by omega), mj_up_ne (by omega)]
  have t4 : τ8 0 4 = ((0 : Nat) : Int) := by rw [hτ8, mj_up_eq]; rfl
  have t5 : τ8 0 5 = 0 := by rw [hτ8, mj_up_ne (by omega), mj_up_eq]
  have t44 : τ8 0 44 = 0 := by rw [hτ8, mj_up_ne (by omega), mj_up_ne (by omega), mj_up_eq]
  have t43 : τ8 0 43 = 0 := by rw [hτ8, mj_up_ne (by omega), mj_up_ne (by omega), mj_up_ne (by omega), mj_up_eq]
  have t42 : τ8 0 42 = 0 := by rw [hτ8, mj_up_ne (by omega), mj_up_ne (by omega), mj_up_ne (by omega), mj_up_ne (by omega), mj_up_eq]
  have t41 : τ8 0 41 = 0 := by rw [hτ8, mj_up_ne (by omega), mj_up_ne (by omega), mj_up_ne (by omega), mj_up_ne (by omega), mj_up_ne (by omega), mj_up_eq]
  have t40 : τ8 0 40 = x := by rw [hτ8, mj_up_ne (by omega), mj_up_ne (by omega), mj_up_ne (by omega), mj_up_ne (by omega), mj_up_ne (by omega), mj_up_ne (by omega), mj_up_eq]
  have t1 : τ8 0 1 = 0 := by rw [hτ8, mj_up_ne (by omega), mj_up_ne (by omega), mj_up_ne (by omega), mj_up_ne (by omega), mj_up_ne (by omega), mj_up_ne (by omega), mj_up_ne (by omega), mj_up_eq]
  have e81 : τ8 1 = σ4 18 := by
    have a : τ8 1 = τ 1 := by funext k; exact f8 1 k (by omega)
    have b : σ4 18 = σ 18 := by funext k; exact f4 18 k (by omega)
    rw [a, b]; exact X.1.symm
  have start : ∀ (d' : Nat) (S : mj_Q), qh_m59_68 (d' + 51) S x (mj_up τ8 0 4 (z_sk (τ8 1) N (N - 0) false : Nat)) → mj_B mjm_L mjm_Ms (d' + 52) 59 [.inr (.inl 0), .inl x] τ S := by
    intro d' S hS
    refine wq_m59 (d := d' + 50) ⟨fun z => absurd z (by omega), fun _ => ⟨fun _ τ1 q1 => ⟨fun _ τ2 q2 τ3 q3 τ4 q4 τ5 q5 τ6 q6 τ7 q7 τ9 q9 => ?_, fun z => absurd z (by rw [q1, mj_up_eq]; decide)⟩, fun z => absurd z (by omega)⟩⟩
    have e9 : τ9 = τ8 := by rw [q9, q7, q6, q5, q4, q3, q2, q1, hτ8]
    rw [e9]
    refine t_m12 (d := d' + 49) (n := N) (a := 0) (by rw [f8 0 2 (by omega)]; exact x02) hN3 t4 (Nat.zero_le _) (fun i => by rw [f8 1 i (by omega), ← X.1]; exact (X.2.1 i).1) (fun τ' e' => ⟨rfl, ?_⟩)
    rw [e']
    exact hS
  clear hτ8
  have gg : ∀ q k, ¬ (q = 0 ∧ k = 4) → mj_up τ8 0 4 (z_sk (τ8 1) N (N - 0) false : Nat) q k = τ8 q k := fun q k z => mj_up_ne z
  have h04 : mj_up τ8 0 4 (z_sk (τ8 1) N (N - 0) false : Nat) 0 4 = (z_sk (σ4 18) N (N - 0) false : Nat) := by rw [mj_up_eq, e81]
  generalize mj_up τ8 0 4 (z_sk (τ8 1) N (N - 0) false : Nat) = τ9 at start gg h04
  have R4 : z_R (C + 400000) True σ4 τ9 := z_R_go R hx0 hx1 f4 (fun q k z => by rw [gg q k (by omega)]; exact f8 q k z) s84 s711 s712 s713 s08 (by rw [gg 0 40 (by omega)]; exact t40) (by rw [gg 0 41 (by omega)]; exact t41) (by rw [gg 0 42 (by omega)]; exact t42) (by rw [gg 0 43 (by omega)]; exact t43) (by rw [gg 0 44 (by omega)]; exact t44)
  refine wq_c5 (d := d + 49) (t_forms (C := C + 400000) (N := N) (d := d) (y := x) (GO := fun d' S => mj_B mjm_L mjm_Ms (d' + 52) 59 [.inr (.inl 0), .inl x] τ S) hN3 (by omega) (fun e lv' σ' τ' R' e5 e01 e0 e11 epl gs => ⟨e, rfl, ?_⟩) 300 0 rfl σ4 τ9 0 (z_R_mo R4 (by omega)) s08 (by rw [gg 0 5 (by omega)]; exact t5) (by rw [gg 0 1 (by omega)]; exact t1) (by rw [f4 3 3 (by omega)]; exact hN) s34 (Nat.le_refl _) (Nat.zero_le _) h04 start)
  clear gg h04 R4 f8 f4 s34 s08 start
  have X' := R'.1
  have hP' := R'.2.2.2.2.2.2.1
  have R2 : z_R (C + 406000) False σ' τ' := z_R_lv (z_R_mo R' (by omega)) (fun z => z.elim)
  have tx : ∀ (σ2 τ2 : mj_S), z_R (C + 406000) False σ2 τ2 → z_R (C + 406000) False (mj_up σ2 3 3 0) (mj_up τ2 0 2 0) := by
    intro σ2 τ2 R9
    have x9 := R9.1
    refine z_R_tx R9 ⟨?_, fun i => ?_, ?_, ?_, ?_⟩ (fun q k z => mj_up_ne (by omega)) (fun q k z => mj_up_ne (by omega))
    · funext k; rw [mj_up_ne (by omega), mj_up_ne (by omega), x9.1]
    · rw [mj_up_ne (by omega)]; exact x9.2.1 i
    · rw [mj_up_eq, mj_up_eq]
    · rw [mj_up_eq]; exact Int.le_refl _
    · rw [mj_up_eq]; decide
  refine wp_c35 (d := d + 50) (fun σ7 e7 => ⟨_, rfl, fun z => ?_, fun z => ?_⟩)
  · refine h e σ7 (mj_up τ' 0 2 0) (by rw [e7]; exact tx σ' τ' R2) (by rw [mj_up_ne (by omega)]; exact e01) (fun d' S hS => gs d' S (qw_m59_68 (d := d' + 50) ⟨fun w => absurd (by rw [e5, z]) w, fun _ => ⟨fun _ => ⟨fun _ τ1 q1 => ?_, fun w => absurd w (by omega)⟩, fun w => absurd (epl z) (by omega)⟩⟩))
    rw [q1, mj_up_ne (by omega), e5]
    exact hS
  · obtain ⟨v, ev⟩ : ∃ v : Nat, e = v := ⟨e.toNat, by omega⟩
    obtain ⟨l, l1, l2, l3, l4⟩ := t_num (v := v) (by omega)
    have p2 : 0 ≤ σ7 8 4 := by rw [e7, mj_up_ne (by omega)]; exact hP'.2.1
    have ge : ∀ (σ : mj_S) (c : Int), 0 ≤ σ 8 4 → 0 ≤ z_pp σ c 8 4 := fun σ c h => by
      unfold z_pp
      split
      · rw [mj_up_eq]; omega
      · exact h
    have geL : ∀ (l : List Int) (σ : mj_S), 0 ≤ σ 8 4 → 0 ≤ z_pcs σ l 8 4 := by
      intro l
      induction l with
      | nil => exact fun σ h => h
      | cons c l ihl => exact fun σ h => ihl (z_pp σ c) (ge σ c h)
    have gm : ∀ (τ : mj_S) (c : Int), 0 ≤ τ 0 44 ∧ τ 0 44 ≤ 400 → 0 ≤ z_pt τ c 0 44 ∧ z_pt τ c 0 44 ≤ 400 := fun τ c h => by
      unfold z_pt
      split
      · exact h
      · rw [mj_up_eq]; omega
    have gmL : ∀ (l : List Int) (τ : mj_S), 0 ≤ τ 0 44 ∧ τ 0 44 ≤ 400 → 0 ≤ z_pms τ l 0 44 ∧ z_pms τ l 0 44 ≤ 400 := by
      intro l
      induction l with
      | nil => exact fun τ h => h
      | cons c l ihl => exact fun τ h => ihl (z_pt τ c) (gm τ c h)
    have m44 : 0 ≤ τ' 0 44 ∧ τ' 0 44 ≤ 400 := by have := hP'.1; have := hP'.2.1; have := hP'.2.2.1; omega
    have hl : ∀ c, c ∈ 33 :: (l ++ [10]) → 0 ≤ c ∧ c ≤ 65535 := fun c hc => by
      simp at hc
      rcases hc with hc | hc | hc
      · omega
      · exact l2 c hc
      · omega
    obtain ⟨b1, _, _⟩ := z_P_l hP' hl
    have R3 : z_R (C + 406000) False (z_pcs σ' (33 :: (l ++ [10]))) (z_pms τ' (33 :: (l ++ [10]))) := z_R_pp R2 b1 (fun q k w => z_pcs_o w _ _) (fun q k w => z_pms_o w _ _)
    have et : z_pt (z_pms (z_pt τ' 33) l) 10 = z_pms τ' (33 :: (l ++ [10])) := by
      show _ = z_pms (z_pt τ' 33) (l ++ [10])
      rw [z_pms_a]
    refine wq_c114 (d := d + 49) ⟨p2, by constructor <;> decide, fun σ8 q8 => ?_⟩
    rw [ev]
    refine l3 (d + 48) _ σ8 (by rw [q8]; exact ge _ _ p2) ⟨rfl, ?_, by constructor <;> decide, fun σ9 q9 => ⟨rfl, ?_⟩⟩
    · exact geL l σ8 (by rw [q8]; exact ge _ _ p2)
    · rw [← ev]
      have eσ : σ9 = mj_up (z_pcs σ' (33 :: (l ++ [10]))) 3 3 0 := by
        have e9 : σ9 = z_pcs σ7 (33 :: (l ++ [10])) := by
          rw [q9, q8]
          show _ = z_pcs (z_pp σ7 33) (l ++ [10])
          rw [z_pcs_a]
        rw [e9, e7]
        exact z_pcs_up _ _
      rw [eσ]
      refine h e _ (mj_up (z_pms τ' (33 :: (l ++ [10]))) 0 2 0) (tx _ _ R3) (by rw [mj_up_ne (by omega), z_pms_o (by omega)]; exact e01) (fun d' S hS => gs d' S (qw_m59_68 (d := d' + 50) ⟨fun _ => ⟨fun w => absurd w (by omega), fun _ => ⟨m44.1, m44.2, fun τ1 q1 => ?_⟩⟩, fun w => absurd w (by omega)⟩))
      have e15 : τ1 0 5 = (v : Int) := by rw [q1, z_pt_o (by omega), e5]; exact ev
      have n1 := gm τ' 33 m44
      rw [← q1] at n1
      rw [e15]
      have n4 := gmL l τ1 n1
      refine l4 (d' + 49) _ τ1 n1.1 n1.2 ⟨rfl, n4.1, n4.2, fun τ4 q4 τ5 q5 => ?_⟩
      have e45 : τ4 = z_pms τ' (33 :: (l ++ [10])) := by rw [q4, q1, et]
      rw [q5, e45, mj_up_ne (by omega), z_pms_o (by omega), e5]
      exact hS
