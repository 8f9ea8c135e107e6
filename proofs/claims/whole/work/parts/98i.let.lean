/-! let -/
theorem l_step1 {τ : mj_S} {m : Nat} {r : Int} (h26 : τ 0 26 = (m : Int) + 1) (hm : m + 3 < 3000) (h5 : τ 0 5 = 0) (hw : τ 16 m = 2) (hx : τ 17 m = r) (hn : τ 18 m = 1) (hr : z_pr r) (hc : z_pr (z_cd (τ 4) r)) (hc2 : z_pr (z_cd (τ 5) (z_cd (τ 4) r))) : z_gl τ (z_l1 (z_l1 (mj_up τ 0 26 (m : Int)) m 2 (z_cd (τ 5) r) 1 0) (m + 1) 16 (z_el (τ 4) (τ 5) (z_cd (τ 4) r) 1) 0 0) := fun d Q y h => by
  refine l_go h26 (by omega) h5 (fun c => absurd c (by omega)) (fun c => absurd c (by omega)) (fun c => absurd c (by omega)) (fun _ c => absurd c (by omega)) (fun _ _ => ⟨hm, by rw [hx]; exact hr, Or.inr ⟨by rw [hx]; exact hc, by rw [hx]; exact hc2, Or.inl hn⟩, fun c => absurd c (by omega), fun _ => ?_, fun c => absurd c (by omega)⟩) (Or.inr (Or.inr (Or.inr hw)))
  rw [hx]; exact h
set_option maxHeartbeats 1000000 in
theorem mk_binds {k K0 : Nat} (ih : z_MFd k (K0 + 2)) {σ0 τ0 : mj_S} {Q : mj_Q} {A B : Nat → Int} {a pl y : Int} {tl : Bool} {lv m n len0 st c bnd : Nat} {E : List (Int × Int)} (hA : A = σ0 11) (hB : B = σ0 12) (hst : st ≤ 400) (hSE : z_SE st σ0 τ0) (hlv : lv + k ≤ 12) (hpl : 0 ≤ pl) (hm : m + 8 * k + 12 ≤ 3000) (hbnd : bnd ≤ 2400) (hc4 : c ≤ 400) (hy : z_isl B y c) (hcp : z_cpl A B y c)
    (hok : ∀ (σ' τ' : mj_S) (len' : Nat), z_Fc len0 n σ0 σ' → z_Fm m n τ0 τ' → z_MK σ' τ' E n → σ' 4 3 = len' → len' ≤ bnd → z_sq A B (z_Kc σ') k E (fun i => z_el A B (z_el A B y i) 1) pl c len0 len' → τ' 0 26 = m → τ' 0 5 = 0 → z_gl τ0 τ' → qh_c77_116 (K0 + 2) Q a pl (z_bo tl) (lv : Int) y (c : Int) (σ' 5 4) 0 σ')
    (hbad : ∀ (e : Int) (σ' τ' : mj_S), z_Fc len0 n σ0 σ' → z_Fm m n τ0 τ' → len0 ≤ σ' 4 3 → σ' 4 3 ≤ 2400 → τ' 0 5 = e → (e = 1 ∨ e = 2 ∨ e = 4) → z_gl τ0 τ' → Q (some (.inl e)) σ') :
    ∀ (j i : Nat) (σ τ : mj_S) (s len : Nat), i + j = c → z_Fc len0 n σ0 σ → z_Fm m n τ0 τ → z_MK σ τ E n → σ 4 3 = len → z_sq A B (z_Kc σ) k E (fun i => z_el A B (z_el A B y i) 1) pl i len0 len → z_isl B (z_nth B y i) j → z_D A B 536870912 0 st k s (z_nth B y i) → len + 3 * s ≤ bnd → pl + (i : Int) + s ≤ 1000 → n + s ≤ 400 → τ 0 26 = (m : Int) + 1 → τ 16 m = 2 → τ 17 m = z_nth B y i → τ 18 m = 1 → τ 0 5 = 0 → z_gl τ0 τ → qh_c77_54 (K0 + 2) Q a pl (z_bo tl) (lv : Int) y (c : Int) (i : Int) σ := by
  intro j
  induction j with
  | zero =>
    intro i σ τ s len hij f1 f2 f3 f4 f5 f6 f7 f9 f10 f11 h26 h16 h17 h18 h5 gl
    have hic : i = c := by omega
    subst hic
    have hr := z_isl_0 f6
    refine qw_c77_54 (d := K0) ⟨fun _ => hok σ (mj_up τ 0 26 (m : Int)) len f1 (z_Fm_tr (Nat.le_refl _) (Nat.le_refl _) f2 z_pop) (z_MK_F f3 (z_Fc_rf len n σ) z_pop f3.1 (by rw [mj_up_ne (by omega)]; exact f3.2.2.1)) f4 (by omega) f5 mj_up_eq (by rw [mj_up_ne (by omega)]; exact h5) (z_gl_tr gl (l_nil h26 (by omega) h5 h16 h17 (by omega))), fun q => absurd q (by omega)⟩
  | succ j ihj =>
    intro i σ τ s len hij f1 f2 f3 f4 f5 f6 f7 f9 f10 f11 h26 h16 h17 h18 h5 gl
    generalize hrr : z_nth B y i = r at f6 f7 h17
    obtain ⟨hr, hl2⟩ := z_isl_t f6
    obtain ⟨k', p, s1, s2, g1, g2, g3, g4, g5, g6, g7⟩ := z_D_p (by decide) f7 hr.1
    have hcl : z_isl B (z_cd A r) 2 := by have := hcp i (by omega); unfold z_el at this; rw [hrr] at this; exact this
    obtain ⟨c0, l0⟩ := z_isl_t hcl
    obtain ⟨c1, l1⟩ := z_isl_t l0
    obtain ⟨k0, p0, s0, t0, i1, i2, i3, i4, i5, i6, i7⟩ := z_D_p (by decide) g6 c0.1
    obtain ⟨k1, p1, s3, t1, j1, j2, j3, j4, j5, j6, j7⟩ := z_D_p (by decide) i7 c1.1
    have eA : σ 11 = A := by funext x; rw [hA]; exact f1.1 11 x (by omega)
    have eB : σ 12 = B := by funext x; rw [hB]; exact f1.1 12 x (by omega)
    have hSE1 := z_SE_F hSE f1 f2
    obtain ⟨q1, q2⟩ := z_SE_cd hSE1 (x := r) (by omega)
    rw [eA] at q1
    rw [eB] at q2
    obtain ⟨u1, u2⟩ := z_SE_cd hSE1 (x := z_cd A r) (by omega)
    rw [eB] at u2
    obtain ⟨w1, w2⟩ := z_SE_cd hSE1 (x := z_cd B (z_cd A r)) (by omega)
    rw [eA] at w1
    have hD1 : z_D A B 536870912 0 st k s3 (z_cd A (z_cd B (z_cd A r))) := z_D_mono (Int.le_refl _) (Nat.le_refl _) (by omega) (by omega) j6
    have glz := l_step1 h26 (by omega) h5 h16 h17 h18 (by omega) (by rw [q1]; omega) (by rw [q1, u2]; omega)
    have eel : z_el (τ 4) (τ 5) (z_cd A r) 1 = z_cd A (z_cd B (z_cd A r)) := by
      show z_cd (τ 4) (z_cd (τ 5) (z_cd A r)) = _
      rw [u2, w1]
    rw [q1, q2, eel] at glz
    generalize hτ : z_l1 (z_l1 (mj_up τ 0 26 (m : Int)) m 2 (z_cd B r) 1 0) (m + 1) 16 (z_cd A (z_cd B (z_cd A r))) 0 0 = τ2 at glz
    have o : ∀ q j, ¬ ((16 ≤ q ∧ q ≤ 19 ∧ (j = m ∨ j = m + 1)) ∨ (q = 0 ∧ j = 26)) → τ2 q j = τ q j := fun q j c => by
      rw [← hτ, z_l1_o (by omega), z_l1_o (by omega), mj_up_ne (by omega)]
    have F2 : z_Fm m n τ τ2 := ⟨fun q j c => o q j (by omega), fun i hi => ⟨o 16 i (by omega), o 17 i (by omega), o 18 i (by omega), o 19 i (by omega)⟩, fun i hi => ⟨o 21 i (by omega), o 22 i (by omega)⟩⟩
    have v1 : τ2 16 (m + 1) = 16 ∧ τ2 17 (m + 1) = z_cd A (z_cd B (z_cd A r)) ∧ τ2 0 26 = ((m + 1 : Nat) : Int) + 1 := by
      rw [← hτ]
      obtain ⟨a, b, _, _, c⟩ := @z_l1_v (z_l1 (mj_up τ 0 26 (m : Int)) m 2 (z_cd B r) 1 0) (m + 1) 16 (z_cd A (z_cd B (z_cd A r))) 0 0
      exact ⟨a, b, by rw [c]; omega⟩
    have v0 : τ2 16 m = 2 ∧ τ2 17 m = z_cd B r ∧ τ2 18 m = 1 := by
      rw [← hτ]
      obtain ⟨a, b, c, _, _⟩ := @z_l1_v (mj_up τ 0 26 (m : Int)) m 2 (z_cd B r) 1 0
      refine ⟨?_, ?_, ?_⟩
      · rw [z_l1_o (by omega)]; exact a
      · rw [z_l1_o (by omega)]; exact b
      · rw [z_l1_o (by omega)]; exact c
    have MK2 : z_MK σ τ2 E n := z_MK_F f3 (z_Fc_rf len n σ) F2 f3.1 (by rw [o 0 33 (by omega)]; exact f3.2.2.1)
    have hle := z_sq_le f5
    refine qw_c77_54 (d := K0) ⟨fun q => absurd q (by omega), fun _ => t_c22 (d := K0) (k := i) (by omega) (fun t ht => ?_) ⟨_, rfl, t_c22 (d := K0) (k := 1) (by decide) (fun t ht => ?_) ⟨_, rfl, by unfold mj_r; omega, ?_⟩⟩⟩
    · rw [eB]
      have := hy.1.1 t (by omega)
      omega
    · have ez : z_el (σ 11) (σ 12) y i = z_cd A r := by rw [eA, eB]; show z_cd A (z_nth B y i) = _; rw [hrr]
      rw [ez, eB]
      match t, ht with
      | 0, _ => show z_dr (z_cd A r); omega
      | 1, _ => show z_dr (z_cd B (z_cd A r)); omega
    · have ez : z_el (σ 11) (σ 12) (z_el (σ 11) (σ 12) y i) 1 = z_cd A (z_cd B (z_cd A r)) := by rw [eA, eB]; show z_cd A (z_cd B (z_cd A (z_nth B y i))) = _; rw [hrr]
      rw [ez]
      refine ih σ τ2 _ _ (pl + (i : Int)) false lv s3 (m + 1) n len st E hst (z_SE_F hSE1 (z_Fc_rf len n σ) F2) (by rw [eA, eB]; exact hD1) hlv (by omega) (by omega) MK2 (by omega) f4 (by omega) v1.2.2 (by omega) v1.1 v1.2.1 (by rw [o 0 5 (by omega)]; exact h5) (fun σ' τ' len' k1 k2 k3 k4 k5 k6 k7 k8 k9 => ?_) (fun er σ' τ' k1 k2 k3 k4 k5 k6 k7 => ⟨_, rfl, fun q => absurd q (by omega), fun _ => hbad er σ' τ' (z_Fc_tr hle (Nat.le_refl _) f1 k1) (z_Fm_tr (by omega) (Nat.le_refl _) (z_Fm_tr (Nat.le_refl _) (Nat.le_refl _) f2 F2) k2) (by omega) k4 k5 k6 (z_gl_tr (z_gl_tr gl glz) k7)⟩)
      rw [eA, eB] at k6
      have k0' := k2.2.1 m (by omega)
      refine ⟨_, rfl, fun _ => ⟨by unfold mj_r; omega, ?_⟩, fun q => absurd rfl q⟩
      rw [show ((i : Int) + 1) = ((i + 1 : Nat) : Int) by omega]
      have en : z_nth B y (i + 1) = z_cd B r := by show z_cd B (z_nth B y i) = _; rw [hrr]
      refine ihj (i + 1) σ' τ' s2 len' (by omega) (z_Fc_tr hle (Nat.le_refl _) f1 k1) (z_Fm_tr (by omega) (Nat.le_refl _) (z_Fm_tr (Nat.le_refl _) (Nat.le_refl _) f2 F2) k2) k3 k4 (z_sq_s (z_sq_frame (z_Fc_K k1 (Nat.le_refl _)) f5) ?_) (by rw [en]; exact hl2) (by rw [en]; exact g7) (by omega) (by omega) (by omega) (by rw [k7]; omega) (by rw [k0'.1]; exact v0.1) (by rw [k0'.2.1, en]; exact v0.2.1) (by rw [k0'.2.2.1]; exact v0.2.2) k8 (z_gl_tr (z_gl_tr gl glz) k9)
      show z_C A B (z_Kc σ') k E (z_cd A (z_cd B (z_cd A (z_nth B y i)))) (pl + (i : Int)) false len len'
      rw [hrr]; exact k6
/-- names that become known -/
def z_ks (σ : mj_S) (n : Nat) (nm : Nat → Int) (pl : Int) : Nat → mj_S
  | 0 => σ
  | i + 1 => mj_up (mj_up (mj_up (z_ks σ n nm pl i) 22 (n + i) (nm i)) 23 (n + i) (pl + (i : Int))) 5 4 ((n + i : Nat) + 1)
theorem z_ks_o {σ : mj_S} {n : Nat} {nm : Nat → Int} {pl : Int} {q k : Nat} : ∀ {c : Nat}, ¬ (((q = 22 ∨ q = 23) ∧ n ≤ k ∧ k < n + c) ∨ (q = 5 ∧ k = 4)) → z_ks σ n nm pl c q k = σ q k
  | 0, _ => rfl
  | c + 1, h => by
    unfold z_ks
    rw [mj_up_ne (by omega), mj_up_ne (by omega), mj_up_ne (by omega), z_ks_o (by omega)]
theorem z_ks_54 {σ : mj_S} {n : Nat} {nm : Nat → Int} {pl : Int} (h : σ 5 4 = n) : ∀ c : Nat, z_ks σ n nm pl c 5 4 = ((n + c : Nat) : Int)
  | 0 => h
  | c + 1 => by unfold z_ks; rw [mj_up_eq]; omega
theorem z_ks_v {σ : mj_S} {n : Nat} {nm : Nat → Int} {pl : Int} : ∀ {c i : Nat}, i < c → z_ks σ n nm pl c 22 (n + i) = nm i ∧ z_ks σ n nm pl c 23 (n + i) = pl + (i : Int)
  | 0, i, h => absurd h (Nat.not_lt_zero i)
  | c + 1, i, h => by
    unfold z_ks
    by_cases e : i = c
    · rw [e]
      refine ⟨?_, ?_⟩
      · rw [mj_up_ne (by omega), mj_up_ne (by omega), mj_up_eq]
      · rw [mj_up_ne (by omega), mj_up_eq]
    · obtain ⟨g1, g2⟩ := z_ks_v (σ := σ) (n := n) (nm := nm) (pl := pl) (c := c) (i := i) (by omega)
      refine ⟨?_, ?_⟩
      · rw [mj_up_ne (by omega), mj_up_ne (by omega), mj_up_ne (by omega), g1]
      · rw [mj_up_ne (by omega), mj_up_ne (by omega), mj_up_ne (by omega), g2]
/-- names and places together, whatever rows hold them -/
theorem z_ev_bd {V P : Nat → Int} {base bg n : Nat} {nm : Nat → Int} {pl : Int} {E : List (Int × Int)} (h : z_ev V P base bg E n) : ∀ {c : Nat}, (∀ i, i < c → V (n + i) = nm i ∧ P (n + i) = (base : Int) + (pl + (i : Int))) → z_ev V P base bg (z_bd nm pl c E) (n + c)
  | 0, _ => h
  | c + 1, hv => ⟨n + c, rfl, (hv c (by omega)).1, (hv c (by omega)).2, z_ev_bd h (fun i hi => hv i (by omega))⟩
theorem z_kn_1 {σ : mj_S} {n : Nat} {a b : Int} (h : σ 5 4 = n) (hn : n < 400) : z_kn σ a b = mj_up (mj_up (mj_up σ 22 n a) 23 n b) 5 4 ((n : Int) + 1) := by
  unfold z_kn
  rw [if_pos (by omega), h, Int.toNat_natCast]
theorem mk_know {K0 : Nat} {σ : mj_S} {Q : mj_Q} {A B : Nat → Int} {a pl y : Int} {tl : Bool} {lv n c : Nat} {y7 : Int} (eA : σ 11 = A) (eB : σ 12 = B) (hpl : 0 ≤ pl) (hpl2 : pl + (c : Int) ≤ 1000) (hn : σ 5 4 = n) (hnc : n + c ≤ 400) (hy : z_isl B y c) (hcp : z_cpl A B y c) {nm : Nat → Int} (hnm : ∀ i, nm i = z_el A B (z_el A B y i) 0)
    (h : qh_c77_116 (K0 + 2) Q a pl (z_bo tl) (lv : Int) y (c : Int) y7 (c : Int) (z_ks σ n nm pl c)) : ∀ (j i : Nat), i + j = c → qh_c77_116 (K0 + 2) Q a pl (z_bo tl) (lv : Int) y (c : Int) y7 (i : Int) (z_ks σ n nm pl i)
  | 0, i, hij => by
    have : i = c := by omega
    rw [this]; exact h
  | j + 1, i, hij => by
    have o11 : z_ks σ n nm pl i 11 = A := by funext q; rw [z_ks_o (by omega), eA]
    have o12 : z_ks σ n nm pl i 12 = B := by funext q; rw [z_ks_o (by omega), eB]
    obtain ⟨c0, _⟩ := z_isl_t (hcp i (by omega))
    refine qw_c77_116 (d := K0) ⟨fun q => absurd q (by omega), fun _ => t_c22 (d := K0) (k := i) (by omega) (fun t ht => ?_) ⟨_, rfl, ?_⟩⟩
    · rw [o12]
      have := hy.1.1 t (by omega)
      omega
    · rw [o11, o12, z_ks_54 hn]
      refine ⟨by omega, by unfold mj_r; omega, by omega, fun σ9 e9 => ⟨by unfold mj_r; omega, ?_⟩⟩
      have e9' : σ9 = z_ks σ n nm pl (i + 1) := by
        rw [e9, z_kn_1 (z_ks_54 hn i) (by omega)]
        show _ = mj_up (mj_up (mj_up (z_ks σ n nm pl i) 22 (n + i) (nm i)) 23 (n + i) (pl + (i : Int))) 5 4 ((n + i : Nat) + 1)
        rw [show nm i = z_cd A (z_el A B y i) from hnm i]
      rw [e9', show ((i : Int) + 1) = ((i + 1 : Nat) : Int) by omega]
      exact mk_know eA eB hpl hpl2 hn hnc hy hcp hnm h j (i + 1) (by omega)
theorem t_m28' {d : Nat} {Q : mj_Q} {τ : mj_S} {x : Int} {c v : Nat} (hl : z_len (τ 5) x c) (hv : τ 0 33 = v) (hc : v + c ≤ 400) (hpr : ∀ i, i < c → z_pr (z_el (τ 4) (τ 5) x i)) {nm : Nat → Int} (hnm : ∀ i, i < c → nm i = z_el (τ 4) (τ 5) (z_el (τ 4) (τ 5) x i) 0) (h : Q none (z_bs τ v nm (fun _ => 0) c)) : mj_B mjm_L mjm_Ms (d + 2) 28 [.inr (.inl 0), .inl x] τ Q := by
  have b4 : ∀ i, z_bs τ v nm (fun _ => 0) i 4 = τ 4 := fun i => by funext k; exact z_bs_o (by omega)
  have b5 : ∀ i, z_bs τ v nm (fun _ => 0) i 5 = τ 5 := fun i => by funext k; exact z_bs_o (by omega)
  have go : ∀ m i, i + m = c → qh_m28_2 (d + 1) Q x (z_nth (τ 5) x i) (z_bs τ v nm (fun _ => 0) i) := by
    intro m
    induction m with
    | zero =>
      intro i hi
      have hin : i = c := by omega
      subst hin
      have := hl.2
      exact qw_m28_2 ⟨fun _ => h, fun c => absurd c (by omega)⟩
    | succ m ih =>
      intro i hi
      have g1 := hl.1 i (by omega)
      have g2 := hpr i (by omega)
      refine qw_m28_2 ⟨fun c => absurd g1.1 c, fun _ => ?_⟩
      rw [b4, z_bs_33 hv]
      refine ⟨by omega, g2, by omega, by omega, fun σ1 e1 => ⟨by omega, ?_⟩⟩
      have e1' : σ1 = z_bs τ v nm (fun _ => 0) (i + 1) := by
        rw [e1, z_bi_1 (v := v + i) (z_bs_33 hv i)]
        show _ = mj_up (mj_up (mj_up (z_bs τ v nm (fun _ => 0) i) 21 (v + i) (nm i)) 22 (v + i) 0) 0 33 ((v + i : Nat) + 1)
        rw [show nm i = z_cd (τ 4) (z_cd (τ 4) (z_nth (τ 5) x i)) from hnm i (by omega)]
      rw [e1', b5]
      exact ih (i + 1) (by omega)
  exact wq_m28 (go c 0 (by omega))
theorem z_D_ll {A B : Nat → Int} {w : Int} {lo b k s n : Nat} {x : Int} (hw : w ≤ 536870912) (hs : s ≤ 400) (h : z_D A B w lo b k s x) (hl : z_len B x n) : z_ll A B x n ∧ ∀ i, i < n → z_dr (z_el A B x i) := by
  have h0 : z_D A B w 0 b k s x := z_D_mono (Int.le_refl _) (Nat.zero_le _) (Nat.le_refl _) (Nat.le_refl _) h
  have g := (z_D_els (A' := A) (B' := B) hw (fun _ _ _ => ⟨rfl, rfl⟩) n h0 hl).2
  refine ⟨fun i hi => ?_, fun i hi => ?_⟩
  · obtain ⟨_, k', s', _, h2, h3⟩ := g i hi
    obtain ⟨m, h4, h5⟩ := z_D_len hw s' h3
    exact ⟨m, by omega, h4⟩
  · obtain ⟨_, k', s', _, h2, h3⟩ := g i hi
    have := z_D_r hw h3
    omega
set_option maxHeartbeats 2000000 in
theorem mk_let {k K0 : Nat} (ih : z_MFd k (K0 + 3)) {σ τ : mj_S} {Q : mj_Q} {A B : Nat → Int} {a pl : Int} {tl : Bool} {lv s m n len st c : Nat} {E : List (Int × Int)} (hA : σ 11 = A) (hB : σ 12 = B) (hst : st ≤ 400) (hSE : z_SE st σ τ) (hD : z_D A B 536870912 0 st (k + 1) s a) (hl : z_isl B a 2) (hlv : lv + k ≤ 12) (hpl : 0 ≤ pl) (hpl2 : pl + s ≤ 1000) (hMK : z_MK σ τ E n) (hn : n + s ≤ 400) (hlen : σ 4 3 = len) (hl2 : len + 3 * s + 2 ≤ 2400) (hm : m + 8 * k + 16 ≤ 3000)
    {nm : Nat → Int} (hnm : ∀ i, nm i = z_el A B (z_el A B (z_cd A a) i) 0) (hlc : z_len B (z_cd A a) c)
    (hwrong : ¬ (z_nth B (z_cd A a) c = 268435456 ∧ z_cpl A B (z_cd A a) c ∧ z_vs nm c) → Q (some (.inl 1)) σ)
    (h4 : z_nth B (z_cd A a) c = 268435456 → z_cpl A B (z_cd A a) c → z_vs nm c → ∃ τ4, z_Fm m n τ τ4 ∧ z_gl τ τ4 ∧ τ4 0 26 = ((m + 4 : Nat) : Int) ∧ τ4 0 5 = 0 ∧ τ4 0 33 = n ∧ (τ4 16 m = 18 ∧ τ4 18 m = (c : Int)) ∧ (τ4 16 (m + 1) = 16 ∧ τ4 17 (m + 1) = z_el A B a 1) ∧ (τ4 16 (m + 2) = 17 ∧ τ4 17 (m + 2) = z_cd A a) ∧ (τ4 16 (m + 3) = 2 ∧ τ4 17 (m + 3) = z_cd A a ∧ τ4 18 (m + 3) = 1))
    (hok : ∀ (σ' τ' : mj_S) (len1 len3 : Nat), z_Fc len n σ σ' → z_Fm m n τ τ' → z_MK σ' τ' E n → σ' 4 3 = ((len3 + 1 : Nat) : Int) → len3 + 1 ≤ len + 3 * s + 2 → z_isl B (z_cd A a) c → z_cpl A B (z_cd A a) c → z_sq A B (z_Kc σ') k E (fun i => z_el A B (z_el A B (z_cd A a) i) 1) pl c len len1 → z_C A B (z_Kc σ') k (z_bd nm pl c E) (z_el A B a 1) (pl + (c : Int)) tl len1 len3 → z_in (z_Kc σ') len3 8 (c : Int) 0 → τ' 0 26 = m → τ' 0 5 = 0 → z_gl τ τ' → Q (some (.inl 0)) σ')
    (hbad : ∀ (e : Int) (σ' τ' : mj_S), z_Fc len n σ σ' → z_Fm m n τ τ' → len ≤ σ' 4 3 → σ' 4 3 ≤ 2400 → τ' 0 5 = e → (e = 1 ∨ e = 2 ∨ e = 4) → z_gl τ τ' → Q (some (.inl e)) σ') : mj_B mjc_L mjc_Ms (K0 + 4) 77 [.inr (.inl 5), .inl a, .inl pl, .inl (z_bo tl), .inl (lv : Int)] σ Q := by
  obtain ⟨r0, l0⟩ := z_isl_t hl
  obtain ⟨r1, l1⟩ := z_isl_t l0
  obtain ⟨k0, p0, sy, t0, g1, g2, g3, g4, g5, g6, g7⟩ := z_D_p (by decide) hD r0.1
  obtain ⟨k1, p1, sb, t1, i1, i2, i3, i4, i5, i6, i7⟩ := z_D_p (by decide) g7 r1.1
  have e0 : k0 = k := by omega
  have e1 : k1 = k := by omega
  subst e0
  rw [e1] at i6
  have Dy : z_D A B 536870912 0 st k0 sy (z_cd A a) := z_D_mono (Int.le_refl _) (Nat.le_refl _) (by omega) (Nat.le_refl _) g6
  have Db : z_D A B 536870912 0 st k0 sb (z_cd A (z_cd B a)) := z_D_mono (Int.le_refl _) (Nat.le_refl _) (by omega) (Nat.le_refl _) i6
  obtain ⟨cn, cn1, cn2⟩ := z_D_len (by decide) sy Dy
  have hcs : c ≤ sy := by have := z_len_un cn1 hlc; omega
  obtain ⟨ll, dr⟩ := z_D_ll (by decide) (by omega) Dy hlc
  refine wq_c77 (d := K0 + 1) ⟨by omega, ?_⟩
  rw [hA]
  refine t_c23 (d := K0 + 1) (n := c) (by rw [hB]; exact hlc) (by omega) ⟨_, rfl, fun q => ?_, fun q => ?_⟩
  · refine hwrong (fun z => ?_)
    rw [hB] at q
    unfold z_ln at q
    rw [if_pos z.1] at q
    omega
  have hnil : z_nth B (z_cd A a) c = 268435456 := by
    by_cases z : z_nth B (z_cd A a) c = 268435456
    · exact z
    · rw [hB] at q
      unfold z_ln at q
      rw [if_neg z] at q
      omega
  have hln : z_ln (σ 12) (z_cd A a) c = (c : Int) := by rw [hB]; unfold z_ln; rw [if_pos hnil]
  rw [hln]
  refine t_c78 (d := K0) (n := c) (by rw [hB]; exact hlc) (by omega) (by rw [hA, hB]; exact ll) (fun hc => ⟨_, rfl, fun q => absurd q (by decide), fun _ => ?_⟩) (fun hc => ⟨_, rfl, fun _ => hwrong (fun z => hc (by rw [hA, hB]; exact z.2.1)), fun q => absurd rfl q⟩)
  rw [hA, hB] at hc
  refine t_c64 (d := K0) (n := c) (by rw [hB]; exact hlc) (by omega) (by rw [hA, hB]; exact dr) (nm := nm) (fun i => ?_) (fun hv => ⟨_, rfl, fun _ => ?_, fun q => absurd q (by decide)⟩) (fun hv => ⟨_, rfl, fun q => absurd rfl q, fun _ => hwrong (fun z => hv z.2.2)⟩)
  · rw [hA, hB, hnm i]
    unfold z_ni
    rw [if_neg (by decide), hA]
    rfl
  obtain ⟨τ4, m1, m2, m3, m4, m5, ⟨m6, m6'⟩, ⟨m7, m7'⟩, ⟨m8, m8'⟩, m9, m9', m9''⟩ := h4 hnil hc hv
  have hy : z_isl B (z_cd A a) c := ⟨hlc, hnil⟩
  have MK4 : z_MK σ τ4 E n := z_MK_F hMK (z_Fc_rf len n σ) m1 hMK.1 m5
  have hb400 : len + 3 * sy ≤ 2400 := by omega
  refine mk_binds (K0 := K0 + 1) (m := m + 3) (bnd := len + 3 * sy) (A := A) (B := B) ih hA.symm hB.symm hst (z_SE_F hSE (z_Fc_rf len n σ) m1) hlv hpl (by omega) hb400 (by omega) hy hc (fun σ1 τ1 len1 a1 a2 a3 a4 a5 a6 a7 a8 a9 => ?_) (fun er σ1 τ1 a1 a2 a3 a4 a5 a6 a7 => hbad er σ1 τ1 a1 (z_Fm_tr (by omega) (Nat.le_refl _) m1 a2) a3 a4 a5 a6 (z_gl_tr m2 a7)) c 0 σ τ4 sy len (by omega) (z_Fc_rf len n σ) (z_Fm_rf (m + 3) n τ4) MK4 hlen z_sq_0 hy Dy (by omega) (by omega) (by omega) (by rw [m3]; omega) m9 m9' m9'' m4 (fun _ _ _ h => h)
  -- the names become known to both
  have q11 : σ1 11 = A := by funext i; rw [a1.1 11 i (by omega), hA]
  have q12 : σ1 12 = B := by funext i; rw [a1.1 12 i (by omega), hB]
  have ll1 := z_sq_le a6
  have M1 : z_Fm m n τ τ1 := z_Fm_tr (by omega) (Nat.le_refl _) m1 a2
  have SE1 := z_SE_F hSE a1 M1
  obtain ⟨b21, b22⟩ := a2.2.1 (m + 2) (by omega)
  have b11 := a2.2.1 (m + 1) (by omega)
  have b00 := a2.2.1 m (by omega)
  have t4e : ∀ i, i < c → z_el (τ1 4) (τ1 5) (z_cd A a) i = z_el A B (z_cd A a) i ∧ z_pr (z_el A B (z_cd A a) i) ∧ z_el (τ1 4) (τ1 5) (z_el A B (z_cd A a) i) 0 = nm i := fun i hi => by
    have Dy' : z_D (σ1 11) (σ1 12) 536870912 0 st k0 sy (z_cd A a) := by rw [q11, q12]; exact Dy
    have gg := (z_D_els (A' := τ1 4) (B' := τ1 5) (by decide) (fun i h1 _ => SE1 i h1) c Dy' (by rw [q12]; exact hlc)).2 i hi
    rw [q11, q12] at gg
    obtain ⟨h1, k', s', _, h2, h3⟩ := gg
    obtain ⟨cc, _⟩ := z_isl_t (hc i hi)
    refine ⟨h1, by omega, ?_⟩
    obtain ⟨k2, p2, s2, t2, _, j2, j3, _⟩ := z_D_p (by decide) h3 cc.1
    rw [hnm i]
    show z_cd (τ1 4) (z_el A B (z_cd A a) i) = z_cd A (z_el A B (z_cd A a) i)
    rw [(z_SE_cd SE1 (x := z_el A B (z_cd A a) i) (by omega)).1, q11]
  have lc5 : z_len (τ1 5) (z_cd A a) c := by
    have Dy' : z_D (σ1 11) (σ1 12) 536870912 0 st k0 sy (z_cd A a) := by rw [q11, q12]; exact Dy
    exact (z_D_isl (A' := τ1 4) (B' := τ1 5) (by decide) (fun i h1 _ => SE1 i h1) Dy' (by rw [q12]; exact hy)).1
  generalize hτB : z_bs (mj_up τ1 0 26 ((m + 2 : Nat) : Int)) n nm (fun _ => 0) c = τB
  have glB : z_gl τ1 τB := fun d' Q' y' h' => by
    refine l_go (m := m + 2) (by rw [a7]; omega) (by omega) a8 (fun z => absurd z (by rw [b21, m8]; decide)) (fun z => absurd z (by rw [b21, m8]; decide)) (fun _ => ?_) (fun z => absurd z (by rw [b21, m8]; decide)) (fun z => absurd z (by rw [b21, m8]; decide)) (Or.inr (Or.inr (Or.inl (by rw [b21]; exact m8))))
    rw [b22.1, m8']
    have w4 : mj_up τ1 0 26 ((m + 2 : Nat) : Int) 4 = τ1 4 := z_rq _ _ _ _ _ (by decide)
    have w5 : mj_up τ1 0 26 ((m + 2 : Nat) : Int) 5 = τ1 5 := z_rq _ _ _ _ _ (by decide)
    refine t_m28' (d := d' + 18) (c := c) (v := n) (by rw [w5]; exact lc5) (by rw [mj_up_ne (by omega)]; exact a3.2.2.1) (by omega) (fun i hi => by rw [w4, w5, (t4e i hi).1]; exact (t4e i hi).2.1) (nm := nm) (fun i hi => by rw [w4, w5, (t4e i hi).1, (t4e i hi).2.2]) ⟨rfl, ?_⟩
    rw [hτB]; exact h'
  have oB : ∀ q j, ¬ (((q = 21 ∨ q = 22) ∧ n ≤ j ∧ j < n + c) ∨ (q = 0 ∧ (j = 33 ∨ j = 26))) → τB q j = τ1 q j := fun q j z => by
    rw [← hτB, z_bs_o (by omega), mj_up_ne (by omega)]
  have FB : z_Fm (m + 3) n τ1 τB := ⟨fun q j z => oB q j (by omega), fun i hi => ⟨oB 16 i (by omega), oB 17 i (by omega), oB 18 i (by omega), oB 19 i (by omega)⟩, fun i hi => ⟨oB 21 i (by omega), oB 22 i (by omega)⟩⟩
  have B33 : τB 0 33 = ((n + c : Nat) : Int) := by rw [← hτB]; exact z_bs_33 (by rw [mj_up_ne (by omega)]; exact a3.2.2.1) c
  have B26 : τB 0 26 = ((m + 1 : Nat) : Int) + 1 := by rw [← hτB, z_bs_o (by omega), mj_up_eq]; omega
  have hKs : ∀ i, z_Fc len1 n σ1 (z_ks σ1 n nm pl i) := fun i => ⟨fun q j z => z_ks_o (by omega), fun j hj => ⟨z_ks_o (by omega), z_ks_o (by omega), z_ks_o (by omega)⟩, fun j hj => ⟨z_ks_o (by omega), z_ks_o (by omega)⟩⟩
  refine mk_know (K0 := K0 + 1) (c := c) (n := n) (nm := nm) q11 q12 hpl (by omega) a3.1 (by omega) hy hc hnm ?_ c 0 (by omega)
  have k11 : z_ks σ1 n nm pl c 11 = A := by funext i; rw [z_ks_o (by omega), q11]
  have k12 : z_ks σ1 n nm pl c 12 = B := by funext i; rw [z_ks_o (by omega), q12]
  have MKB : z_MK (z_ks σ1 n nm pl c) τB (z_bd nm pl c E) (n + c) := by
    refine ⟨z_ks_54 a3.1 c, z_ev_bd (z_ev_frame (fun i hi => ⟨z_ks_o (by omega), z_ks_o (by omega)⟩) a3.2.1) (fun i hi => ?_), B33, by rw [oB 0 36 (by omega)]; exact a3.2.2.2.1, fun i hi => ?_⟩
    · obtain ⟨w1, w2⟩ := z_ks_v (σ := σ1) (n := n) (nm := nm) (pl := pl) hi
      exact ⟨w1, by rw [w2]; omega⟩
    · by_cases z : i < n
      · rw [oB 21 i (by omega), oB 22 i (by omega), z_ks_o (by omega)]
        exact a3.2.2.2.2 i z
      · obtain ⟨w1, w2⟩ := z_ks_v (σ := σ1) (n := n) (nm := nm) (pl := pl) (c := c) (i := i - n) (by omega)
        obtain ⟨w3, w4⟩ := z_bs_v (τ := mj_up τ1 0 26 ((m + 2 : Nat) : Int)) (v := n) (nm := nm) (pf := fun _ => 0) (c := c) (i := i - n) (by omega)
        rw [show n + (i - n) = i by omega] at w1 w3 w4
        rw [hτB] at w3 w4
        rw [w3, w1, w4]
        exact ⟨rfl, Int.le_refl _⟩
  refine qw_c77_116 (d := K0 + 1) ⟨fun _ => t_c22 (d := K0 + 1) (k := 1) (by decide) (fun t ht => ?_) ⟨_, rfl, by unfold mj_r; omega, ?_⟩, fun z => absurd z (by omega)⟩
  · rw [k12]
    match t, ht with
    | 0, _ => show z_dr a; omega
    | 1, _ => show z_dr (z_cd B a); omega
  rw [k11, k12]
  show mj_B mjc_L mjc_Ms (K0 + 3) 68 [.inr (.inl 5), .inl (z_cd A (z_cd B a)), .inl (pl + (c : Int)), .inl (z_bo tl), .inl (lv : Int)] (z_ks σ1 n nm pl c) _
  have F0k : z_Fc len n σ (z_ks σ1 n nm pl c) := z_Fc_tr ll1 (Nat.le_refl _) a1 (hKs c)
  have MB : z_Fm m n τ τB := z_Fm_tr (by omega) (Nat.le_refl _) M1 FB
  refine ih _ τB _ _ (pl + (c : Int)) tl lv sb (m + 1) (n + c) len1 st (z_bd nm pl c E) hst (z_SE_F hSE F0k MB) (by rw [k11, k12]; exact Db) hlv (by omega) (by omega) MKB (by omega) (by rw [z_ks_o (by omega)]; exact a4) (by omega) B26 (by omega) (by rw [oB 16 _ (by omega), b11.1]; exact m7) (by rw [oB 17 _ (by omega), b11.2.1]; exact m7') (by rw [oB 0 5 (by omega)]; exact a8) (fun σ3 τ3 len3 c1 c2 c3 c4 c5 c6 c7 c8 c9 => ⟨_, rfl, fun σ5 e5 => ?_⟩) (fun er σ3 τ3 c1 c2 c3 c4 c5 c6 c7 => ⟨_, rfl, fun σ5 e5 => ?_⟩)
  · rw [k11, k12] at c6
    have ll3 := z_C_lt k0 _ _ _ _ _ _ c6
    have s43 : σ5 4 3 = len3 := by rw [e5, mj_up_ne (by omega)]; exact c4
    refine ⟨by omega, fun σ6 e6 => ?_⟩
    rw [z_put_1 s43 (by omega)] at e6
    obtain ⟨v6, v6'⟩ := @z_p1_v σ5 len3 8 (c : Int) 0
    rw [← e6] at v6 v6'
    have F35 : z_Fc len3 n σ3 σ5 := by rw [e5]; exact ⟨fun q j z => mj_up_ne (by omega), fun j hj => ⟨mj_up_ne (by omega), mj_up_ne (by omega), mj_up_ne (by omega)⟩, fun j hj => ⟨mj_up_ne (by omega), mj_up_ne (by omega)⟩⟩
    have F56 : z_Fc len3 n σ5 σ6 := by rw [e6]; exact z_Fc_p
    have F36 : z_Fc len3 n σ3 σ6 := z_Fc_tr (Nat.le_refl _) (Nat.le_refl _) F35 F56
    have Fk3 : z_Fc len1 n (z_ks σ1 n nm pl c) σ3 := z_Fc_tr (Nat.le_refl _) (by omega) (z_Fc_rf _ _ _) c1
    have F16 : z_Fc len1 n σ1 σ6 := z_Fc_tr (Nat.le_refl _) (Nat.le_refl _) (z_Fc_tr (Nat.le_refl _) (Nat.le_refl _) (hKs c) Fk3) (z_Fc_tr (by omega) (Nat.le_refl _) (z_Fc_rf len1 n σ3) F36)
    have FF : z_Fc len n σ σ6 := z_Fc_tr ll1 (Nat.le_refl _) a1 F16
    have d0 := c2.2.1 m (by omega)
    have e18 : τ3 18 m = (c : Int) := by rw [d0.2.2.1, oB 18 m (by omega), b00.2.2.1]; exact m6'
    have e16 : τ3 16 m = 18 := by rw [d0.1, oB 16 m (by omega), b00.1]; exact m6
    have e33 : τ3 0 33 = ((n + c : Nat) : Int) := c3.2.2.1
    have glU : z_gl τ3 (mj_up (mj_up τ3 0 26 (m : Int)) 0 33 (n : Int)) := fun d' Q' y' h' => by
      refine l_go (m := m) (by rw [c7]; omega) (by omega) c8 (fun z => absurd z (by omega)) (fun _ => ⟨by rw [e33, e18]; unfold mj_r; omega, ?_⟩) (fun z => absurd z (by omega)) (fun z => absurd z (by omega)) (fun z => absurd z (by omega)) (Or.inr (Or.inl e16))
      rw [e33, e18, show ((n + c : Nat) : Int) - (c : Int) = (n : Int) by omega]
      exact h'
    have FU : z_Fm m n τ3 (mj_up (mj_up τ3 0 26 (m : Int)) 0 33 (n : Int)) := ⟨fun q j z => by rw [mj_up_ne (by omega), mj_up_ne (by omega)], fun i hi => ⟨by rw [mj_up_ne (by omega), mj_up_ne (by omega)], by rw [mj_up_ne (by omega), mj_up_ne (by omega)], by rw [mj_up_ne (by omega), mj_up_ne (by omega)], by rw [mj_up_ne (by omega), mj_up_ne (by omega)]⟩, fun i hi => ⟨by rw [mj_up_ne (by omega), mj_up_ne (by omega)], by rw [mj_up_ne (by omega), mj_up_ne (by omega)]⟩⟩
    have M3 : z_Fm m n τB τ3 := z_Fm_tr (by omega) (by omega) (z_Fm_rf m n τB) c2
    have ME : z_Fm m n τ (mj_up (mj_up τ3 0 26 (m : Int)) 0 33 (n : Int)) := z_Fm_tr (Nat.le_refl _) (Nat.le_refl _) (z_Fm_tr (Nat.le_refl _) (Nat.le_refl _) MB M3) FU
    refine hok σ6 _ len1 len3 FF ME (z_MK_F hMK FF ME (by rw [e6, z_p1_o (by omega), e5, mj_up_eq]; exact a3.1) mj_up_eq) v6' (by omega) hy hc (z_sq_frame (z_Fc_K F16 (Nat.le_refl _)) a6) (z_Ks_C (z_Ks_F F36 (Nat.le_refl _)) c6) v6 (by rw [mj_up_ne (by omega), mj_up_eq]) (by rw [mj_up_ne (by omega), mj_up_ne (by omega)]; exact c8) (z_gl_tr (z_gl_tr (z_gl_tr (z_gl_tr m2 a9) glB) c9) glU)
  · have s43 : σ5 4 3 = σ3 4 3 := by rw [e5, mj_up_ne (by omega)]
    refine ⟨by omega, fun σ6 e6 => ?_⟩
    have F35 : z_Fc len1 n σ3 σ5 := by rw [e5]; exact ⟨fun q j z => mj_up_ne (by omega), fun j hj => ⟨mj_up_ne (by omega), mj_up_ne (by omega), mj_up_ne (by omega)⟩, fun j hj => ⟨mj_up_ne (by omega), mj_up_ne (by omega)⟩⟩
    obtain ⟨w1, w2, w3⟩ := z_Fc_put (len := len1) (n := n) (σ := σ5) (a := 8) (b := (c : Int)) (c := 0) (by omega) (by omega)
    rw [← e6] at w1 w2 w3
    have Fk3 : z_Fc len1 n (z_ks σ1 n nm pl c) σ3 := z_Fc_tr (Nat.le_refl _) (by omega) (z_Fc_rf _ _ _) c1
    have M3 : z_Fm m n τB τ3 := z_Fm_tr (by omega) (by omega) (z_Fm_rf m n τB) c2
    exact hbad er σ6 τ3 (z_Fc_tr ll1 (Nat.le_refl _) a1 (z_Fc_tr (Nat.le_refl _) (Nat.le_refl _) (z_Fc_tr (Nat.le_refl _) (Nat.le_refl _) (z_Fc_tr (Nat.le_refl _) (Nat.le_refl _) (hKs c) Fk3) F35) w1)) (z_Fm_tr (Nat.le_refl _) (Nat.le_refl _) MB M3) (by omega) w3 c5 c6 (z_gl_tr (z_gl_tr (z_gl_tr m2 a9) glB) c7)
