/-! a list, made into code -/
theorem z_l1_F {τ : mj_S} {m n : Nat} {w x t : Int} : z_Fm m n τ (z_l1 (mj_up τ 0 26 (m : Int)) m w x t 0) := ⟨fun q j c => by rw [z_l1_o (by omega), mj_up_ne (by omega)], fun i hi => ⟨by rw [z_l1_o (by omega), mj_up_ne (by omega)], by rw [z_l1_o (by omega), mj_up_ne (by omega)], by rw [z_l1_o (by omega), mj_up_ne (by omega)], by rw [z_l1_o (by omega), mj_up_ne (by omega)]⟩, fun i hi => ⟨by rw [z_l1_o (by omega), mj_up_ne (by omega)], by rw [z_l1_o (by omega), mj_up_ne (by omega)]⟩⟩
theorem z_er_F {τ : mj_S} {m n : Nat} {e : Int} : z_Fm m n τ (mj_up (mj_up τ 0 26 (m : Int)) 0 5 e) := ⟨fun q j c => by rw [mj_up_ne (by omega), mj_up_ne (by omega)], fun i hi => ⟨by rw [mj_up_ne (by omega), mj_up_ne (by omega)], by rw [mj_up_ne (by omega), mj_up_ne (by omega)], by rw [mj_up_ne (by omega), mj_up_ne (by omega)], by rw [mj_up_ne (by omega), mj_up_ne (by omega)]⟩, fun i hi => ⟨by rw [mj_up_ne (by omega), mj_up_ne (by omega)], by rw [mj_up_ne (by omega), mj_up_ne (by omega)]⟩⟩
set_option maxHeartbeats 4000000 in
theorem mk_node {k K0 : Nat} (ih : z_MFd k (K0 + 3)) {σ τ : mj_S} {Q : mj_Q} {A B : Nat → Int} {x hd pl : Int} {tl : Bool} {lv s m nn lo st n : Nat} {E : List (Int × Int)} (hA : σ 11 = A) (hB : σ 12 = B) (hst : st ≤ 400) (hSE : z_SE st σ τ) (hD : z_D A B 536870912 0 st (k + 1) s x) (hl : z_isl B x (n + 1)) (hhd : z_cd A x = hd) (h1 : 268435456 ≤ hd) (h2 : hd < 536870912) (hlv : lv + k ≤ 12) (hpl : 0 ≤ pl) (hpl2 : pl + s ≤ 1000) (hMK : z_MK σ τ E nn) (hn : nn + s ≤ 400) (hlen : σ 4 3 = ((lo + 1 : Nat) : Int)) (hstep : z_in (z_Kc σ) lo 1 0 0) (hl2 : lo + 3 * s + 2 ≤ 2400)
    (h26 : τ 0 26 = (m : Int) + 1) (hm : m + 8 * k + 16 ≤ 3000) (h16 : τ 16 m = 16) (h17 : τ 17 m = x) (h5 : τ 0 5 = 0)
    (hok : ∀ (σ' τ' : mj_S) (len' : Nat), z_Fc (lo + 1) nn σ σ' → z_Fm m nn τ τ' → z_MK σ' τ' E nn → σ' 4 3 = len' → len' ≤ lo + 3 * s + 2 → z_nd A B (z_Kc σ') (z_C A B (z_Kc σ') k) E x pl tl lo len' → τ' 0 26 = m → τ' 0 5 = 0 → z_gl τ τ' → Q (some (.inl 0)) σ')
    (hbad : ∀ (e : Int) (σ' τ' : mj_S), z_Fc (lo + 1) nn σ σ' → z_Fm m nn τ τ' → ((lo + 1 : Nat) : Int) ≤ σ' 4 3 → σ' 4 3 ≤ 2400 → τ' 0 5 = e → (e = 1 ∨ e = 2 ∨ e = 4) → z_gl τ τ' → Q (some (.inl e)) σ') : mj_B mjc_L mjc_Ms (K0 + 5) 70 [.inr (.inl 5), .inl x, .inl (n : Int), .inl pl, .inl (z_bo tl), .inl (lv : Int)] σ Q := by
  obtain ⟨r0, l0⟩ := z_isl_t hl
  obtain ⟨k0, p0, sh, sa, g1, g2, g3, g4, g5, g6, g7⟩ := z_D_p (by decide) hD r0.1
  have hsh : sh = 0 := (z_D_a g6 (by rw [hhd]; exact h2)).2.2
  have hcn := z_D_cnt (by decide) g7 l0
  obtain ⟨c, hlc⟩ : ∃ c, n = 2 → z_len B (z_cd A (z_cd B x)) c := by
    by_cases e : n = 2
    · have := (z_isl_t (n := 1) (by rw [e] at l0; exact l0)).1
      obtain ⟨k1, p1, s1, t1, i1, i2, i3, i4, i5, i6, i7⟩ := z_D_p (by decide) g7 this.1
      obtain ⟨c, c1, _⟩ := z_D_len (by decide) s1 i6
      exact ⟨c, fun _ => c1⟩
    · exact ⟨0, fun z => absurd z e⟩
  obtain ⟨L1, L2, L3, L4, L5, L6⟩ := look_all (c := c) hA hB hst (by omega) hSE hD hl hhd h1 h2 hlc h26 (by omega) h5 h16 h17
  have er1 : z_gl τ (mj_up (mj_up τ 0 26 (m : Int)) 0 5 1) → Q (some (.inl 1)) σ := fun g => hbad 1 σ _ (z_Fc_rf _ _ _) z_er_F (by omega) (by omega) mj_up_eq (Or.inl rfl) g
  have er4 : z_gl τ (mj_up (mj_up τ 0 26 (m : Int)) 0 5 4) → Q (some (.inl 4)) σ := fun g => hbad 4 σ _ (z_Fc_rf _ _ _) z_er_F (by omega) (by omega) mj_up_eq (Or.inr (Or.inr rfl)) g
  -- the reference with the forms of the list to be looked at
  generalize hτ2 : z_l1 (mj_up τ 0 26 (m : Int)) m 2 (z_cd B x) 0 0 = τ2 at L6
  have F2 : z_Fm m nn τ τ2 := by rw [← hτ2]; exact z_l1_F
  obtain ⟨w1, w2, w3, _, w5⟩ := @z_l1_v (mj_up τ 0 26 (m : Int)) m 2 (z_cd B x) 0 0
  rw [hτ2] at w1 w2 w3 w5
  have w26 : τ2 0 26 = (m : Int) + 1 := by rw [w5]; omega
  have w50 : τ2 0 5 = 0 := by rw [← hτ2, z_l1_o (by omega), mj_up_ne (by omega)]; exact h5
  have w33 : τ2 0 33 = nn := by rw [← hτ2, z_l1_o (by omega), mj_up_ne (by omega)]; exact hMK.2.2.1
  have MK2 : z_MK σ τ2 E nn := z_MK_F hMK (z_Fc_rf (lo + 1) nn σ) F2 hMK.1 w33
  have SE2 := z_SE_F hSE (z_Fc_rf (lo + 1) nn σ) F2
  have hdr : z_dr x := by omega
  -- z_nd from its parts
  have nd : ∀ (σ' : mj_S) (len' : Nat), z_Fc (lo + 1) nn σ σ' → ((hd = 268435458 ∧ n = 1 ∧ z_in (z_Kc σ') (lo + 1) 2 (z_el A B x 1) 0 ∧ len' = lo + 2 ∧ ∃ b s : Nat, z_D A B 536870912 0 b 12 s (z_el A B x 1)) ∨
     (hd = 268435459 ∧ n = 3 ∧ ∃ a b : Nat, z_C A B (z_Kc σ') k E (z_el A B x 1) pl false (lo + 1) a ∧ z_in (z_Kc σ') a 5 ((b : Int) + 1) 0 ∧ z_C A B (z_Kc σ') k E (z_el A B x 2) pl tl (a + 1) b ∧ z_in (z_Kc σ') b 4 (len' : Int) 0 ∧ z_C A B (z_Kc σ') k E (z_el A B x 3) pl tl (b + 1) len') ∨
     (hd = 268435460 ∧ n = 2 ∧ ∃ (m : Nat) (f : Nat → Nat) (c : Nat), z_isl B (z_el A B x 1) m ∧ (∀ i, i < m → z_isl B (z_el A B (z_el A B x 1) i) 2) ∧ f 0 = lo + 1 ∧ z_fs (z_C A B (z_Kc σ') k) E (fun i => z_el A B (z_el A B (z_el A B x 1) i) 1) pl m f ∧ z_C A B (z_Kc σ') k (z_bd (fun i => z_el A B (z_el A B (z_el A B x 1) i) 0) pl m E) (z_el A B x 2) (pl + (m : Int)) tl (f m) c ∧ z_in (z_Kc σ') c 8 (m : Int) 0 ∧ len' = c + 1) ∨
     (hd = 268435461 ∧ ∃ f : Nat → Nat, f 0 = lo + 1 ∧ (∀ i, i < n → z_ccl A B (z_Kc σ') (z_C A B (z_Kc σ') k) E pl tl len' (z_el A B x (i + 1)) (f i) (f (i + 1)) 0) ∧ z_in (z_Kc σ') (f n) 2 268435456 0 ∧ len' = f n + 1) ∨
     ((hd = 268435462 ∨ hd = 268435463) ∧ ((n = 0 ∧ z_in (z_Kc σ') (lo + 1) 2 (if hd = 268435462 then 268435457 else 268435456) 0 ∧ len' = lo + 2) ∨
      ∃ (n' : Nat) (f g : Nat → Nat), n = n' + 1 ∧ f 0 = lo + 1 ∧ (∀ i, i < n' → z_C A B (z_Kc σ') k E (z_el A B x (i + 1)) pl false (f i) (g i) ∧ z_in (z_Kc σ') (g i) (if hd = 268435462 then 6 else 7) (len' : Int) 0 ∧ f (i + 1) = g i + 1) ∧ z_C A B (z_Kc σ') k E (z_el A B x (n' + 1)) pl tl (f n') len')) ∨
     (¬ (268435458 ≤ hd ∧ hd ≤ 268435463) ∧ ¬ hd = 268435465 ∧ ∃ f : Nat → Nat, f 0 = lo + 1 ∧ z_fs (z_C A B (z_Kc σ') k) E (fun i => z_el A B x (i + 1)) pl n f ∧
     ((hd = 268435464 ∧ z_in (z_Kc σ') (f n) 2 268435456 0 ∧ (∀ i, i < n → z_in (z_Kc σ') (f n + 1 + i) 268435466 0 0) ∧ len' = f n + 1 + n) ∨
      (268435466 ≤ hd ∧ hd ≤ 268435476 ∧ (n : Int) = z_ar hd ∧ z_in (z_Kc σ') (f n) hd 0 0 ∧ len' = f n + 1) ∨
      ((hd ≤ 268435457 ∨ 268435476 < hd) ∧ z_in (z_Kc σ') (f n) (if tl then 10 else 9) hd (n : Int) ∧ len' = f n + 1)))) → z_nd A B (z_Kc σ') (z_C A B (z_Kc σ') k) E x pl tl lo len' := fun σ' len' F h => ⟨n, hd, r0.1, hl, hhd.symm, h1, h2, z_Ks_in (lo := 0) (z_Ks_F F (Nat.le_refl _)) (by omega) (by omega) hstep, h⟩
  -- forms in a row, and what is done with their values
  have use : ¬ (268435458 ≤ hd ∧ hd ≤ 268435463) → ¬ hd = 268435465 → (268435466 ≤ hd → hd ≤ 268435476 → (n : Int) = z_ar hd) → mj_B mjc_L mjc_Ms (K0 + 4) 73 [.inr (.inl 5), .inl (z_cd B x), .inl (n : Int), .inl pl, .inl (lv : Int)] σ (fun r σ15 => ∃ v16, r = some (.inl v16) ∧ mj_B mjc_L mjc_Ms (K0 + 4) 75 [.inr (.inl 5), .inl hd, .inl (n : Int), .inl (z_bo tl)] σ15 (fun r σ17 => r = none ∧ Q (some (.inl v16)) σ17)) := fun u1 u2 u3 => by
    have G := L6 (by omega) (by omega) (by omega) u2 (by omega) u3
    refine wq_c73 (d := K0 + 2) (mk_forms (K0 := K0 + 2) (A := A) (B := B) (m := m) (len0 := lo + 1) (bnd := lo + 1 + 3 * sa - n) (e := fun i => z_el A B x (i + 1)) ih hA.symm hB.symm hst SE2 hlv hpl (by omega) (by omega) (fun σ' τ' len' a1 a2 a3 a4 a5 a6 a7 a8 a9 => ⟨_, rfl, ?_⟩) (fun er σ' τ' a1 a2 a3 a4 a5 a6 a7 => ⟨_, rfl, ?_⟩) n 0 σ τ2 (z_cd B x) sa (lo + 1) (by omega) (z_Fc_rf _ _ _) (z_Fm_rf _ _ _) MK2 hlen z_sq_0 l0 g7 (fun t ht => by rw [z_el_s, Nat.zero_add]) (by omega) (by omega) (by omega) w26 w1 w2 w3 w50 (fun _ _ _ h => h))
    · have hle := z_sq_le a6
      obtain ⟨f, f1, f2, f3⟩ := a6
      have M' : z_Fm m nn τ τ' := z_Fm_tr (Nat.le_refl _) (Nat.le_refl _) F2 a2
      refine t_c75 (d := K0 + 1) (n := nn) (len := len') a4 (by omega) (fun hh σ2 b1 b1' b2 b3 b4 => ⟨rfl, ?_⟩) (fun c1 c2 => ⟨rfl, ?_⟩) (fun c1 c2 => ⟨rfl, ?_⟩)
      · have FF := z_Fc_tr hle (Nat.le_refl _) a1 b1
        have sq := z_sq_frame (z_Fc_K b1 (Nat.le_refl _)) (⟨f, f1, f2, f3⟩ : z_sq A B (z_Kc σ') k E (fun i => z_el A B x (i + 1)) pl n (lo + 1) len')
        obtain ⟨f', f1', f2', f3'⟩ := sq
        refine hok σ2 τ' (len' + 1 + n) FF M' (z_MK_F a3 b1 (z_Fm_rf m nn τ') (by rw [b1']; exact a3.1) a3.2.2.1) b2 (by omega) (nd σ2 _ FF (Or.inr (Or.inr (Or.inr (Or.inr (Or.inr ⟨u1, u2, f', f1', f3', Or.inl ⟨hh, by rw [f2']; exact b3, fun i hi => by rw [f2']; exact b4 i hi, by rw [f2']⟩⟩)))))) a7 a8 (z_gl_tr G a9)
      · obtain ⟨v1, v2⟩ := @z_p1_v σ' len' hd 0 0
        have b1 : z_Fc len' nn σ' (z_p1 σ' len' hd 0 0) := z_Fc_p
        have FF := z_Fc_tr hle (Nat.le_refl _) a1 b1
        obtain ⟨f', f1', f2', f3'⟩ := z_sq_frame (z_Fc_K b1 (Nat.le_refl _)) (⟨f, f1, f2, f3⟩ : z_sq A B (z_Kc σ') k E (fun i => z_el A B x (i + 1)) pl n (lo + 1) len')
        refine hok _ τ' (len' + 1) FF M' (z_MK_F a3 b1 (z_Fm_rf m nn τ') (by rw [z_p1_o (by omega)]; exact a3.1) a3.2.2.1) v2 (by omega) (nd _ _ FF (Or.inr (Or.inr (Or.inr (Or.inr (Or.inr ⟨u1, u2, f', f1', f3', Or.inr (Or.inl ⟨c1, c2, u3 c1 c2, by rw [f2']; exact v1, by rw [f2']⟩)⟩)))))) a7 a8 (z_gl_tr G a9)
      · obtain ⟨v1, v2⟩ := @z_p1_v σ' len' (if tl then 10 else 9) hd (n : Int)
        have b1 : z_Fc len' nn σ' (z_p1 σ' len' (if tl then 10 else 9) hd (n : Int)) := z_Fc_p
        have FF := z_Fc_tr hle (Nat.le_refl _) a1 b1
        obtain ⟨f', f1', f2', f3'⟩ := z_sq_frame (z_Fc_K b1 (Nat.le_refl _)) (⟨f, f1, f2, f3⟩ : z_sq A B (z_Kc σ') k E (fun i => z_el A B x (i + 1)) pl n (lo + 1) len')
        refine hok _ τ' (len' + 1) FF M' (z_MK_F a3 b1 (z_Fm_rf m nn τ') (by rw [z_p1_o (by omega)]; exact a3.1) a3.2.2.1) v2 (by omega) (nd _ _ FF (Or.inr (Or.inr (Or.inr (Or.inr (Or.inr ⟨u1, u2, f', f1', f3', Or.inr (Or.inr ⟨by omega, by rw [f2']; exact v1, by rw [f2']⟩)⟩)))))) a7 a8 (z_gl_tr G a9)
    · exact t_c75g (d := K0 + 1) (n := nn) (len := lo + 1) a3 a4 (by omega) (fun σ2 b1 b2 b3 => ⟨rfl, hbad er σ2 τ' (z_Fc_tr (Nat.le_refl _) (Nat.le_refl _) a1 b1) (z_Fm_tr (Nat.le_refl _) (Nat.le_refl _) F2 a2) b2 b3 a5 a6 (z_gl_tr G a7)⟩)
  -- and, or
  have turn : hd = 268435462 ∨ hd = 268435463 → mj_B mjc_L mjc_Ms (K0 + 4) 80 [.inr (.inl 5), .inl hd, .inl (z_cd B x), .inl (n : Int), .inl pl, .inl (z_bo tl), .inl (lv : Int)] σ (fun r σ11 => ∃ v12, r = some (.inl v12) ∧ Q (some (.inl v12)) σ11) := fun hh => by
    have G := L6 (by omega) (by omega) (by omega) (by omega) (by omega) (fun z => absurd z (by omega))
    refine wq_c80 (d := K0 + 1) ⟨fun c0 => ?_, fun c0 => ?_⟩
    · obtain ⟨n', hn'⟩ : ∃ n', n = n' + 1 := ⟨n - 1, by omega⟩
      have := mk_turn (K0 := K0 + 1) (A := A) (B := B) (hd := hd) (y2 := z_cd B x) (m := m) (c := n') (len0 := lo + 1) (bnd := lo + 1 + 3 * sa + 2) (tl := tl) (e := fun i => z_el A B x (i + 1)) (Q := fun r σ11 => ∃ v12, r = some (.inl v12) ∧ Q (some (.inl v12)) σ11) ih hA.symm hB.symm hst SE2 hlv hpl (by omega) (by omega) (by omega) (fun σ' τ' len' f a1 a2 a3 a4 a5 a6 a7 a8 a9 a10 a11 => ⟨_, rfl, ?_⟩) (fun er σ' τ' a1 a2 a3 a4 a5 a6 a7 => ⟨_, rfl, hbad er σ' τ' a1 (z_Fm_tr (Nat.le_refl _) (Nat.le_refl _) F2 a2) a3 a4 a5 a6 (z_gl_tr G a7)⟩) n' 0 σ τ2 (z_cd B x) (-1) sa (lo + 1) [] (by omega) (z_Fc_rf _ _ _) (z_Fm_rf _ _ _) MK2 hlen z_pd_0 rfl rfl (by rw [hn'] at l0; exact l0) g7 (fun t ht => by rw [z_el_s, Nat.zero_add]) (by omega) (by omega) (by omega) w26 w1 w2 w3 w50 (fun _ _ _ h => h)
      · rw [hn', show ((n' + 1 : Nat) : Int) = (n' : Int) + 1 by omega]
        exact this
      · refine hok σ' τ' len' a1 (z_Fm_tr (Nat.le_refl _) (Nat.le_refl _) F2 a2) a3 a4 (by omega) (nd σ' len' a1 (Or.inr (Or.inr (Or.inr (Or.inr (Or.inl ⟨hh, Or.inr ⟨n', f, fun j => f (j + 1) - 1, hn', a6, fun i hi => ?_, a8⟩⟩)))))) a9 a10 (z_gl_tr G a11)
        obtain ⟨b1, b2, b3⟩ := a7 i hi
        exact ⟨b2, b3, by dsimp only; omega⟩
    · have hn0 : n = 0 := by omega
      have hnil : z_cd B x = 268435456 := z_isl_0 (by rw [hn0] at l0; exact l0)
      have fin : ∀ v : Int, v = (if hd = 268435462 then 268435457 else 268435456) → ∀ σ1, σ1 = z_put σ 2 v 0 → ∃ v12, some (Sum.inl (0 : Int) : mj_V) = some (.inl v12) ∧ Q (some (.inl v12)) σ1 := fun v hv σ1 e1 => by
        rw [z_put_1 hlen (by omega)] at e1
        obtain ⟨v1, v2⟩ := @z_p1_v σ (lo + 1) 2 v 0
        rw [← e1] at v1 v2
        have FF : z_Fc (lo + 1) nn σ σ1 := by rw [e1]; exact z_Fc_p
        have M' : z_Fm m nn τ (mj_up τ2 0 26 (m : Int)) := z_Fm_tr (Nat.le_refl _) (Nat.le_refl _) F2 z_pop
        exact ⟨_, rfl, hok σ1 (mj_up τ2 0 26 (m : Int)) (lo + 2) FF M' (z_MK_F hMK FF M' (by rw [e1, z_p1_o (by omega)]; exact hMK.1) (by rw [mj_up_ne (by omega)]; exact w33)) v2 (by omega) (nd σ1 _ FF (Or.inr (Or.inr (Or.inr (Or.inr (Or.inl ⟨hh, Or.inl ⟨hn0, by rw [← hv]; exact v1, rfl⟩⟩)))))) mj_up_eq (by rw [mj_up_ne (by omega)]; exact w50) (z_gl_tr G (l_nil w26 (by omega) w50 w1 w2 (by omega)))⟩
      exact ⟨fun c1 => ⟨by omega, fin _ (by rw [if_neg c1])⟩, fun c1 => ⟨by omega, fin _ (by rw [if_pos c1])⟩⟩
  refine wq_c70 (d := K0 + 3) ?_
  rw [hA, hB, hhd]
  refine ⟨hdr, hdr, fun c1 => wq_c74 (d := K0 + 1) ⟨fun c2 => ⟨?_, by omega, fun σ1 e1 => ⟨_, rfl, ?_⟩⟩, fun c2 => ⟨_, rfl, er1 (L1 (Or.inl ⟨c1, by omega⟩))⟩⟩, fun c1 => ⟨fun c2 => er1 (L1 (Or.inr (Or.inl ⟨c1, by omega⟩))), fun c2 => ?_⟩, fun c1 => ⟨fun c2 => er1 (L1 (Or.inr (Or.inr (Or.inl ⟨c1, Or.inl (by omega)⟩)))), fun c2 => ?_⟩, fun c1 => ?_, fun c1 => turn (Or.inl c1), fun c1 => turn (Or.inr c1), fun c1 => ⟨fun c2 => use (by omega) (by omega) (fun z => absurd z (by omega)), fun c2 => absurd c2 (by omega)⟩, fun c1 => er1 (L1 (Or.inr (Or.inr (Or.inr (Or.inr c1))))), fun c1 => ⟨fun c2 => use (by omega) (by omega) (fun z1 z2 => absurd ⟨z1, z2⟩ c2), fun c2 => ⟨fun c3 => use (by omega) (by omega) (fun _ _ => c3), fun c3 => er4 (L2 c2.1 c2.2 c3)⟩⟩⟩
  · -- quote
    have := (z_isl_t (n := 0) (by rw [show n = 1 by omega] at l0; exact l0)).1
    omega
  · have hn1 : n = 1 := by omega
    have ra := (z_isl_t (n := 0) (by rw [hn1] at l0; exact l0)).1
    obtain ⟨k1, p1, s1, t1, i1, i2, i3, i4, i5, i6, i7⟩ := z_D_p (by decide) g7 ra.1
    rw [hA, z_put_1 hlen (by omega)] at e1
    obtain ⟨v1, v2⟩ := @z_p1_v σ (lo + 1) 2 (z_cd A (z_cd B x)) 0
    rw [← e1] at v1 v2
    have FF : z_Fc (lo + 1) nn σ σ1 := by rw [e1]; exact z_Fc_p
    refine hok σ1 (mj_up τ 0 26 (m : Int)) (lo + 2) FF z_pop (z_MK_F hMK FF z_pop (by rw [e1, z_p1_o (by omega)]; exact hMK.1) (by rw [mj_up_ne (by omega)]; exact hMK.2.2.1)) v2 (by omega) (nd σ1 _ FF (Or.inl ⟨c1, hn1, v1, rfl, p1, s1, z_D_mono (Int.le_refl _) (Nat.le_refl _) (Nat.le_refl _) (by omega) i6⟩)) mj_up_eq (by rw [mj_up_ne (by omega)]; exact h5) (L3 c1 hn1)
  · -- if
    have hn3 : n = 3 := by omega
    have G := L6 (by omega) (by omega) (by omega) (by omega) (fun _ => hn3) (fun z => absurd z (by omega))
    refine mk_choice (K0 := K0 + 1) (A := A) (B := B) ih hA hB hst SE2 (a := z_cd B x) (s := sa) (m := m) (len := lo + 1) g7 (by rw [hn3] at l0; exact l0) hlv hpl (by omega) MK2 (by omega) hlen (by omega) w26 (by omega) w1 w2 w3 w50 (fun σ' τ' len' b c a1 a2 a3 a4 a5 a6 a7 a8 a9 a10 a11 a12 a13 => ⟨_, rfl, ?_⟩) (fun er σ' τ' a1 a2 a3 a4 a5 a6 a7 => ⟨_, rfl, hbad er σ' τ' a1 (z_Fm_tr (Nat.le_refl _) (Nat.le_refl _) F2 a2) a3 a4 a5 a6 (z_gl_tr G a7)⟩)
    rw [z_el_s] at a6 a8 a10
    exact hok σ' τ' len' a1 (z_Fm_tr (Nat.le_refl _) (Nat.le_refl _) F2 a2) a3 a4 (by omega) (nd σ' len' a1 (Or.inr (Or.inl ⟨c1, hn3, b, c, a6, a7, a8, a9, a10⟩))) a11 a12 (z_gl_tr G a13)
  · -- let
    have hn2 : n = 2 := by omega
    refine mk_let (K0 := K0) (A := A) (B := B) (τ := τ) ih hA hB hst hSE (a := z_cd B x) (s := sa) (m := m) (len := lo + 1) (c := c) g7 (by rw [hn2] at l0; exact l0) hlv hpl (by omega) hMK (by omega) hlen (by omega) (by omega) (nm := fun i => z_el A B (z_el A B (z_cd A (z_cd B x)) i) 0) (fun _ => rfl) (hlc hn2) (fun z => ⟨_, rfl, er1 (L1 (Or.inr (Or.inr (Or.inl ⟨c1, Or.inr z⟩))))⟩) (fun z1 z2 z3 => ?_) (fun σ' τ' len1 len3 a1 a2 a3 a4 a5 a6 a7 a8 a9 a10 a11 a12 a13 => ⟨_, rfl, ?_⟩) (fun er σ' τ' a1 a2 a3 a4 a5 a6 a7 => ⟨_, rfl, hbad er σ' τ' a1 a2 a3 a4 a5 a6 a7⟩)
    · have G := L4 c1 hn2 z1 z2 z3
      refine ⟨_, ?_, G, ?_, ?_, ?_, ⟨?_, ?_⟩, ⟨?_, ?_⟩, ⟨?_, ?_⟩, ?_, ?_, ?_⟩
      · exact ⟨fun q j z => by rw [z_l1_o (by omega), z_l1_o (by omega), z_l1_o (by omega), z_l1_o (by omega), mj_up_ne (by omega)], fun i hi => ⟨by rw [z_l1_o (by omega), z_l1_o (by omega), z_l1_o (by omega), z_l1_o (by omega), mj_up_ne (by omega)], by rw [z_l1_o (by omega), z_l1_o (by omega), z_l1_o (by omega), z_l1_o (by omega), mj_up_ne (by omega)], by rw [z_l1_o (by omega), z_l1_o (by omega), z_l1_o (by omega), z_l1_o (by omega), mj_up_ne (by omega)], by rw [z_l1_o (by omega), z_l1_o (by omega), z_l1_o (by omega), z_l1_o (by omega), mj_up_ne (by omega)]⟩, fun i hi => ⟨by rw [z_l1_o (by omega), z_l1_o (by omega), z_l1_o (by omega), z_l1_o (by omega), mj_up_ne (by omega)], by rw [z_l1_o (by omega), z_l1_o (by omega), z_l1_o (by omega), z_l1_o (by omega), mj_up_ne (by omega)]⟩⟩
      · exact z_l1_v.2.2.2.2
      · rw [z_l1_o (by omega), z_l1_o (by omega), z_l1_o (by omega), z_l1_o (by omega), mj_up_ne (by omega)]; exact h5
      · rw [z_l1_o (by omega), z_l1_o (by omega), z_l1_o (by omega), z_l1_o (by omega), mj_up_ne (by omega)]; exact hMK.2.2.1
      · rw [z_l1_o (by omega), z_l1_o (by omega), z_l1_o (by omega)]; exact z_l1_v.1
      · rw [z_l1_o (by omega), z_l1_o (by omega), z_l1_o (by omega)]; exact z_l1_v.2.2.1
      · rw [z_l1_o (by omega), z_l1_o (by omega)]; exact z_l1_v.1
      · rw [z_l1_o (by omega), z_l1_o (by omega), z_el_s]; exact z_l1_v.2.1
      · rw [z_l1_o (by omega)]; exact z_l1_v.1
      · rw [z_l1_o (by omega)]; exact z_l1_v.2.1
      · exact z_l1_v.1
      · exact z_l1_v.2.1
      · exact z_l1_v.2.2.1
    · rw [z_el_s] at a9
      obtain ⟨f, f1, f2, f3⟩ := a8
      exact hok σ' τ' (len3 + 1) a1 a2 a3 a4 (by omega) (nd σ' _ a1 (Or.inr (Or.inr (Or.inl ⟨c1, hn2, c, f, len3, a6, a7, f1, f3, by rw [f2]; exact a9, a10, rfl⟩)))) a11 a12 a13
  · -- cond
    obtain ⟨ll, _⟩ := z_D_ll (by decide) (by omega) g7 l0.1
    refine t_c78 (d := K0 + 1) (n := n) (by rw [hB]; exact l0.1) (by omega) (by rw [hA, hB]; exact ll) (fun hc => ⟨_, rfl, fun q => absurd q (by decide), fun _ => ?_⟩) (fun hc => ⟨_, rfl, fun _ => er1 (L1 (Or.inr (Or.inr (Or.inr (Or.inl ⟨c1, fun z => hc (by rw [hA, hB]; exact z)⟩))))), fun q => absurd rfl q⟩)
    rw [hA, hB] at hc
    have G := L5 c1 hc
    generalize hτ3 : z_l1 (mj_up τ 0 26 (m : Int)) m 2 (z_cd B x) 2 0 = τ3 at G
    have F3 : z_Fm m nn τ τ3 := by rw [← hτ3]; exact z_l1_F
    obtain ⟨y1, y2, y3, _, y5⟩ := @z_l1_v (mj_up τ 0 26 (m : Int)) m 2 (z_cd B x) 2 0
    rw [hτ3] at y1 y2 y3 y5
    have y50 : τ3 0 5 = 0 := by rw [← hτ3, z_l1_o (by omega), mj_up_ne (by omega)]; exact h5
    have MK3 : z_MK σ τ3 E nn := z_MK_F hMK (z_Fc_rf (lo + 1) nn σ) F3 hMK.1 (by rw [← hτ3, z_l1_o (by omega), mj_up_ne (by omega)]; exact hMK.2.2.1)
    refine wq_c79 (d := K0 + 1) (mk_clauses (K0 := K0 + 1) (A := A) (B := B) (m := m) (c := n) (len0 := lo + 1) (bnd := lo + 1 + 3 * sa + 1) (tl := tl) (e := fun i => z_el A B x (i + 1)) ih hA.symm hB.symm hst (z_SE_F hSE (z_Fc_rf (lo + 1) nn σ) F3) hlv hpl (by omega) (by omega) (by omega) (fun σ' τ' f a1 a2 a3 a4 a5 a6 a7 a8 a9 a10 a11 => ⟨_, rfl, ?_⟩) (fun er σ' τ' a1 a2 a3 a4 a5 a6 a7 => ⟨_, rfl, hbad er σ' τ' a1 (z_Fm_tr (Nat.le_refl _) (Nat.le_refl _) F3 a2) a3 a4 a5 a6 (z_gl_tr G a7)⟩) n 0 σ τ3 (z_cd B x) (-1) sa (lo + 1) [] (by omega) (z_Fc_rf _ _ _) (z_Fm_rf _ _ _) MK3 hlen z_pd_0 rfl rfl l0 hc g7 (fun t ht => by rw [z_el_s, Nat.zero_add]) (by omega) (by omega) (by omega) (by rw [y5]; omega) y1 y2 y3 y50 (fun _ _ _ h => h))
    refine hok σ' τ' (f n + 1) a1 (z_Fm_tr (Nat.le_refl _) (Nat.le_refl _) F3 a2) a3 a4 (by omega) (nd σ' _ a1 (Or.inr (Or.inr (Or.inr (Or.inl ⟨c1, f, a6, fun i hi => ?_, a8, rfl⟩))))) a9 a10 (z_gl_tr G a11)
    obtain ⟨b1, ⟨b2, g, b3, b4, b5⟩, b6⟩ := a7 i hi
    exact ⟨b2, g, f (i + 1) - 1, b3, by rw [show (((f (i + 1) - 1 : Nat) : Int) + 1) = (f (i + 1) : Int) by omega] at b4; exact b4, b5, b6, by omega, rfl⟩
set_option maxHeartbeats 1000000 in
theorem mk_form {k K0 : Nat} (hpair : ∀ k', k = k' + 1 → z_MFd k' (K0 + 3)) : z_MFd k (K0 + 6) := by
  intro σ τ Q x pl tl lv s m n len st E hst hSE hD hlv hpl hpl2 hMK hn hlen hl2 h26 hm h16 h17 h5 hok hbad
  have hsb : s ≤ 400 := by omega
  obtain ⟨v1, v1'⟩ := @z_p1_v σ len 1 0 0
  have F1 : z_Fc len n σ (z_p1 σ len 1 0 0) := z_Fc_p
  have MK1 : ∀ τ', z_Fm m n τ τ' → τ' 0 33 = n → z_MK (z_p1 σ len 1 0 0) τ' E n := fun τ' F h => z_MK_F hMK F1 F (by rw [z_p1_o (by omega)]; exact hMK.1) h
  -- an atom that stands for itself
  have self : 0 ≤ x → x ≤ 268435457 → 0 ≤ z_p1 σ len 1 0 0 4 3 ∧ ∀ σ2, σ2 = z_put (z_p1 σ len 1 0 0) 2 x 0 → Q (some (.inl 0)) σ2 := fun x0 x1 => ⟨by omega, fun σ2 e2 => by
    rw [z_put_1 v1' (by omega)] at e2
    obtain ⟨u1, u1'⟩ := @z_p1_v (z_p1 σ len 1 0 0) (len + 1) 2 x 0
    rw [← e2] at u1 u1'
    have F2 : z_Fc (len + 1) n (z_p1 σ len 1 0 0) σ2 := by rw [e2]; exact z_Fc_p
    have lf : z_lf (z_Kc σ2) E x len (len + 2) := ⟨rfl, z_Ks_in (lo := 0) (z_Ks_F F2 (Nat.le_refl _)) (by omega) (by omega) v1, Or.inl ⟨x0, x1, u1⟩⟩
    refine hok σ2 (mj_up τ 0 26 (m : Int)) (len + 2) (z_Fc_tr (by omega) (Nat.le_refl _) F1 F2) z_pop (z_MK_F (MK1 _ (z_Fm_rf m n τ) hMK.2.2.1) F2 z_pop (by rw [e2, z_p1_o (by omega), z_p1_o (by omega)]; exact hMK.1) (by rw [mj_up_ne (by omega)]; exact hMK.2.2.1)) u1' (by omega) ?_ mj_up_eq (by rw [mj_up_ne (by omega)]; exact h5) (l_look h26 (by omega) h5 h16 h17 (fun d Q' hq => o_atom x1 hq))
    cases k with
    | zero => exact ⟨by omega, lf⟩
    | succ k => exact Or.inl ⟨by omega, lf⟩⟩
  refine wq_c68 (d := K0 + 3) ⟨fun _ => ⟨by omega, fun σ1 e1 => ?_⟩, fun c => absurd c (by omega)⟩
  have e1' : σ1 = z_p1 σ len 1 0 0 := by rw [e1]; exact z_put_1 hlen (by omega)
  rw [e1']
  refine ⟨fun c => self c.1 (by omega), fun c => ⟨fun c2 => self (by omega) (by omega), fun c2 => ⟨fun c3 => ⟨fun c4 => ?_, fun c4 => ?_⟩, fun c3 => self (by omega) (by omega)⟩⟩⟩
  · -- a pair
    have hx : 536870912 ≤ x := by
      have := z_D_r (by decide) hD
      omega
    obtain ⟨k', p, s1, s2, g1, g2, g3, g4, g5, g6, g7⟩ := z_D_p (by decide) hD hx
    have ih := hpair k' g1
    subst g1
    have q11 : z_p1 σ len 1 0 0 11 = σ 11 := by funext i; exact z_p1_o (by omega)
    have q12 : z_p1 σ len 1 0 0 12 = σ 12 := by funext i; exact z_p1_o (by omega)
    obtain ⟨n', cn1, cn2⟩ := z_D_len (by decide) s hD
    have hn1 : 1 ≤ n' := by
      cases n' with
      | zero => have := cn1.2; unfold z_nth at this; omega
      | succ n' => omega
    obtain ⟨x1, x2, _⟩ := z_SE_all rfl rfl hSE hD cn1
    have hxc : z_cd (τ 4) x = z_cd (σ 11) x := (z_SE_cd hSE (by omega)).1
    have w4 : mj_up τ 0 26 (m : Int) 4 = τ 4 := z_rq _ _ _ _ _ (by decide)
    have w5 : mj_up τ 0 26 (m : Int) 5 = τ 5 := z_rq _ _ _ _ _ (by decide)
    have bad1 : (¬ z_nth (σ 12) x n' = 268435456 ∨ ¬ (268435456 ≤ z_cd (σ 11) x ∧ z_cd (σ 11) x < 536870912)) → Q (some (.inl 1)) (z_p1 σ len 1 0 0) := fun hb => by
      refine hbad 1 _ (mj_up (mj_up τ 0 26 (m : Int)) 0 5 1) F1 z_er_F (by omega) (by omega) mj_up_eq (Or.inl rfl) (l_look h26 (by omega) h5 h16 h17 (fun d Q' hq => o_bad (n := n') ⟨hx, by omega⟩ (by rw [w5]; exact x1) (by omega) (by rw [mj_up_ne (by omega)]; exact h5) ?_ hq))
      rw [w4, w5, x2 n' (Nat.le_refl _), hxc]
      exact hb
    refine t_c23 (d := K0 + 3) (n := n') (by rw [q12]; exact cn1) (by omega) ⟨_, rfl, fun q => bad1 (Or.inl (fun z => ?_)), fun q => ⟨by omega, fun c5 => ?_, fun c5 => bad1 (Or.inr (by rw [q11] at c5; exact c5))⟩⟩
    · rw [q12] at q
      unfold z_ln at q
      rw [if_pos z] at q
      omega
    have hnil : z_nth (σ 12) x n' = 268435456 := by
      by_cases z : z_nth (σ 12) x n' = 268435456
      · exact z
      · rw [q12] at q
        unfold z_ln at q
        rw [if_neg z] at q
        omega
    obtain ⟨n2, hn2⟩ : ∃ n2, n' = n2 + 1 := ⟨n' - 1, by omega⟩
    have hln : z_ln (z_p1 σ len 1 0 0 12) x n' = (n' : Int) := by rw [q12]; unfold z_ln; rw [if_pos hnil]
    rw [hln, show (n' : Int) - 1 = (n2 : Int) by omega, show (lv : Int) + 1 = ((lv + 1 : Nat) : Int) by omega]
    rw [q11] at c5
    refine ⟨by unfold mj_r; omega, by unfold mj_r; omega, ?_⟩
    refine mk_node (K0 := K0) (σ := z_p1 σ len 1 0 0) (τ := τ) (A := σ 11) (B := σ 12) (hd := z_cd (σ 11) x) (lo := len) (nn := n) (n := n2) ih q11 q12 hst (z_SE_F hSE F1 (z_Fm_rf m n τ)) hD (by rw [← hn2]; exact ⟨cn1, hnil⟩) rfl c5.1 c5.2 (by omega) hpl hpl2 (MK1 τ (z_Fm_rf m n τ) hMK.2.2.1) hn v1' v1 (by omega) h26 (by omega) h16 h17 h5 (fun σ' τ' len' a1 a2 a3 a4 a5 a6 a7 a8 a9 => ⟨_, rfl, ?_⟩) (fun er σ' τ' a1 a2 a3 a4 a5 a6 a7 => ⟨_, rfl, hbad er σ' τ' (z_Fc_tr (by omega) (Nat.le_refl _) F1 a1) a2 (by omega) a4 a5 a6 a7⟩)
    exact hok σ' τ' len' (z_Fc_tr (by omega) (Nat.le_refl _) F1 a1) a2 a3 a4 a5 (Or.inr a6) a7 a8 a9
  · -- a variable
    have ev1 : z_ev (z_p1 σ len 1 0 0 22) (z_p1 σ len 1 0 0 23) 0 0 E n := z_ev_frame (fun i hi => F1.2.2 i hi) hMK.2.1
    have F0 : z_Fm m n τ (mj_up τ 0 26 (m : Int)) := z_pop
    obtain ⟨E0, p1, p2⟩ := z_en0 (V' := mj_up τ 0 26 (m : Int) 21) (P' := mj_up τ 0 26 (m : Int) 22) hMK.2.1 (fun i hi => by
      rw [mj_up_ne (by omega), mj_up_ne (by omega)]
      exact hMK.2.2.2.2 i hi)
    obtain ⟨p3, p4⟩ := p2 x
    refine t_c69 (d := K0 + 2) (n := n) (len := len + 1) (by rw [z_p1_o (by omega)]; exact hMK.1) (by omega) ev1 v1' (by omega) (fun p hp => ⟨_, rfl, ?_⟩) (fun hp => ⟨_, rfl, ?_⟩)
    · obtain ⟨u1, u1'⟩ := @z_p1_v (z_p1 σ len 1 0 0) (len + 1) 3 p 0
      have F2 : z_Fc (len + 1) n (z_p1 σ len 1 0 0) (z_p1 (z_p1 σ len 1 0 0) (len + 1) 3 p 0) := z_Fc_p
      have lf : z_lf (z_Kc (z_p1 (z_p1 σ len 1 0 0) (len + 1) 3 p 0)) E x len (len + 2) := ⟨rfl, z_Ks_in (lo := 0) (z_Ks_F F2 (Nat.le_refl _)) (by omega) (by omega) v1, Or.inr ⟨by omega, p, hp, u1⟩⟩
      refine hok _ (mj_up τ 0 26 (m : Int)) (len + 2) (z_Fc_tr (by omega) (Nat.le_refl _) F1 F2) F0 (z_MK_F (MK1 _ (z_Fm_rf m n τ) hMK.2.2.1) F2 F0 (by rw [z_p1_o (by omega), z_p1_o (by omega)]; exact hMK.1) (by rw [mj_up_ne (by omega)]; exact hMK.2.2.1)) u1' (by omega) ?_ mj_up_eq (by rw [mj_up_ne (by omega)]; exact h5) (l_look h26 (by omega) h5 h16 h17 (fun d Q' hq => o_var (E := E0) (v := n) (by omega) c4.2 (by rw [mj_up_ne (by omega)]; exact h5) (by rw [mj_up_ne (by omega)]; exact hMK.2.2.1) (by rw [mj_up_ne (by omega)]; exact hMK.2.2.2.1) (by omega) p1 p4 (fun _ _ => hq) (fun hz => ?_)))
      · cases k with
        | zero => exact ⟨by omega, lf⟩
        | succ k => exact Or.inl ⟨by omega, lf⟩
      · have := p3.mp hz
        rw [hp] at this
        cases this
    · refine hbad 2 _ (mj_up (mj_up τ 0 26 (m : Int)) 0 5 2) F1 z_er_F (by omega) (by omega) mj_up_eq (Or.inr (Or.inl rfl)) (l_look h26 (by omega) h5 h16 h17 (fun d Q' hq => o_var (E := E0) (v := n) (by omega) c4.2 (by rw [mj_up_ne (by omega)]; exact h5) (by rw [mj_up_ne (by omega)]; exact hMK.2.2.1) (by rw [mj_up_ne (by omega)]; exact hMK.2.2.2.1) (by omega) p1 p4 (fun p0 hz => ?_) (fun _ => hq)))
      have := p3.mpr hp
      rw [hz] at this
      cases this
theorem mk_all : ∀ (k d : Nat), z_MFd k (d + 3 * k + 6)
  | 0, d => mk_form (K0 := d) (fun k' h => absurd h (by omega))
  | k + 1, d => by
    have ih := mk_all k d
    rw [show d + 3 * (k + 1) + 6 = (d + 3 * k + 3) + 6 by omega]
    refine mk_form (fun k' h => ?_)
    have : k' = k := by omega
    subst this
    exact ih
