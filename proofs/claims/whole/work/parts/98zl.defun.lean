/-! a definition, in both -/
theorem z_dt_nt {A B : Nat → Int} {st : Nat} {x : Int} (h : z_dt A B st x) : ∀ i, z_dt A B st (z_nth B x i)
  | 0 => h
  | i + 1 => by
    have ih := z_dt_nt h i
    show z_dt A B st (z_cd B (z_nth B x i))
    by_cases c : 536870912 ≤ z_nth B x i
    · exact (z_dt_cd ih c).2.2
    · rw [z_cd_n (by omega)]
      exact z_dt_atom (by decide) (by decide)
theorem z_dt_ell {A B : Nat → Int} {st : Nat} {x : Int} (h : z_dt A B st x) (i : Nat) : z_dt A B st (z_el A B x i) := by
  have ih := z_dt_nt h i
  show z_dt A B st (z_cd A (z_nth B x i))
  by_cases c : 536870912 ≤ z_nth B x i
  · exact (z_dt_cd ih c).2.1
  · rw [z_cd_n (by omega)]
    exact z_dt_atom (by decide) (by decide)
/-- the name of a definition is printed -/
theorem x_name {A B : Nat → Int} {st : Nat} {be : Nat → Nat} {G : Nat → Bool} {σ τ : mj_S} {v nm : Int} (hH : z_H A B st σ τ be G) (hY : z_Y σ τ) (hw : z_bw A ≤ 268435456 + σ 1 2) (hP : z_P σ τ) (hD : z_dt A B st v) (hl : z_isl B v 4) (e1 : z_el A B v 1 = nm) {d : Nat} {Q : mj_Q}
    (h : ∀ σ' τ' : mj_S, z_P σ' τ' → z_fc σ σ' → z_fm τ τ' → (∀ (d' : Nat) (R : mj_Q), R none τ' → mj_B mjm_L mjm_Ms (d' + 5) 57 [.inr (.inl 0), .inl nm] τ R) → Q (some (.inl 0)) (z_pp σ' 10)) : mj_B mjc_L mjc_Ms (d + 49) 22 [.inr (.inl 2), .inl v, .inl 1] σ (fun r σ14 => ∃ v15, r = some (.inl v15) ∧ mj_B mjc_L mjc_Ms (d + 49) 115 [.inr (.inl 8), .inl v15] σ14 (fun r σ16 => r = none ∧ Q (some (.inl 0)) σ16)) := by
  have sbc : z_sb A B (σ 11) (σ 12) st := fun i a b => ⟨(hH.1 i a b).1, (hH.1 i a b).2.1⟩
  refine t_c22 (d := d + 47) (k := 1) (by decide) (fun i hi => ?_) ⟨_, rfl, ?_⟩
  · rw [z_sb_nth sbc hD hl.1 i (by omega)]
    have := hl.1.1 i (by omega)
    omega
  · rw [z_sb_el sbc hD hl.1 (by decide), e1]
    have hv : z_vl A B st be G nm nm := by rw [← e1]; exact z_dt_vl (z_dt_ell hD 1)
    exact t_print (d := d + 44) hH hY hw hP hv (fun σ' τ' p1 p2 p3 p4 => ⟨rfl, h σ' τ' p1 p2 p3 p4⟩)
set_option maxHeartbeats 2000000 in
theorem x_def {C : Int} {σ1 τ1 σ τ : mj_S} {v : Int} (E : z_RE C σ1 τ1 σ τ v) (hdf : z_cd (σ 11) v = 268435465) {d : Nat} {Q : mj_Q}
    (hfin : ∀ (e : Int) (σ' τ' : mj_S), z_FR σ τ e σ' τ' → (∀ (d' : Nat) (R : mj_Q) (y1 y2 : Int), (∀ y5, qh_m60_144 (d' + 50) R y1 y2 v 1 y5 τ') → qh_m60_56 (d' + 50) R y1 y2 v 1 (mj_up (mj_up τ 0 33 0) 0 36 0)) → Q (some (.inl e)) σ')
    (hnew : ∀ (σn τn σ' τ' : mj_S), z_NF σ τ σn τn (σ 2 8).toNat → z_FR σn τn 0 σ' τ' → σ' 4 3 = σn 4 3 → (∀ (d' : Nat) (R : mj_Q) (y1 y2 : Int), (∀ y5, qh_m60_144 (d' + 50) R y1 y2 v 1 y5 τ') → qh_m60_56 (d' + 50) R y1 y2 v 1 (mj_up (mj_up τ 0 33 0) 0 36 0)) → Q (some (.inl 0)) σ') : mj_B mjc_L mjc_Ms (d + 50) 6 [.inr (.inl 0), .inl v] σ Q := by
  have hY := E.2.2.1.2.1
  have h5 := E.2.2.2.1
  obtain ⟨st, s, len, S, fuel, be, l1, l2, l3, l4, l5, l6, l7, l8, FN, sa, SE, hH, hmo, hS, hP, hco, hbw, hdo, v0, v1, l9, l10⟩ := x_look E
  have l1' := l1
  rw [l1] at hnew
  clear E
  have hD : z_dt (z_zA σ) (σ 12) st v := ⟨s, l8⟩
  have hvp : 536870912 ≤ v := by
    by_cases c : 536870912 ≤ v
    · exact c
    · rw [z_cd_n (by omega)] at hdf; exact absurd hdf (by decide)
  -- the reference before it looks
  generalize hτ4 : mj_up (mj_up τ 0 33 0) 0 36 0 = τ4 at hfin hnew
  have o4 : ∀ q k, ¬ (q = 0 ∧ (k = 33 ∨ k = 36)) → τ4 q k = τ q k := fun q k z => by rw [← hτ4, mj_up_ne (by omega), mj_up_ne (by omega)]
  have e433 : τ4 0 33 = ((0 : Nat) : Int) := by rw [← hτ4, mj_up_ne (by omega), mj_up_eq]; rfl
  have e436 : τ4 0 36 = 0 := by rw [← hτ4, mj_up_eq]
  have h45 : τ4 0 5 = 0 := by rw [o4 0 5 (by omega)]; exact h5
  have sb4 : z_sb (z_zA σ) (σ 12) (τ4 4) (τ4 5) st := fun i a b => by rw [o4 4 i (by omega), o4 5 i (by omega)]; exact ⟨(sa i a b).2.2.1, (sa i a b).2.2.2⟩
  obtain ⟨n0, hl0, hn0⟩ : ∃ n0, z_len (σ 12) v n0 ∧ n0 ≤ 400 := by
    obtain ⟨n0, a1, a2⟩ := z_D_len (z_bw_le _) s l8
    exact ⟨n0, a1, by omega⟩
  have egd : ∀ c, z_gd (σ 11) (σ 12) v c ↔ z_gd (z_zA σ) (σ 12) v c := fun c => by unfold z_gd; simp only [z_el_zA]
  have hDp : z_dt (z_zA σ) (σ 12) st (z_el (σ 11) (σ 12) v 2) := by rw [← z_el_zA]; exact z_dt_ell hD 2
  obtain ⟨np, hlp, hnp⟩ : ∃ np, z_len (σ 12) (z_el (σ 11) (σ 12) v 2) np ∧ np ≤ 400 := by
    obtain ⟨sp, hp⟩ := hDp
    obtain ⟨np, a1, a2⟩ := z_D_len (z_bw_le _) sp hp
    exact ⟨np, a1, z_len_400 l2 ⟨sp, hp⟩ a1⟩
  have dr : ∀ {x : Int}, z_dt (z_zA σ) (σ 12) st x → z_dr x := fun {x} h => by have := z_dt_r h; omega
  refine wq_c6 (d := d + 47) ⟨by omega, fun z => absurd hdf z, fun _ => ?_⟩
  refine c_mkdef (d := d + 45) rfl rfl hl0 hn0 (fun i => dr (z_dt_nt hD i)) hlp hnp (fun i _ => by rw [← z_el_zA]; exact dr (z_dt_ell hDp i)) (fun i => dr (z_dt_nt hDp i)) (by have := z_dt_r (z_dt_ell hD 1); rw [z_el_zA] at this; unfold mj_r; omega) (fun hno => ⟨1, rfl, fun _ => ⟨fun _ => ?_, fun z => absurd z (by decide)⟩, fun z => absurd z (by decide)⟩) (fun c hg => ?_)
  · refine hfin 1 σ (mj_up τ4 0 5 1) (z_FR_e mj_up_eq (by decide) (by decide) (fun _ _ _ => rfl) (fun _ _ => ⟨rfl, rfl, rfl⟩) (Int.le_refl _) (fun q k z => by rw [mj_up_ne (by omega)]; exact o4 q k (by omega)) hH hmo ⟨S, fuel, hS⟩ hP) (fun d' R y1 y2 hR => ?_)
    refine qw_m60_56 (d := d' + 49) ⟨fun z => absurd z (by decide), fun _ => r_mkdef (d := d' + 43) l2 sb4 h45 e433 hD hl0 (fun _ => ⟨_, rfl, fun _ => ?_, fun z => absurd rfl z⟩) (fun c hg => absurd ⟨c, (egd c).mpr hg⟩ hno)⟩
    exact qw_m60_115 (d := d' + 49) ⟨fun _ => hR _, fun z => absurd z (by rw [mj_up_eq]; decide)⟩
  · have hgA := (egd c).mp hg
    obtain ⟨gd1, gd2, gd3, gd4, gd5, gd6⟩ := hgA
    obtain ⟨sp, sb, hss, hDpp, hDbb⟩ := z_D_df (z_bw_le _) l8 gd1
    have hcs : c ≤ sp := by
      obtain ⟨n', a1, a2⟩ := z_D_len (z_bw_le _) sp hDpp
      have := z_len_un a1 gd4.1
      omega
    have hnm1 : z_el (z_zA σ) (σ 12) v 1 < 268435456 + σ 1 2 := by
      have hx := z_dt_ell hD 1
      obtain ⟨s1, hx⟩ := hx
      have := z_D_a hx (by omega)
      omega
    generalize enm : z_el (z_zA σ) (σ 12) v 1 = nm at gd2 gd3 hnm1
    generalize epp : z_el (z_zA σ) (σ 12) v 2 = p at gd4 gd6 hDpp
    generalize ebo : z_el (z_zA σ) (σ 12) v 3 = bo at hDbb
    have epp' : z_el (σ 11) (σ 12) v 2 = p := by rw [← z_el_zA]; exact epp
    have ebo' : z_el (σ 11) (σ 12) v 3 = bo := by rw [← z_el_zA]; exact ebo
    rw [epp', ebo']
    have hDb0 : z_D (σ 11) (σ 12) 536870912 0 st 12 sb bo := z_D_frame (A := z_zA σ) (B := σ 12) (fun i _ _ h4 => ⟨(z_zA_i σ (by omega)).symm, rfl⟩) (z_D_mono (z_bw_le _) (Nat.le_refl _) (Nat.le_refl _) (Nat.le_refl _) hDbb)
    obtain ⟨i, ei⟩ : ∃ i : Nat, nm = 268435456 + (i : Int) := ⟨(nm - 268435456).toNat, by omega⟩
    have hi60 : i < 60 := by have := hY.2.2.1; omega
    have enf : (fun i => z_el (σ 11) (σ 12) p i) = (fun i => z_el (z_zA σ) (σ 12) p i) := by funext i; rw [z_el_zA]
    rw [enf]
    clear hg egd hlp hDp hnp
    -- names are bound
    have b33 := z_bs_33 (nm := fun i => z_el (z_zA σ) (σ 12) p i) (pf := fun _ => 0) e433 c
    have bo5 : ∀ q k, ¬ (q = 21 ∨ q = 22 ∨ (q = 0 ∧ k = 33)) → z_bs τ4 0 (fun i => z_el (z_zA σ) (σ 12) p i) (fun _ => 0) c q k = τ4 q k := fun q k z => z_bs_o (by omega)
    have bv : ∀ j, j < c → z_bs τ4 0 (fun i => z_el (z_zA σ) (σ 12) p i) (fun _ => 0) c 21 j = z_el (z_zA σ) (σ 12) p j ∧ z_bs τ4 0 (fun i => z_el (z_zA σ) (σ 12) p i) (fun _ => 0) c 22 j = 0 := fun j hj => by
      have := z_bs_v (τ := τ4) (v := 0) (nm := fun i => z_el (z_zA σ) (σ 12) p i) (pf := fun _ => 0) (c := c) (i := j) hj
      rw [Nat.zero_add] at this
      exact this
    have refgo : ∀ (d' : Nat) (R : mj_Q) (y1 y2 : Int) (τb : mj_S), (∀ (d : Nat) (R : mj_Q), R none τb → mj_B mjm_L mjm_Ms (d + 21) 27 [.inr (.inl 0), .inl bo] (z_bs τ4 0 (fun i => z_el (z_zA σ) (σ 12) p i) (fun _ => 0) c) R) → (0 < τb 0 5 → qh_m60_115 (d' + 50) R y1 y2 v 1 268435456 τb) → (τb 0 5 ≤ 0 → z_rA d' (fun r σ4 => ∃ v5, r = some (.inl v5) ∧ (v5 = 0 → qh_m60_115 (d' + 50) R y1 y2 v 1 268435456 σ4) ∧ (¬ v5 = 0 → mj_B mjm_L mjm_Ms (d' + 50) 8 [.inr (.inl 0), .inl v, .inl 1] σ4 (fun r σ6 => ∃ v7, r = some (.inl v7) ∧ qh_m60_115 (d' + 50) R y1 y2 v 1 v7 σ6))) v nm τb) → qh_m60_56 (d' + 50) R y1 y2 v 1 τ4 := by
      intro d' R y1 y2 τb lk herr hok
      refine qw_m60_56 (d := d' + 49) ⟨fun z => absurd z (by decide), fun _ => r_mkdef (d := d' + 43) l2 sb4 h45 e433 hD hl0 (fun hno => absurd ⟨c, gd1, by rw [enm]; exact gd2, by rw [enm]; exact gd3, by rw [epp]; exact gd4, gd5, by rw [epp]; exact gd6⟩ hno) (fun c2 hg2 => ?_)⟩
      have ec : c2 = c := by have a := hg2.2.2.2.1.1; rw [epp] at a; exact z_len_un a gd4.1
      subst ec
      rw [enm, epp]
      have sb5 : z_sb (z_zA σ) (σ 12) (z_bs τ4 0 (fun i => z_el (z_zA σ) (σ 12) p i) (fun _ => 0) c2 4) (z_bs τ4 0 (fun i => z_el (z_zA σ) (σ 12) p i) (fun _ => 0) c2 5) st := fun i a b => by rw [bo5 4 i (by omega), bo5 5 i (by omega)]; exact sb4 i a b
      refine qw_m35_78 (d := d' + 48) ⟨fun _ => x_m8 (A := z_zA σ) (B := σ 12) (st := st) (d := d' + 47) (k := 3) l2 sb5 hD gd1.1 (by decide) ⟨_, rfl, ?_⟩, fun z => absurd z (by decide)⟩
      rw [ebo]
      exact lk (d' + 28) _ ⟨rfl, fun z => hok z, fun z => ⟨_, rfl, fun _ => herr z, fun w => absurd rfl w⟩⟩
    generalize hτ5 : z_bs τ4 0 (fun i => z_el (z_zA σ) (σ 12) p i) (fun _ => 0) c = τ5 at b33 bo5 bv refgo
    have v26 : mj_up τ5 0 26 0 0 26 = ((0 : Nat) : Int) := by rw [mj_up_eq]; rfl
    obtain ⟨g1, g2, g3, g4, g5⟩ := @z_l1_v (mj_up τ5 0 26 0) 0 16 bo 0 0
    have oa : ∀ q k, ¬ ((16 ≤ q ∧ q ≤ 19) ∨ q = 21 ∨ q = 22 ∨ (q = 0 ∧ (k = 26 ∨ k = 33 ∨ k = 36))) → z_l1 (mj_up τ5 0 26 0) 0 16 bo 0 0 q k = τ q k := fun q k z => by rw [z_l1_o (by omega), mj_up_ne (by omega), bo5 q k (by omega)]; exact o4 q k (by omega)
    have a33 : z_l1 (mj_up τ5 0 26 0) 0 16 bo 0 0 0 33 = (c : Int) := by rw [z_l1_o (by omega), mj_up_ne (by omega), b33]; omega
    have a36 : z_l1 (mj_up τ5 0 26 0) 0 16 bo 0 0 0 36 = 0 := by rw [z_l1_o (by omega), mj_up_ne (by omega), bo5 0 36 (by omega)]; exact e436
    have a21 : ∀ j, j < c → z_l1 (mj_up τ5 0 26 0) 0 16 bo 0 0 21 j = z_el (z_zA σ) (σ 12) p j ∧ z_l1 (mj_up τ5 0 26 0) 0 16 bo 0 0 22 j = 0 := fun j hj => by
      rw [z_l1_o (by omega), mj_up_ne (by omega), z_l1_o (by omega), mj_up_ne (by omega)]; exact bv j hj
    have lookd : ∀ τ', z_gl (z_l1 (mj_up τ5 0 26 0) 0 16 bo 0 0) τ' → (τ' 0 26 = 0 ∨ ¬ τ' 0 5 = 0) → ∀ (d : Nat) (R : mj_Q), R none τ' → mj_B mjm_L mjm_Ms (d + 21) 27 [.inr (.inl 0), .inl bo] τ5 R := fun τ' hg hend d R hR => r_looked v26 hg hend rfl hR
    generalize z_l1 (mj_up τ5 0 26 0) 0 16 bo 0 0 = τa at g1 g2 g3 g4 g5 oa a33 a36 a21 lookd
    have k54 : mj_up σ 5 4 0 5 4 = ((0 : Nat) : Int) := by rw [mj_up_eq]; rfl
    have ko : ∀ q k, ¬ (q = 22 ∨ q = 23 ∨ (q = 5 ∧ k = 4)) → z_ks (mj_up σ 5 4 0) 0 (fun i => z_el (z_zA σ) (σ 12) p i) 0 c q k = σ q k := fun q k z => by rw [z_ks_o (by omega), mj_up_ne (by omega)]
    have k54' := z_ks_54 (nm := fun i => z_el (z_zA σ) (σ 12) p i) (pl := 0) k54 c
    have kv : ∀ j, j < c → z_ks (mj_up σ 5 4 0) 0 (fun i => z_el (z_zA σ) (σ 12) p i) 0 c 22 j = z_el (z_zA σ) (σ 12) p j ∧ z_ks (mj_up σ 5 4 0) 0 (fun i => z_el (z_zA σ) (σ 12) p i) 0 c 23 j = (j : Int) := fun j hj => by
      have := z_ks_v (σ := mj_up σ 5 4 0) (n := 0) (nm := fun i => z_el (z_zA σ) (σ 12) p i) (pl := 0) (c := c) (i := j) hj
      rw [Nat.zero_add, Int.zero_add] at this
      exact this
    generalize z_ks (mj_up σ 5 4 0) 0 (fun i => z_el (z_zA σ) (σ 12) p i) 0 c = σa at ko k54' kv
    have c11 : σa 11 = σ 11 := by funext k; exact ko 11 k (by omega)
    have c12 : σa 12 = σ 12 := by funext k; exact ko 12 k (by omega)
    have hev : z_ev (σa 22) (σa 23) 0 0 (z_bd (fun i => z_el (z_zA σ) (σ 12) p i) 0 c []) c := by
      have := z_ev_bd (V := σa 22) (P := σa 23) (base := 0) (bg := 0) (n := 0) (nm := fun i => z_el (z_zA σ) (σ 12) p i) (pl := 0) (E := []) rfl (c := c) (fun j hj => by rw [Nat.zero_add]; exact ⟨(kv j hj).1, by rw [(kv j hj).2]; omega⟩)
      rw [Nat.zero_add] at this
      exact this
    have mk := mk_all 12 (d + 6)
    rw [show d + 6 + 3 * 12 + 6 = d + 45 + 3 by omega] at mk
    refine mk σa τa _ bo ((c : Int) + 1) true 0 sb 0 c len st (z_bd (fun i => z_el (z_zA σ) (σ 12) p i) 0 c []) l2 (fun i hi => by rw [c11, c12, oa 4 i (by omega), oa 5 i (by omega)]; exact SE i hi) (by rw [c11, c12]; exact hDb0) (by decide) (by omega) (by omega) ⟨by rw [k54']; omega, hev, a33, a36, fun j hj => ⟨by rw [(a21 j hj).1, (kv j hj).1], by rw [(a21 j hj).2]; exact Int.le_refl _⟩⟩ (by omega) (by rw [ko 4 3 (by omega)]; exact l4) (by omega) (by rw [g5]; rfl) (by decide) g1 g2 (by rw [oa 0 5 (by omega)]; exact h5) ?_ ?_
    · intro σb τb len' Fc Fm MK hl4 hle hC t26 t05 gl
      rw [c11, c12] at hC
      obtain ⟨fc1, fc2, fc3⟩ := Fc
      obtain ⟨fm1, fm2, fm3⟩ := Fm
      refine ⟨0, rfl, by omega, fun σc ec => ⟨0, rfl, fun z => absurd rfl z, fun _ => ?_⟩⟩
      have hlen' : len ≤ len' := by have := z_C_lt _ _ _ _ _ _ _ hC; omega
      obtain ⟨m1, m2, m3, m4⟩ := z_made (σ3 := σ) (σb := σb) (A := σ 11) (B := σ 12) (fun i _ i2 => ⟨z_zA_i σ (by omega), rfl⟩) hDb0 hC hl4 (by omega) 11 0 0
      rw [← ec] at m1 m2 m3 m4
      have oc : ∀ q k, ¬ ((q = 4 ∧ k = 3) ∨ (q = 5 ∧ k = 4) ∨ (19 ≤ q ∧ q ≤ 23)) → σc q k = σ q k := fun q k z => by rw [m1 q k (by omega), fc1 q k (by omega), ko q k (by omega)]
      have ob : ∀ q k, ¬ ((q = 0 ∧ (k = 5 ∨ k = 26 ∨ k = 33 ∨ k = 36)) ∨ (16 ≤ q ∧ q ≤ 19) ∨ q = 21 ∨ q = 22) → τb q k = τ q k := fun q k z => by rw [fm1 q k (by omega), oa q k (by omega)]
      have hcode : ∀ i : Nat, (i : Int) < σ 4 3 → σc 19 i = σ 19 i ∧ σc 20 i = σ 20 i ∧ σc 21 i = σ 21 i := fun i hi => by
        obtain ⟨q1, q2, q3⟩ := fc2 i (by omega)
        rw [m1 19 i (by omega), m1 20 i (by omega), m1 21 i (by omega), q1, q2, q3, ko 19 i (by omega), ko 20 i (by omega), ko 21 i (by omega)]
        exact ⟨rfl, rfl, rfl⟩
      have sac : z_sa (z_zA σ) (σ 12) (σc 11) (σc 12) (τb 4) (τb 5) st := fun i i1 i2 => by rw [oc 11 i (by omega), oc 12 i (by omega), ob 4 i (by omega), ob 5 i (by omega)]; exact sa i i1 i2
      have FNc : z_FN (z_zA σ) (σ 12) st (z_zK σc) σc τb := by
        refine z_FN_up (len := len) (fun _ _ _ => ⟨rfl, rfl⟩) (Int.le_refl _) (Nat.le_refl _) (fun i hi => (z_zK_ge (by omega)).1) (fun i hi => ?_) (fun q k z => oc q k (by omega)) (fun q k z => ob q k (by omega)) FN
        obtain ⟨a1, a2, a3⟩ := z_zK_lt (σ := σ) (i := i) (by omega)
        obtain ⟨b1, b2, b3⟩ := z_zK_lt (σ := σc) (i := i) (by omega)
        obtain ⟨c1, c2, c3⟩ := hcode i (by omega)
        exact ⟨by rw [a1, b1, c1], by rw [a2, b2, c2], by rw [a3, b3, c3]⟩
      have e712 : σ 7 12 = S := hS.2.2.2.2.1
      have hY0 : ∀ (σ' τ' : mj_S), (∀ q k, q = 1 ∨ q = 9 ∨ q = 10 → σ' q k = σ q k) → (∀ q k, (q = 0 ∧ k = 6) ∨ q = 2 ∨ q = 3 → τ' q k = τ q k) → z_Y σ' τ' := by
        intro σ' τ' y1 y2
        obtain ⟨h1, h2, h3, h4⟩ := hY
        refine ⟨by rw [y1 1 2 (by omega), y2 0 6 (by omega)]; exact h1, by rw [y1 1 2 (by omega)]; exact h2, by rw [y1 1 2 (by omega)]; exact h3, fun i hi => ?_⟩
        rw [y1 1 2 (by omega)] at hi
        rw [y1 10 i (by omega), y2 3 i (by omega)]
        obtain ⟨k1, k2, k3, k4⟩ := h4 i hi
        exact ⟨k1, k2, k3, fun k hk => by rw [y1 9 _ (by omega), y2 2 _ (by omega)]; exact k4 k hk⟩
      have hP0 : ∀ (σ' τ' : mj_S), (∀ q k, (q = 8 ∧ k = 4) ∨ q = 33 → σ' q k = σ q k) → (∀ q k, (q = 0 ∧ k = 44) ∨ q = 24 → τ' q k = τ q k) → z_P σ' τ' := by
        intro σ' τ' y1 y2
        obtain ⟨p1, p2, p3, p4⟩ := hP
        refine ⟨by rw [y1 8 4 (by omega), y2 0 44 (by omega)]; exact p1, by rw [y1 8 4 (by omega)]; exact p2, by rw [y1 8 4 (by omega)]; exact p3, fun i hi => ?_⟩
        rw [y1 8 4 (by omega)] at hi
        rw [y1 33 i (by omega), y2 24 i (by omega)]
        exact p4 i hi
      -- the reference prints the name
      have refp : ∀ (τ2 τp : mj_S), z_sb (z_zA σ) (σ 12) (τ2 4) (τ2 5) st → τ2 0 5 = 0 → (0 ≤ τp 0 44 ∧ τp 0 44 ≤ 400) → τp 0 43 = σ 0 8 → (∀ (d' : Nat) (R : mj_Q), R none τp → mj_B mjm_L mjm_Ms (d' + 5) 57 [.inr (.inl 0), .inl nm] τ2 R) → (∀ (d' : Nat) (R : mj_Q), R (some (.inl 1)) τ2 → z_rA d' R v nm τb) → ∀ (d' : Nat) (R : mj_Q) (y1 y2 : Int), (∀ y5, qh_m60_144 (d' + 50) R y1 y2 v 1 y5 (mj_up (z_pt τp 10) 0 43 (τp 0 43 + 1))) → qh_m60_56 (d' + 50) R y1 y2 v 1 τ4 := by
        intro τ2 τp sb2 h52 p44 p43 p57 ref d' R y1 y2 hR
        refine refgo d' R y1 y2 τb (lookd τb gl (Or.inl t26)) (fun z => absurd z (by omega)) (fun _ => ref d' _ ⟨_, rfl, fun z => absurd z (by decide), fun _ => ?_⟩)
        refine x_m8 (A := z_zA σ) (B := σ 12) (st := st) (d := d' + 48) (k := 1) l2 sb2 hD gd1.1 (by decide) ⟨_, rfl, ?_⟩
        rw [enm]
        refine qw_m60_115 (d := d' + 49) ⟨fun z => absurd h52 z, fun _ => p57 (d' + 45) _ ⟨rfl, p44.1, p44.2, fun τq f1 => ?_⟩⟩
        have q43 : τq 0 43 = τp 0 43 := by rw [f1]; exact z_pt_o (by omega)
        refine ⟨by rw [q43, p43]; unfold mj_r; omega, fun τr f2 => ?_⟩
        rw [f2, q43, f1]
        exact hR _
      clear SE l7 hY MK hC fm2 fm3 fc3 hτ4 hP hτ5 kv hev bv a21
      rw [l4]
      refine x_add (d := d) (A := z_zA σ) (B := σ 12) (st := st) (c := c) (i := i) (fin := len') (k := 12) l2 sac t05 FNc hD gd1 enm epp ebo ei hi60 gd4 gd5 hDpp hDbb (by omega) (by omega) (Nat.le_refl _) m3 m4 ?_ ?_
      · intro e σ' τ' he f1 f2 h5' ref
        have os : ∀ q k, ¬ ((q = 4 ∧ k = 3) ∨ (q = 5 ∧ k = 4) ∨ (19 ≤ q ∧ q ≤ 23) ∨ (q = 2 ∧ k = 11) ∨ (16 ≤ q ∧ q ≤ 17)) → σ' q k = σ q k := fun q k z => by rw [f1 q k (by omega)]; exact oc q k (by omega)
        have ot : ∀ q k, ¬ ((q = 0 ∧ (k = 5 ∨ k = 26 ∨ k = 33 ∨ k = 36)) ∨ (16 ≤ q ∧ q ≤ 19) ∨ q = 21 ∨ q = 22 ∨ q = 8) → τ' q k = τ q k := fun q k z => by rw [f2 q k (by omega)]; exact ob q k (by omega)
        have hcode' : ∀ i : Nat, (i : Int) < σ 4 3 → σ' 19 i = σ 19 i ∧ σ' 20 i = σ 20 i ∧ σ' 21 i = σ 21 i := fun i hi => by
          rw [f1 19 i (by omega), f1 20 i (by omega), f1 21 i (by omega)]; exact hcode i hi
        have h43 : σ 4 3 ≤ σ' 4 3 := by rw [f1 4 3 (by omega), m2]; omega
        by_cases e0 : e = 0
        · subst e0
          have sa' : z_sa (z_zA σ) (σ 12) (σ' 11) (σ' 12) (τ' 4) (τ' 5) st := fun i i1 i2 => by rw [os 11 i (by omega), os 12 i (by omega), ot 4 i (by omega), ot 5 i (by omega)]; exact sa i i1 i2
          have hH' := z_H_re hH (fun q k z => os q k (by omega)) (fun q k z => ot q k (by omega)) sa'
          refine ⟨0, rfl, fun z => absurd rfl z, fun _ => x_name (d := d) hH' (hY0 σ' τ' (fun q k z => os q k (by omega)) (fun q k z => ot q k (by omega))) (by rw [hbw, os 1 2 (by omega)]; exact Int.le_refl _) (hP0 σ' τ' (fun q k z => os q k (by omega)) (fun q k z => ot q k (by omega))) hD gd1 enm (fun σp τp p1 p2 p3 p4 => hfin 0 (z_pp σp 10) (mj_up (z_pt τp 10) 0 43 (τp 0 43 + 1)) ?_ ?_)⟩
          · exact z_FR_p (S' := S) h5' (fun q k z => os q k (by omega)) hcode' h43 (fun q k z => ot q k (by omega)) (ot 0 43 (by omega)) (by rw [os 7 13 (by omega), ot 0 42 (by omega)]; exact hmo) ⟨S, fuel, hS.1, hS.2.1, by rw [os 7 11 (by omega)]; exact hS.2.2.1, by rw [ot 0 40 (by omega)]; exact hS.2.2.2.1, by rw [os 7 12 (by omega)]; exact hS.2.2.2.2.1, by rw [ot 0 41 (by omega)]; exact hS.2.2.2.2.2⟩ hH' (by rw [os 2 10 (by omega)]; exact Int.le_refl _) (by rw [os 2 10 (by omega), os 7 12 (by omega)]; omega) p1 p2 p3
          · have q1 := p1.1
            have q2 := p1.2.1
            have q3 := p1.2.2.1
            exact refp τ' τp (fun i a b => ⟨(sa' i a b).2.2.1, (sa' i a b).2.2.2⟩) h5' (by omega) (by rw [p3 0 43 (by omega), ot 0 43 (by omega)]; exact hdo.1.symm) p4 (fun d' R hR => ref d' R (by rw [if_pos rfl]; exact hR))
        · refine ⟨e, rfl, fun _ => hfin e σ' τ' (z_FR_e h5' (by omega) (by omega) os hcode' h43 ot hH hmo ⟨S, fuel, hS⟩ (hP0 σ τ (fun _ _ _ => rfl) (fun _ _ _ => rfl))) (fun d' R y1 y2 hR => refgo d' R y1 y2 τb (lookd τb gl (Or.inl t26)) (fun z => absurd z (by omega)) (fun _ => ref d' _ ⟨_, rfl, fun _ => qw_m60_115 (d := d' + 49) ⟨fun _ => hR _, fun z => absurd z (by omega)⟩, fun w => absurd (if_neg e0) w⟩)), fun z => absurd z e0⟩
      · intro σn τn f1 f2 FNn e66 e22 ref
        have os : ∀ q k, ¬ ((q = 4 ∧ k = 3) ∨ (q = 5 ∧ k = 4) ∨ (19 ≤ q ∧ q ≤ 28) ∨ (q = 6 ∧ k = 6)) → σn q k = σ q k := fun q k z => by rw [f1 q k (by omega)]; exact oc q k (by omega)
        have ot : ∀ q k, ¬ ((q = 0 ∧ (k = 5 ∨ k = 22 ∨ k = 26 ∨ k = 33 ∨ k = 36)) ∨ (13 ≤ q ∧ q ≤ 19) ∨ q = 21 ∨ q = 22) → τn q k = τ q k := fun q k z => by rw [f2 q k (by omega)]; exact ob q k (by omega)
        have h5' : τn 0 5 = 0 := by rw [f2 0 5 (by omega)]; exact t05
        have eK : z_zK σn = z_zK σc := by
          have a19 : σn 19 = σc 19 := by funext k; exact f1 19 k (by omega)
          have a20 : σn 20 = σc 20 := by funext k; exact f1 20 k (by omega)
          have a21 : σn 21 = σc 21 := by funext k; exact f1 21 k (by omega)
          unfold z_zK z_op
          rw [f1 4 3 (by omega), a19, a20, a21]
        have sa' : z_sa (z_zA σ) (σ 12) (σn 11) (σn 12) (τn 4) (τn 5) st := fun i i1 i2 => by rw [os 11 i (by omega), os 12 i (by omega), ot 4 i (by omega), ot 5 i (by omega)]; exact sa i i1 i2
        have hH' := z_H_re hH (fun q k z => os q k (by omega)) (fun q k z => ot q k (by omega)) sa'
        have NF : z_NF σ τ σn τn st := ⟨os, ot, h5', by rw [eK]; exact FNn, by rw [e66, oc 6 6 (by omega)], by rw [e22, ob 0 22 (by omega)], by rw [f1 4 3 (by omega), m2]; omega, by rw [f1 4 3 (by omega), m2]; omega⟩
        refine ⟨0, rfl, fun z => absurd rfl z, fun _ => x_name (d := d) hH' (hY0 σn τn (fun q k z => os q k (by omega)) (fun q k z => ot q k (by omega))) (by rw [hbw, os 1 2 (by omega)]; exact Int.le_refl _) (hP0 σn τn (fun q k z => os q k (by omega)) (fun q k z => ot q k (by omega))) hD gd1 enm (fun σp τp p1 p2 p3 p4 => hnew σn τn (z_pp σp 10) (mj_up (z_pt τp 10) 0 43 (τp 0 43 + 1)) NF ?_ (by rw [z_pp_o (by omega)]; exact p2 4 3 (by omega)) ?_)⟩
        · exact z_FR_p (σ := σn) (τ := τn) (S' := S) h5' (fun _ _ _ => rfl) (fun _ _ => ⟨rfl, rfl, rfl⟩) (Int.le_refl _) (fun _ _ _ => rfl) rfl (by rw [os 7 13 (by omega), ot 0 42 (by omega)]; exact hmo) ⟨S, fuel, hS.1, hS.2.1, by rw [os 7 11 (by omega)]; exact hS.2.2.1, by rw [ot 0 40 (by omega)]; exact hS.2.2.2.1, by rw [os 7 12 (by omega)]; exact hS.2.2.2.2.1, by rw [ot 0 41 (by omega)]; exact hS.2.2.2.2.2⟩ hH' (Int.le_refl _) (by omega) p1 p2 p3
        · have q1 := p1.1
          have q2 := p1.2.1
          have q3 := p1.2.2.1
          exact refp τn τp (fun i a b => ⟨(sa' i a b).2.2.1, (sa' i a b).2.2.2⟩) h5' (by omega) (by rw [p3 0 43 (by omega), ot 0 43 (by omega)]; exact hdo.1.symm) p4 ref
    · intro e σb τb Fc Fm hle1 hle2 he hee gl
      obtain ⟨fc1, fc2, fc3⟩ := Fc
      obtain ⟨fm1, fm2, fm3⟩ := Fm
      refine ⟨e, rfl, by omega, fun σc ec => ⟨e, rfl, fun _ => ⟨fun _ => ?_, fun z => absurd z (by omega)⟩, fun z => absurd z (by omega)⟩⟩
      obtain ⟨q1, q2⟩ := z_put_o (σ := σb) (a := 11) (b := 0) (n := 0) hle1
      rw [← ec] at q1 q2
      refine hfin e σc τb (z_FR_e he (by omega) (by omega) (fun q k z => by rw [q1 q k (by omega), fc1 q k (by omega), ko q k (by omega)]) (fun i hi => ?_) (by omega) (fun q k z => by rw [fm1 q k (by omega), oa q k (by omega)]) hH hmo ⟨S, fuel, hS⟩ hP) (fun d' R y1 y2 hR => refgo d' R y1 y2 τb (lookd τb gl (Or.inr (by omega))) (fun _ => qw_m60_115 (d := d' + 49) ⟨fun _ => hR _, fun z => absurd z (by omega)⟩) (fun z => absurd z (by omega)))
      obtain ⟨c1, c2, c3⟩ := fc2 i (by omega)
      rw [q1 19 i (by omega), q1 20 i (by omega), q1 21 i (by omega), c1, c2, c3, ko 19 i (by omega), ko 20 i (by omega), ko 21 i (by omega)]
      exact ⟨rfl, rfl, rfl⟩
