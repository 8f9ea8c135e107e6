/-! definitions: what is looked at before code is made -/
theorem z_cd_zA (σ : mj_S) (x : Int) : z_cd (z_zA σ) x = z_cd (σ 11) x := by
  unfold z_cd
  by_cases c : 536870912 ≤ x ∧ x < 536871512
  · rw [if_pos c, if_pos c, z_zA_i σ (by omega)]
  · rw [if_neg c, if_neg c]
theorem z_el_zA (σ : mj_S) (B : Nat → Int) (x : Int) (i : Nat) : z_el (z_zA σ) B x i = z_el (σ 11) B x i := z_cd_zA σ _
theorem z_D_nth {A B : Nat → Int} {w : Int} {st k : Nat} (hw : w ≤ 536870912) : ∀ {i n s : Nat} {x : Int}, z_D A B w 0 st k s x → z_len B x n → i ≤ n → ∃ s', s' + i ≤ s ∧ z_D A B w 0 st k s' (z_nth B x i)
  | 0, n, s, x, h, _, _ => ⟨s, by omega, h⟩
  | i + 1, n, s, x, h, hl, hi => by
    obtain ⟨s', h1, h2⟩ := z_D_nth hw h hl (i := i) (by omega)
    obtain ⟨k', p, s1, s2, g1, g2, g3, g4, g5, g6, g7⟩ := z_D_p hw h2 (hl.1 i (by omega)).1
    exact ⟨s2, by omega, g7⟩
/-- parameters and body of a definition -/
theorem z_D_df {A B : Nat → Int} {w : Int} {st k s : Nat} {x : Int} (hw : w ≤ 536870912) (h : z_D A B w 0 st k s x) (hl : z_isl B x 4) : ∃ sp sb, sp + sb + 4 ≤ s ∧ z_D A B w 0 st k sp (z_el A B x 2) ∧ z_D A B w 0 st k sb (z_el A B x 3) := by
  obtain ⟨s', h1, h2⟩ := z_D_nth hw h hl.1 (i := 2) (by omega)
  obtain ⟨k', p, s1, s2, g1, g2, g3, g4, g5, g6, g7⟩ := z_D_p hw h2 (hl.1.1 2 (by omega)).1
  obtain ⟨k2, p2, s3, s4, f1, f2, f3, f4, f5, f6, f7⟩ := z_D_p hw g7 (hl.1.1 3 (by omega)).1
  exact ⟨s1, s3, by omega, z_D_mono (Int.le_refl _) (Nat.le_refl _) (by omega) (by omega) g6, z_D_mono (Int.le_refl _) (Nat.le_refl _) (by omega) (by omega) f6⟩
def z_gd (A B : Nat → Int) (v : Int) (c : Nat) : Prop := z_isl B v 4 ∧ 268435476 < z_el A B v 1 ∧ z_el A B v 1 < 536870912 ∧ z_isl B (z_el A B v 2) c ∧ c ≤ 5 ∧ z_vs (fun i => z_el A B (z_el A B v 2) i) c
theorem z_nth_dr {B : Nat → Int} {x : Int} {n : Nat} (hl : z_len B x n) (hx : ∀ i, z_dr (z_cd B (z_nth B x i))) (h0 : z_dr x) : ∀ i, z_dr (z_nth B x i)
  | 0 => h0
  | i + 1 => hx i
/-- the program -/
theorem c_mkdef {σ : mj_S} {A B : Nat → Int} (eA : σ 11 = A) (eB : σ 12 = B) {v : Int} {n0 np : Nat} (hl0 : z_len B v n0) (hn0 : n0 ≤ 400) (hnth : ∀ i, z_dr (z_nth B v i)) (hlp : z_len B (z_el A B v 2) np) (hnp : np ≤ 400) (hdr : ∀ i, i < np → z_dr (z_el A B (z_el A B v 2) i)) (hdn : ∀ i, z_dr (z_nth B (z_el A B v 2) i)) (h1r : mj_r (z_el A B v 1)) {d : Nat} {Q : mj_Q}
    (hbad : ¬ (∃ c, z_gd A B v c) → Q (some (.inl 1)) σ) (hgood : ∀ c, z_gd A B v c → mj_B mjc_L mjc_Ms (d + 3) 68 [.inr (.inl 5), .inl (z_el A B v 3), .inl ((c : Int) + 1), .inl 1, .inl 0] (z_ks (mj_up σ 5 4 0) 0 (fun i => z_el A B (z_el A B v 2) i) 0 c) (fun r σ3 => ∃ v4, r = some (.inl v4) ∧ 0 ≤ σ3 4 3 ∧ ∀ σ5, σ5 = z_put σ3 11 0 0 → Q (some (.inl v4)) σ5)) : mj_B mjc_L mjc_Ms (d + 4) 63 [.inr (.inl 5), .inl v] σ Q := by
  subst eA eB
  refine wq_c63 (d := d + 1) (t_c22 (d := d + 1) (k := 1) (by decide) (fun i _ => hnth i) ⟨_, rfl, t_c23 (d := d + 1) hl0 hn0 ⟨_, rfl, fun z => hbad (fun ⟨c, g⟩ => z ((z_ln_2 hl0 4).mpr g.1)), fun z => ?_⟩⟩)
  have h4 := (z_ln_2 hl0 4).mp z
  refine ⟨fun z2 => hbad (fun ⟨c, g⟩ => z2 ⟨by have := g.2.1; omega, g.2.2.1⟩), fun z2 => ⟨fun z3 => ?_, fun z3 => hbad (fun ⟨c, g⟩ => absurd z3 (by have := g.2.1; omega))⟩⟩
  refine t_c22 (d := d + 1) (k := 2) (by decide) (fun i _ => hnth i) ⟨_, rfl, t_c23 (d := d + 1) hlp hnp ⟨_, rfl, fun z4 => hbad (fun ⟨c, g⟩ => ?_), fun z4 => ⟨fun z5 => hbad (fun ⟨c, g⟩ => ?_), fun z5 => ?_⟩⟩⟩
  · rw [(z_ln_2 hlp c).mpr g.2.2.2.1] at z4; omega
  · rw [(z_ln_2 hlp c).mpr g.2.2.2.1] at z5; have := g.2.2.2.2.1; omega
  · have hnil : z_nth (σ 12) (z_el (σ 11) (σ 12) v 2) np = 268435456 := by
      unfold z_ln at z4
      by_cases c : z_nth (σ 12) (z_el (σ 11) (σ 12) v 2) np = 268435456
      · exact c
      · rw [if_neg c] at z4; omega
    have eln : z_ln (σ 12) (z_el (σ 11) (σ 12) v 2) np = (np : Int) := by unfold z_ln; rw [if_pos hnil]
    rw [eln] at z5 ⊢
    have hisl : z_isl (σ 12) (z_el (σ 11) (σ 12) v 2) np := ⟨hlp, hnil⟩
    refine t_c64 (d := d) (nm := fun i => z_el (σ 11) (σ 12) (z_el (σ 11) (σ 12) v 2) i) hlp hnp hdr (fun i => by unfold z_ni; rw [if_pos rfl]) (fun hvs => ⟨_, rfl, fun _ σ11 e11 => ?_, fun z => absurd z (by decide)⟩) (fun hvs => ⟨_, rfl, fun z => absurd rfl z, fun _ => hbad (fun ⟨c, g⟩ => ?_)⟩)
    · have o11 : σ11 11 = σ 11 := by rw [e11]; funext k; exact mj_up_ne (by omega)
      have o12 : σ11 12 = σ 12 := by rw [e11]; funext k; exact mj_up_ne (by omega)
      have h54 : σ11 5 4 = ((0 : Nat) : Int) := by rw [e11, mj_up_eq]; rfl
      have hg := hgood np ⟨h4, z3, z2.2, hisl, by omega, hvs⟩
      rw [← e11] at hg
      have go : ∀ j i, i + j = np → qh_c63_89 (d + 3) Q v (z_el (σ 11) (σ 12) v 1) (z_el (σ 11) (σ 12) v 2) (np : Int) (i : Int) (z_ks σ11 0 (fun i => z_el (σ 11) (σ 12) (z_el (σ 11) (σ 12) v 2) i) 0 i) := by
        intro j
        induction j with
        | zero =>
          intro i hij
          have : i = np := by omega
          subst this
          refine qw_c63_89 (d := d + 1) ⟨fun _ => ?_, fun z => absurd z (by omega)⟩
          have p11 : z_ks σ11 0 (fun i => z_el (σ 11) (σ 12) (z_el (σ 11) (σ 12) v 2) i) 0 i 11 = σ 11 := by funext k; rw [z_ks_o (by omega), o11]
          have p12 : z_ks σ11 0 (fun i => z_el (σ 11) (σ 12) (z_el (σ 11) (σ 12) v 2) i) 0 i 12 = σ 12 := by funext k; rw [z_ks_o (by omega), o12]
          refine t_c22 (d := d + 1) (k := 3) (by decide) (fun t _ => by rw [p12]; exact hnth t) ⟨_, rfl, by unfold mj_r; omega, ?_⟩
          rw [p11, p12]
          exact hg
        | succ j ih =>
          intro i hij
          have p11 : z_ks σ11 0 (fun i => z_el (σ 11) (σ 12) (z_el (σ 11) (σ 12) v 2) i) 0 i 11 = σ 11 := by funext k; rw [z_ks_o (by omega), o11]
          have p12 : z_ks σ11 0 (fun i => z_el (σ 11) (σ 12) (z_el (σ 11) (σ 12) v 2) i) 0 i 12 = σ 12 := by funext k; rw [z_ks_o (by omega), o12]
          refine qw_c63_89 (d := d + 1) ⟨fun z => absurd z (by omega), fun _ => t_c22 (d := d + 1) (k := i) (by omega) (fun t _ => by rw [p12]; exact hdn t) ⟨_, rfl, ?_⟩⟩
          have e54 := z_ks_54 (nm := fun i => z_el (σ 11) (σ 12) (z_el (σ 11) (σ 12) v 2) i) (pl := 0) h54 i
          rw [p11, p12, e54]
          refine ⟨by omega, fun σ8 e8 => ⟨by unfold mj_r; omega, ?_⟩⟩
          have e8' : σ8 = z_ks σ11 0 (fun i => z_el (σ 11) (σ 12) (z_el (σ 11) (σ 12) v 2) i) 0 (i + 1) := by
            rw [e8, z_kn_1 e54 (by omega)]
            show _ = mj_up (mj_up (mj_up (z_ks σ11 0 (fun i => z_el (σ 11) (σ 12) (z_el (σ 11) (σ 12) v 2) i) 0 i) 22 (0 + i) _) 23 (0 + i) (0 + (i : Int))) 5 4 ((0 + i : Nat) + 1)
            rw [Int.zero_add]
          rw [e8', show ((i : Int) + 1) = ((i + 1 : Nat) : Int) by omega]
          exact ih (i + 1) (by omega)
      exact go np 0 (by omega)
    · have : c = np := by have a := g.2.2.2.1.1; exact z_len_un a hlp
      subst this
      exact hvs g.2.2.2.2.2
/-- the reference -/
theorem r_mkdef {A B : Nat → Int} {st : Nat} {τ : mj_S} (hst : st ≤ 400) (hs : z_sb A B (τ 4) (τ 5) st) (h5 : τ 0 5 = 0) (h33 : τ 0 33 = ((0 : Nat) : Int)) {v : Int} {n0 : Nat} (hD : z_dt A B st v) (hl0 : z_len B v n0) {d : Nat} {Q : mj_Q}
    (hbad : ¬ (∃ c, z_gd A B v c) → Q (some (.inl 0)) (mj_up τ 0 5 1)) (hgood : ∀ c, z_gd A B v c → qh_m35_78 (d + 6) Q v 1 (z_el A B v 1) 268435456 (z_bs τ 0 (fun i => z_el A B (z_el A B v 2) i) (fun _ => 0) c)) : mj_B mjm_L mjm_Ms (d + 7) 35 [.inr (.inl 0), .inl v] τ Q := by
  have bad : ¬ (∃ c, z_gd A B v c) → qh_m35_51 (d + 6) Q v 0 τ := fun h => qw_m35_51 (d := d + 5) ⟨fun z => absurd rfl z, fun _ σ5 e5 => by rw [e5, z_sp0 h5]; exact hbad h⟩
  have hl := z_sb_len hs hD hl0
  have hn0 := z_len_400 hst hD hl0
  refine wq_m35 (d := d + 5) (t_m7 (d := d + 4) hl hn0 ⟨_, rfl, fun z => bad (fun ⟨c, g⟩ => z ((z_ln_2 hl 4).mpr ⟨z_sb_len hs hD g.1.1, by rw [z_sb_nth hs hD g.1.1 4 (Nat.le_refl _)]; exact g.1.2⟩)), fun z => ?_⟩)
  have h4m := (z_ln_2 hl 4).mp z
  have en := z_len_un hl h4m.1
  subst en
  have h4 : z_isl B v 4 := ⟨hl0, by rw [← z_sb_nth hs hD hl0 4 (Nat.le_refl _)]; exact h4m.2⟩
  refine x_m8 (A := A) (B := B) (st := st) (d := d + 4) (k := 1) hst hs hD h4.1 (by decide) ⟨_, rfl, fun z2 => bad (fun ⟨c, g⟩ => z2 ⟨by have := g.2.1; omega, g.2.2.1⟩), fun z2 => ?_⟩
  refine x_m8 (A := A) (B := B) (st := st) (d := d + 4) (k := 1) hst hs hD h4.1 (by decide) ⟨_, rfl, fun z3 => bad (fun ⟨c, g⟩ => absurd z3 (by have := g.2.1; omega)), fun z3 => ?_⟩
  refine x_m8 (A := A) (B := B) (st := st) (d := d + 4) (k := 2) hst hs hD h4.1 (by decide) ⟨_, rfl, ?_⟩
  have hDp := z_dt_el hD h4.1 (i := 2) (by decide)
  obtain ⟨np, hlp⟩ : ∃ np, z_len B (z_el A B v 2) np := by
    obtain ⟨sp, hp⟩ := hDp
    obtain ⟨np, g1, g2⟩ := z_D_len (z_bw_le A) sp hp
    exact ⟨np, g1⟩
  have hnp := z_len_400 hst hDp hlp
  have hlpm := z_sb_len hs hDp hlp
  have enth := z_sb_nth hs hDp hlp np (Nat.le_refl _)
  have enm : ∀ i, i < np → z_el (τ 4) (τ 5) (z_el A B v 2) i = z_el A B (z_el A B v 2) i := fun i hi => z_sb_el hs hDp hlp hi
  have vse : z_vs (fun i => z_el (τ 4) (τ 5) (z_el A B v 2) i) np ↔ z_vs (fun i => z_el A B (z_el A B v 2) i) np := by
    unfold z_vs
    constructor
    · intro h i hi
      have := h i hi
      dsimp only at this ⊢
      rw [enm i hi] at this
      exact ⟨this.1, fun j hj => by rw [← enm j (by omega)]; exact this.2 j hj⟩
    · intro h i hi
      have := h i hi
      dsimp only at this ⊢
      rw [enm i hi]
      exact ⟨this.1, fun j hj => by rw [enm j (by omega)]; exact this.2 j hj⟩
  refine t_m33 (d := d + 1) (nm := fun i => z_el (τ 4) (τ 5) (z_el A B v 2) i) hlpm hnp (fun i => rfl) (fun k1 k2 k3 => ⟨_, rfl, fun z => absurd z (by decide), fun _ => ?_⟩) (fun hno => ⟨_, rfl, fun _ => bad (fun ⟨c, g⟩ => ?_), fun z => absurd rfl z⟩)
  · rw [enth] at k1
    have hgd : z_gd A B v np := ⟨h4, z3, z2.2, ⟨hlp, k1⟩, k2, vse.mp k3⟩
    have hg := hgood np hgd
    refine qw_m35_51 (d := d + 5) ⟨fun _ => ?_, fun z => absurd z (by decide)⟩
    refine x_m8 (A := A) (B := B) (st := st) (d := d + 4) (k := 1) hst hs hD h4.1 (by decide) ⟨_, rfl, x_m8 (A := A) (B := B) (st := st) (d := d + 4) (k := 2) hst hs hD h4.1 (by decide) ⟨_, rfl, ?_⟩⟩
    have b4 : ∀ i, z_bs τ 0 (fun i => z_el A B (z_el A B v 2) i) (fun _ => 0) i 4 = τ 4 := fun i => by funext k; exact z_bs_o (by omega)
    have b5 : ∀ i, z_bs τ 0 (fun i => z_el A B (z_el A B v 2) i) (fun _ => 0) i 5 = τ 5 := fun i => by funext k; exact z_bs_o (by omega)
    have go : ∀ j i, i + j = np → qh_m35_78 (d + 6) Q v 1 (z_el A B v 1) (z_nth B (z_el A B v 2) i) (z_bs τ 0 (fun i => z_el A B (z_el A B v 2) i) (fun _ => 0) i) := by
      intro j
      induction j with
      | zero =>
        intro i hij
        have : i = np := by omega
        subst this
        rw [k1]
        exact hg
      | succ j ih =>
        intro i hij
        have g1 := hlp.1 i (by omega)
        have hDn := z_dt_nth hDp hlp i (by omega)
        obtain ⟨y1, y2⟩ := z_sb_cd hs hDn g1.1
        refine qw_m35_78 (d := d + 5) ⟨fun z => absurd g1.1 z, fun _ => ?_⟩
        rw [b4, z_bs_33 h33, y1]
        refine ⟨⟨g1.1, by omega⟩, by omega, by omega, fun σ2 e2 => ⟨⟨g1.1, by omega⟩, ?_⟩⟩
        have e2' : σ2 = z_bs τ 0 (fun i => z_el A B (z_el A B v 2) i) (fun _ => 0) (i + 1) := by
          rw [e2, z_bi_1 (v := 0 + i) (z_bs_33 h33 i)]
          rfl
        rw [e2', b5, y2]
        exact ih (i + 1) (by omega)
    exact go np 0 (by omega)
  · have ec : c = np := z_len_un g.2.2.2.1.1 hlp
    subst ec
    exact hno ⟨by rw [enth]; exact g.2.2.2.1.2, g.2.2.2.2.1, vse.mpr g.2.2.2.2.2⟩
