/-! calls -/
/-- the reference looks a function up -/
theorem t_m34 {τ : mj_S} {nf : Nat} {x : Int} (h22 : τ 0 22 = nf) (hnf : nf ≤ 16) {d : Nat} {Q : mj_Q} (h1 : ∀ f : Nat, f < nf → τ 13 f = x → Q (some (.inl (f : Int))) τ) (h2 : (∀ f : Nat, f < nf → ¬ τ 13 f = x) → Q (some (.inl (-1))) τ) : mj_B mjm_L mjm_Ms (d + 1) 34 [.inr (.inl 0), .inl x] τ Q := by
  have go : ∀ c j, j + c = nf → (∀ f : Nat, f < j → ¬ τ 13 f = x) → qh_m34_2 d Q x (j : Int) τ := by
    intro c
    induction c with
    | zero =>
      intro j hj hno
      exact qw_m34_2 ⟨fun _ => h2 (fun f hf => hno f (by omega)), fun z => absurd z (by rw [h22]; omega)⟩
    | succ c ih =>
      intro j hj hno
      refine qw_m34_2 ⟨fun z => absurd z (by rw [h22]; omega), fun _ => ⟨by omega, by omega, fun z => ⟨by unfold mj_r; omega, ?_⟩, fun z => ?_⟩⟩
      · rw [Int.toNat_natCast] at z
        rw [show (j : Int) + 1 = ((j + 1 : Nat) : Int) by omega]
        refine ih (j + 1) (by omega) (fun f hf => ?_)
        by_cases e : f = j
        · rw [e]; exact z
        · exact hno f (by omega)
      · rw [Int.toNat_natCast] at z
        exact h1 j (by omega) z
  exact wq_m34 (go nf 0 (by omega) (fun f hf => absurd hf (Nat.not_lt_zero f)))
/-- the reference binds the names of a function, and its body is next -/
theorem r_bind {A B : Nat → Int} {st : Nat} {τ : mj_S} (hst : st ≤ 400) (hs : z_sb A B (τ 4) (τ 5) st) {x : Int} {c v m f p : Nat} (hD : z_dt A B st x) (hl : z_isl B x c) (h33 : τ 0 33 = v) (hv : v + c ≤ 400) (h26 : τ 0 26 = m) (hm : m < 3000) (hf : f < 16) (hp : p ≤ 100) {d : Nat} {Q : mj_Q} {y1 y2 y3 : Int} (hq : Q none (z_l1 (z_bs τ v (fun j => z_el A B x j) (fun j => (p : Int) + (j : Int)) c) m 1 (τ 15 f) 0 1)) : qh_m47_221 (d + 2) Q y1 y2 y3 (f : Int) (p : Int) x τ := by
  generalize hnm : (fun j => z_el A B x j) = nm at hq
  generalize hpf : (fun j : Nat => (p : Int) + (j : Int)) = pf at hq
  have hc := z_len_400 hst hD hl.1
  have s4 : ∀ j, z_bs τ v nm pf j 4 = τ 4 := fun j => by funext k; exact z_bs_o (by omega)
  have s5 : ∀ j, z_bs τ v nm pf j 5 = τ 5 := fun j => by funext k; exact z_bs_o (by omega)
  have go : ∀ c' j, j + c' = c → qh_m47_221 (d + 2) Q y1 y2 y3 (f : Int) ((p : Int) + (j : Int)) (z_nth B x j) (z_bs τ v nm pf j) := by
    intro c'
    induction c' with
    | zero =>
      intro j hj
      have : j = c := by omega
      subst this
      have e26 : z_bs τ v nm pf j 0 26 = m := by rw [z_bs_o (by omega)]; exact h26
      have e15 : z_bs τ v nm pf j 15 f = τ 15 f := z_bs_o (by omega)
      refine qw_m47_221 ⟨fun _ => ⟨by omega, by omega, by omega, by omega, Or.inr rfl, fun σ1 e1 => ?_⟩, fun z => absurd z (by rw [hl.2]; omega)⟩
      rw [e1, z_la_1 e26, Int.toNat_natCast, e15]
      exact hq
    | succ c' ih =>
      intro j hj
      have g1 := hl.1.1 j (by omega)
      have hDn := z_dt_nth hD hl.1 j (by omega)
      obtain ⟨y1', y2'⟩ := z_sb_cd hs hDn g1.1
      refine qw_m47_221 ⟨fun z => absurd g1.1 z, fun _ => ?_⟩
      rw [s4, z_bs_33 h33, y1']
      refine ⟨⟨g1.1, by omega⟩, by omega, by omega, fun σ2 e2 => ⟨by unfold mj_r; omega, ⟨g1.1, by omega⟩, ?_⟩⟩
      have e2' : σ2 = z_bs τ v nm pf (j + 1) := by
        rw [e2, z_bi_1 (v := v + j) (z_bs_33 h33 j)]
        show _ = mj_up (mj_up (mj_up (z_bs τ v nm pf j) 21 (v + j) (nm j)) 22 (v + j) (pf j)) 0 33 ((v + j : Nat) + 1)
        rw [← hnm, ← hpf]
        rfl
      rw [e2', s5, y2', show (p : Int) + (j : Int) + 1 = (p : Int) + ((j + 1 : Nat) : Int) by omega]
      exact ih (j + 1) (by omega)
  have := go c 0 (by omega)
  rw [show (p : Int) + ((0 : Nat) : Int) = (p : Int) by omega] at this
  exact this
/-- what a call leaves: names, the thing on top -/
theorem r_bind_f {A B : Nat → Int} {τ : mj_S} {x bo : Int} {c v m p : Nat} (h33 : τ 0 33 = v) :
    (∀ q k, ¬ ((16 ≤ q ∧ q ≤ 19 ∧ k = m) ∨ ((q = 21 ∨ q = 22) ∧ v ≤ k) ∨ (q = 0 ∧ (k = 26 ∨ k = 33))) → z_l1 (z_bs τ v (fun j => z_el A B x j) (fun j => (p : Int) + (j : Int)) c) m 1 bo 0 1 q k = τ q k) ∧
    z_l1 (z_bs τ v (fun j => z_el A B x j) (fun j => (p : Int) + (j : Int)) c) m 1 bo 0 1 0 33 = ((v + c : Nat) : Int) ∧
    z_ev (z_l1 (z_bs τ v (fun j => z_el A B x j) (fun j => (p : Int) + (j : Int)) c) m 1 bo 0 1 21) (z_l1 (z_bs τ v (fun j => z_el A B x j) (fun j => (p : Int) + (j : Int)) c) m 1 bo 0 1 22) p v (z_bd (fun j => z_el A B x j) 0 c []) (v + c) := by
  refine ⟨fun q k z => by rw [z_l1_o (by omega), z_bs_o (by omega)], by rw [z_l1_o (by omega)]; exact z_bs_33 h33 c, ?_⟩
  have := z_bs_ev (τ := τ) (v := v) (fb := p) (bg := v) (p0 := 0) (E := []) (nm := fun j => z_el A B x j) (pf := fun j => (p : Int) + (j : Int)) h33 rfl (c := c) (fun i _ => by omega)
  exact z_ev_frame (fun i _ => ⟨z_l1_o (by omega), z_l1_o (by omega)⟩) this
/-- a function that is not there -/
theorem r_calln {A B : Nat → Int} {st : Nat} {τ : mj_S} (hst : st ≤ 400) (hs : z_sb A B (τ 4) (τ 5) st) {m i nf : Nat} {x t : Int} (h26 : τ 0 26 = (m : Int) + 1) (hm : m + 1 < 3000) (h5 : τ 0 5 = 0) (hv : τ 16 m = 14 ∧ τ 17 m = x ∧ τ 18 m = i ∧ τ 19 m = t) (h22 : τ 0 22 = nf) (hnf : nf ≤ 16) (hno : ∀ f : Nat, f < nf → ¬ τ 13 f = x) : z_ge τ (mj_up (mj_up τ 0 26 (m : Int)) 0 5 3) := by
  refine r_turn h26 (by omega) h5 (fun d Q hq => ?_)
  rw [hv.1, hv.2.1, hv.2.2.1, hv.2.2.2]
  refine wq_m41 (d := d + 27) ⟨fun z => absurd z (by decide), fun z => absurd z (by decide), fun z => absurd z (by decide), fun z => absurd z (by decide), fun z => absurd z (by decide), fun z => absurd z (by decide), fun z => absurd z (by decide), fun z => absurd z (by decide), fun z => absurd z (by decide), fun z => absurd z (by decide), fun z => absurd z (by decide), fun z => absurd z (by decide), fun z => absurd z (by decide), fun _ => ?_, fun z => absurd ⟨by decide, by decide⟩ z⟩
  generalize hτ1 : mj_up τ 0 26 (m : Int) = τ1 at hq ⊢
  have o1 : ∀ q k, ¬ (q = 0 ∧ k = 26) → τ1 q k = τ q k := fun q k z => by rw [← hτ1, mj_up_ne z]
  have b26 : τ1 0 26 = m := by rw [← hτ1, mj_up_eq]
  have b4 : τ1 4 = τ 4 := by funext k; exact o1 4 k (by omega)
  have b5 : τ1 5 = τ 5 := by funext k; exact o1 5 k (by omega)
  have b05 : τ1 0 5 = 0 := by rw [o1 0 5 (by omega)]; exact h5
  have b22 : τ1 0 22 = nf := by rw [o1 0 22 (by omega)]; exact h22
  have s1 : z_sb A B (τ1 4) (τ1 5) st := by rw [b4, b5]; exact hs
  refine wq_m47 (d := d + 26) (t_m34 (d := d + 27) (nf := nf) (x := x) b22 hnf (fun f' a1 a2 => absurd ((o1 13 f' (by omega)).symm.trans a2) (hno f' a1)) (fun _ => ⟨_, rfl, fun _ => ⟨fun z => absurd z (by omega), fun _ σ4 e4 => ⟨rfl, ?_⟩⟩, fun z => absurd z (by omega)⟩))
  rw [e4]
  unfold z_sp
  rw [if_pos b05]
  exact hq
/-- a function with another number of parameters -/
theorem r_calla {A B : Nat → Int} {st : Nat} {τ : mj_S} (hst : st ≤ 400) (hs : z_sb A B (τ 4) (τ 5) st) {m i nf : Nat} {x t : Int} (h26 : τ 0 26 = (m : Int) + 1) (hm : m + 1 < 3000) (h5 : τ 0 5 = 0) (hv : τ 16 m = 14 ∧ τ 17 m = x ∧ τ 18 m = i ∧ τ 19 m = t) (h22 : τ 0 22 = nf) (hnf : nf ≤ 16) {f c : Nat} (hf : f < nf) (hfx : τ 13 f = x) (hun : ∀ f' : Nat, f' < nf → τ 13 f' = x → f' = f) (hD : z_dt A B st (τ 14 f)) (hl : z_isl B (τ 14 f) c) (hc : ¬ c = i) : z_ge τ (mj_up (mj_up τ 0 26 (m : Int)) 0 5 4) := by
  refine r_turn h26 (by omega) h5 (fun d Q hq => ?_)
  rw [hv.1, hv.2.1, hv.2.2.1, hv.2.2.2]
  refine wq_m41 (d := d + 27) ⟨fun z => absurd z (by decide), fun z => absurd z (by decide), fun z => absurd z (by decide), fun z => absurd z (by decide), fun z => absurd z (by decide), fun z => absurd z (by decide), fun z => absurd z (by decide), fun z => absurd z (by decide), fun z => absurd z (by decide), fun z => absurd z (by decide), fun z => absurd z (by decide), fun z => absurd z (by decide), fun z => absurd z (by decide), fun _ => ?_, fun z => absurd ⟨by decide, by decide⟩ z⟩
  generalize hτ1 : mj_up τ 0 26 (m : Int) = τ1 at hq ⊢
  have o1 : ∀ q k, ¬ (q = 0 ∧ k = 26) → τ1 q k = τ q k := fun q k z => by rw [← hτ1, mj_up_ne z]
  have b26 : τ1 0 26 = m := by rw [← hτ1, mj_up_eq]
  have b4 : τ1 4 = τ 4 := by funext k; exact o1 4 k (by omega)
  have b5 : τ1 5 = τ 5 := by funext k; exact o1 5 k (by omega)
  have b05 : τ1 0 5 = 0 := by rw [o1 0 5 (by omega)]; exact h5
  have b22 : τ1 0 22 = nf := by rw [o1 0 22 (by omega)]; exact h22
  have s1 : z_sb A B (τ1 4) (τ1 5) st := by rw [b4, b5]; exact hs
  refine wq_m47 (d := d + 26) (t_m34 (d := d + 27) (nf := nf) (x := x) b22 hnf (fun f' a1 a2 => ⟨_, rfl, fun z => absurd z (by omega), fun _ => ⟨by omega, by omega, ?_⟩⟩) (fun no => absurd ((o1 13 f (by omega)).trans hfx) (no f hf)))
  have ef : f' = f := hun f' a1 (by rw [← o1 13 f' (by omega)]; exact a2)
  subst ef
  rw [Int.toNat_natCast, o1 14 f' (by omega)]
  refine x_m7 (d := d + 26) hst s1 hD hl ⟨_, rfl, fun z => absurd z (by omega), fun _ => ⟨fun _ σ15 e15 => ⟨rfl, ?_⟩, fun z => absurd z (by omega)⟩⟩
  rw [e15]
  unfold z_sp
  rw [if_pos b05]
  exact hq
/-- a call: before the empty place -/
def z_c0 (τ : mj_S) (m fr h i v : Nat) : mj_S := z_l1 (mj_up (mj_up (mj_up (mj_up (mj_up (mj_up τ 0 26 (m : Int)) 23 fr (τ 0 36)) 23 (fr + 1) (τ 0 37)) 0 38 ((fr : Int) + 2)) 0 37 ((h : Int) - (i : Int))) 0 36 (v : Int)) m 15 268435456 0 0
theorem z_c0_f {τ : mj_S} {m fr h i v : Nat} : (∀ q k, ¬ ((16 ≤ q ∧ q ≤ 19 ∧ k = m) ∨ (q = 23 ∧ (k = fr ∨ k = fr + 1)) ∨ (q = 0 ∧ (k = 26 ∨ k = 36 ∨ k = 37 ∨ k = 38))) → z_c0 τ m fr h i v q k = τ q k) ∧ z_c0 τ m fr h i v 23 fr = τ 0 36 ∧ z_c0 τ m fr h i v 23 (fr + 1) = τ 0 37 ∧ z_c0 τ m fr h i v 0 38 = (fr : Int) + 2 ∧ z_c0 τ m fr h i v 0 37 = (h : Int) - (i : Int) ∧ z_c0 τ m fr h i v 0 36 = v ∧ z_c0 τ m fr h i v 0 26 = ((m + 1 : Nat) : Int) ∧ z_c0 τ m fr h i v 16 m = 15 := by
  unfold z_c0
  refine ⟨fun q k z => ?_, ?_, ?_, ?_, ?_, ?_, z_l1_v.2.2.2.2, z_l1_v.1⟩
  · rw [z_l1_o (by omega), mj_up_ne (by omega), mj_up_ne (by omega), mj_up_ne (by omega), mj_up_ne (by omega), mj_up_ne (by omega), mj_up_ne (by omega)]
  · rw [z_l1_o (by omega), mj_up_ne (by omega), mj_up_ne (by omega), mj_up_ne (by omega), mj_up_ne (by omega), mj_up_eq]
  · rw [z_l1_o (by omega), mj_up_ne (by omega), mj_up_ne (by omega), mj_up_ne (by omega), mj_up_eq]
  · rw [z_l1_o (by omega), mj_up_ne (by omega), mj_up_ne (by omega), mj_up_eq]
  · rw [z_l1_o (by omega), mj_up_ne (by omega), mj_up_eq]
  · rw [z_l1_o (by omega), mj_up_eq]
theorem r_call0 {A B : Nat → Int} {st : Nat} {τ : mj_S} (hst : st ≤ 400) (hs : z_sb A B (τ 4) (τ 5) st) {m i nf : Nat} {x t : Int} (h26 : τ 0 26 = (m : Int) + 1) (hm : m + 1 < 3000) (h5 : τ 0 5 = 0) (hv : τ 16 m = 14 ∧ τ 17 m = x ∧ τ 18 m = i ∧ τ 19 m = t) (h22 : τ 0 22 = nf) (hnf : nf ≤ 16) {f c : Nat} (hf : f < nf) (hfx : τ 13 f = x) (hun : ∀ f' : Nat, f' < nf → τ 13 f' = x → f' = f) (hD : z_dt A B st (τ 14 f)) (hl : z_isl B (τ 14 f) c) (hc : c = i) (ht : t = 0) {h v fr : Nat} (h31 : τ 0 31 = h) (hh : h ≤ 100) (hi : i ≤ h) (h33 : τ 0 33 = v) (hv4 : v + i ≤ 400) (h38 : τ 0 38 = fr) (hfr : fr + 1 < 220) :
    z_ge τ (z_l1 (z_bs (mj_up (z_pu (z_c0 τ m fr h i v) (-1)) 0 33 (v : Int)) v (fun j => z_el A B (τ 14 f) j) (fun j => ((h - i : Nat) : Int) + (j : Int)) i) (m + 1) 1 (τ 15 f) 0 1) := by
  subst hc ht
  refine r_turn h26 (by omega) h5 (fun d Q hq => ?_)
  rw [hv.1, hv.2.1, hv.2.2.1, hv.2.2.2]
  refine wq_m41 (d := d + 27) ⟨fun z => absurd z (by decide), fun z => absurd z (by decide), fun z => absurd z (by decide), fun z => absurd z (by decide), fun z => absurd z (by decide), fun z => absurd z (by decide), fun z => absurd z (by decide), fun z => absurd z (by decide), fun z => absurd z (by decide), fun z => absurd z (by decide), fun z => absurd z (by decide), fun z => absurd z (by decide), fun z => absurd z (by decide), fun _ => ?_, fun z => absurd ⟨by decide, by decide⟩ z⟩
  generalize hτ1 : mj_up τ 0 26 (m : Int) = τ1 at hq ⊢
  have o1 : ∀ q k, ¬ (q = 0 ∧ k = 26) → τ1 q k = τ q k := fun q k z => by rw [← hτ1, mj_up_ne z]
  have b26 : τ1 0 26 = m := by rw [← hτ1, mj_up_eq]
  have b4 : τ1 4 = τ 4 := by funext k; exact o1 4 k (by omega)
  have b5 : τ1 5 = τ 5 := by funext k; exact o1 5 k (by omega)
  have b05 : τ1 0 5 = 0 := by rw [o1 0 5 (by omega)]; exact h5
  have b22 : τ1 0 22 = nf := by rw [o1 0 22 (by omega)]; exact h22
  have s1 : z_sb A B (τ1 4) (τ1 5) st := by rw [b4, b5]; exact hs
  refine wq_m47 (d := d + 26) (t_m34 (d := d + 27) (nf := nf) (x := x) b22 hnf (fun f' a1 a2 => ⟨_, rfl, fun z => absurd z (by omega), fun _ => ⟨by omega, by omega, ?_⟩⟩) (fun no => absurd ((o1 13 f (by omega)).trans hfx) (no f hf)))
  have ef : f' = f := hun f' a1 (by rw [← o1 13 f' (by omega)]; exact a2)
  subst ef
  rw [Int.toNat_natCast, o1 14 f' (by omega)]
  refine x_m7 (d := d + 26) hst s1 hD hl ⟨_, rfl, fun _ => ⟨fun _ => ?_, fun z => absurd rfl z⟩, fun z => absurd rfl z⟩
  have b38 : τ1 0 38 = fr := by rw [o1 0 38 (by omega)]; exact h38
  have b36 : τ1 0 36 = τ 0 36 := o1 0 36 (by omega)
  have b37 : τ1 0 37 = τ 0 37 := o1 0 37 (by omega)
  have b31 : τ1 0 31 = h := by rw [o1 0 31 (by omega)]; exact h31
  have b33 : τ1 0 33 = v := by rw [o1 0 33 (by omega)]; exact h33
  rw [b38, Int.toNat_natCast, b36]
  refine ⟨by omega, by omega, fun σ7 e7 => ?_⟩
  have c38 : σ7 0 38 = fr := by rw [e7, mj_up_ne (by omega)]; exact b38
  have c37 : σ7 0 37 = τ 0 37 := by rw [e7, mj_up_ne (by omega)]; exact b37
  rw [c38, c37, show ((fr : Int) + 1).toNat = fr + 1 by omega]
  refine ⟨by unfold mj_r; omega, by omega, by omega, fun σ8 e8 => ?_⟩
  have d38 : σ8 0 38 = fr := by rw [e8, mj_up_ne (by omega)]; exact c38
  rw [d38]
  refine ⟨by unfold mj_r; omega, fun σ9 e9 => ?_⟩
  have d31 : σ9 0 31 = h := by rw [e9, mj_up_ne (by omega), e8, mj_up_ne (by omega), e7, mj_up_ne (by omega)]; exact b31
  rw [d31]
  refine ⟨by unfold mj_r; omega, fun σ10 e10 σ11 e11 => ?_⟩
  have d33 : σ10 0 33 = v := by rw [e10, mj_up_ne (by omega), e9, mj_up_ne (by omega), e8, mj_up_ne (by omega), e7, mj_up_ne (by omega)]; exact b33
  rw [d33] at e11
  have d26 : σ11 0 26 = m := by rw [e11, mj_up_ne (by omega), e10, mj_up_ne (by omega), e9, mj_up_ne (by omega), e8, mj_up_ne (by omega), e7, mj_up_ne (by omega)]; exact b26
  refine ⟨by omega, by omega, Or.inl rfl, fun σ12 e12 => ?_⟩
  have e12' : σ12 = z_c0 τ m fr h c v := by
    rw [e12, z_la_1 d26, e11, e10, e9, e8, e7, ← hτ1]
    rfl
  rw [e12']
  obtain ⟨k1, k2, k3, k4, k5, k6, k7, k8⟩ := @z_c0_f τ m fr h c v
  have k31 : z_c0 τ m fr h c v 0 31 = h := by rw [k1 0 31 (by omega)]; exact h31
  have k05 : z_c0 τ m fr h c v 0 5 = 0 := by rw [k1 0 5 (by omega)]; exact h5
  have fp : ∀ q k, ¬ (q = 20 ∨ (q = 0 ∧ (k = 5 ∨ k = 31 ∨ k = 42))) → z_pu (z_c0 τ m fr h c v) (-1) q k = z_c0 τ m fr h c v q k := by
    intro q k z
    by_cases e : h = 100
    · rw [z_pu_d (by rw [k31, e]; rfl) k05, mj_up_ne (by omega)]
    · exact (z_pu_1 (x := -1) k31 (by omega)).1 q k (by omega)
  refine ⟨by omega, by omega, fun σ13 e13 σ14 e14 => ⟨by omega, by omega, ?_⟩⟩
  rw [e13, fp 0 36 (by omega), k6] at e14
  have g : ∀ q k, ¬ ((16 ≤ q ∧ q ≤ 19 ∧ k = m) ∨ (q = 20) ∨ (q = 23 ∧ (k = fr ∨ k = fr + 1)) ∨ (q = 0 ∧ (k = 5 ∨ k = 26 ∨ k = 31 ∨ k = 33 ∨ k = 36 ∨ k = 37 ∨ k = 38 ∨ k = 42))) → σ14 q k = τ q k := fun q k z => by rw [e14, mj_up_ne (by omega), fp q k (by omega), k1 q k (by omega)]
  have g37 : σ14 0 37 = ((h - c : Nat) : Int) := by rw [e14, mj_up_ne (by omega), fp 0 37 (by omega), k5]; omega
  have g4 : σ14 4 = τ 4 := by funext k; exact g 4 k (by omega)
  have g5 : σ14 5 = τ 5 := by funext k; exact g 5 k (by omega)
  rw [g37, g 14 f' (by omega)]
  refine r_bind (A := A) (B := B) (st := st) (d := d + 26) (c := c) (v := v) (m := m + 1) hst (by rw [g4, g5]; exact hs) hD hl (by rw [e14, mj_up_eq]) hv4 (by rw [e14, mj_up_ne (by omega), fp 0 26 (by omega)]; exact k7) (by omega) (by omega) (by omega) ⟨rfl, ?_⟩
  rw [g 15 f' (by omega), e14]
  exact hq
/-- a tail call: the values go down -/
def z_cy (τ : mj_S) (fb f : Nat) : Nat → mj_S
  | 0 => τ
  | c + 1 => mj_up (z_cy τ fb f c) 20 (fb + c) (τ 20 (f + c))
theorem z_cy_o {τ : mj_S} {fb f q k : Nat} : ∀ {c : Nat}, ¬ (q = 20 ∧ fb ≤ k ∧ k < fb + c) → z_cy τ fb f c q k = τ q k
  | 0, _ => rfl
  | c + 1, h => by
    unfold z_cy
    rw [mj_up_ne (by omega), z_cy_o (by omega)]
theorem z_cy_v {τ : mj_S} {fb f : Nat} : ∀ {c j : Nat}, j < c → z_cy τ fb f c 20 (fb + j) = τ 20 (f + j)
  | 0, j, h => absurd h (Nat.not_lt_zero j)
  | c + 1, j, h => by
    unfold z_cy
    by_cases e : j = c
    · rw [e, mj_up_eq]
    · rw [mj_up_ne (by omega), z_cy_v (by omega)]
theorem mj_up_up {σ : mj_S} {q k : Nat} {x y : Int} : mj_up (mj_up σ q k x) q k y = mj_up σ q k y := by
  funext i j
  unfold mj_up
  by_cases h : i = q
  · rw [if_pos h, if_pos h, if_pos h]
    by_cases h2 : j = k
    · rw [if_pos h2, if_pos h2]
    · rw [if_neg h2, if_neg h2, if_neg h2]
  · rw [if_neg h, if_neg h, if_neg h]
theorem mj_up_self {σ : mj_S} {q k : Nat} {x : Int} (h : σ q k = x) : mj_up σ q k x = σ := by
  funext i j
  unfold mj_up
  by_cases h1 : i = q
  · rw [if_pos h1]
    by_cases h2 : j = k
    · rw [if_pos h2, h1, h2, h]
    · rw [if_neg h2]
  · rw [if_neg h1]
theorem r_drop {τ : mj_S} {m0 : Nat} {d : Nat} {Q : mj_Q} {y1 y2 y3 y4 y5 : Int} (hq : qh_m47_98 (d + 2) Q y1 y2 y3 y4 y5 (mj_up τ 0 26 ((m0 + 1 : Nat) : Int))) : ∀ c, m0 + 1 + c ≤ 3000 → (∀ i, m0 < i → i < m0 + 1 + c → ¬ τ 16 i = 15) → qh_m47_98 (d + 2) Q y1 y2 y3 y4 y5 (mj_up τ 0 26 ((m0 + 1 + c : Nat) : Int))
  | 0, _, _ => hq
  | c + 1, h1, h2 => by
    have e : mj_up τ 0 26 ((m0 + 1 + (c + 1) : Nat) : Int) 0 26 - 1 = ((m0 + 1 + c : Nat) : Int) := by rw [mj_up_eq]; omega
    refine qw_m47_98 ?_
    rw [e, Int.toNat_natCast, mj_up_ne (by omega)]
    refine ⟨by unfold mj_r; omega, by omega, by omega, fun z => absurd z (h2 _ (by omega) (by omega)), fun _ => ⟨by unfold mj_r; omega, fun σ3 e3 => ?_⟩⟩
    rw [e3, mj_up_up]
    exact r_drop hq c (by omega) (fun i i1 i2 => h2 i i1 (by omega))
theorem r_call1 {A B : Nat → Int} {st : Nat} {τ : mj_S} (hst : st ≤ 400) (hs : z_sb A B (τ 4) (τ 5) st) {m i nf : Nat} {x t : Int} (h26 : τ 0 26 = (m : Int) + 1) (hm : m + 1 < 3000) (h5 : τ 0 5 = 0) (hv : τ 16 m = 14 ∧ τ 17 m = x ∧ τ 18 m = i ∧ τ 19 m = t) (h22 : τ 0 22 = nf) (hnf : nf ≤ 16) {f c : Nat} (hf : f < nf) (hfx : τ 13 f = x) (hun : ∀ f' : Nat, f' < nf → τ 13 f' = x → f' = f) (hD : z_dt A B st (τ 14 f)) (hl : z_isl B (τ 14 f) c) (hc : c = i) (ht : t = 1) {fl fb bg m0 : Nat} (h31 : τ 0 31 = ((fl + i : Nat) : Int)) (hh : fl + i ≤ 100) (hfl : fb < fl) (h36 : τ 0 36 = bg) (hv4 : bg + i ≤ 400) (h37 : τ 0 37 = fb) (hm0 : m0 < m) (h15 : τ 16 m0 = 15) (hbt : ∀ j, m0 < j → j < m → ¬ τ 16 j = 15) :
    z_ge τ (z_l1 (z_bs (mj_up (z_pu (mj_up (mj_up (z_cy (mj_up τ 0 26 (m : Int)) fb fl i) 0 31 ((fb + i : Nat) : Int)) 0 26 ((m0 + 1 : Nat) : Int)) (-1)) 0 33 (bg : Int)) bg (fun j => z_el A B (τ 14 f) j) (fun j => (fb : Int) + (j : Int)) i) (m0 + 1) 1 (τ 15 f) 0 1) := by
  subst hc ht
  refine r_turn h26 (by omega) h5 (fun d Q hq => ?_)
  rw [hv.1, hv.2.1, hv.2.2.1, hv.2.2.2]
  refine wq_m41 (d := d + 27) ⟨fun z => absurd z (by decide), fun z => absurd z (by decide), fun z => absurd z (by decide), fun z => absurd z (by decide), fun z => absurd z (by decide), fun z => absurd z (by decide), fun z => absurd z (by decide), fun z => absurd z (by decide), fun z => absurd z (by decide), fun z => absurd z (by decide), fun z => absurd z (by decide), fun z => absurd z (by decide), fun z => absurd z (by decide), fun _ => ?_, fun z => absurd ⟨by decide, by decide⟩ z⟩
  generalize hτ1 : mj_up τ 0 26 (m : Int) = τ1 at hq ⊢
  have o1 : ∀ q k, ¬ (q = 0 ∧ k = 26) → τ1 q k = τ q k := fun q k z => by rw [← hτ1, mj_up_ne z]
  have b26 : τ1 0 26 = m := by rw [← hτ1, mj_up_eq]
  have b4 : τ1 4 = τ 4 := by funext k; exact o1 4 k (by omega)
  have b5 : τ1 5 = τ 5 := by funext k; exact o1 5 k (by omega)
  have b05 : τ1 0 5 = 0 := by rw [o1 0 5 (by omega)]; exact h5
  have b22 : τ1 0 22 = nf := by rw [o1 0 22 (by omega)]; exact h22
  have s1 : z_sb A B (τ1 4) (τ1 5) st := by rw [b4, b5]; exact hs
  refine wq_m47 (d := d + 26) (t_m34 (d := d + 27) (nf := nf) (x := x) b22 hnf (fun f' a1 a2 => ⟨_, rfl, fun z => absurd z (by omega), fun _ => ⟨by omega, by omega, ?_⟩⟩) (fun no => absurd ((o1 13 f (by omega)).trans hfx) (no f hf)))
  have ef : f' = f := hun f' a1 (by rw [← o1 13 f' (by omega)]; exact a2)
  subst ef
  rw [Int.toNat_natCast, o1 14 f' (by omega)]
  refine x_m7 (d := d + 26) hst s1 hD hl ⟨_, rfl, fun _ => ⟨fun z => absurd z (by decide), fun _ => ?_⟩, fun z => absurd rfl z⟩
  have b31 : τ1 0 31 = ((fl + c : Nat) : Int) := by rw [o1 0 31 (by omega)]; exact h31
  have b36 : τ1 0 36 = bg := by rw [o1 0 36 (by omega)]; exact h36
  have b37 : τ1 0 37 = fb := by rw [o1 0 37 (by omega)]; exact h37
  have go : ∀ c' j, j + c' = c → qh_m47_50 (d + 28) (fun r σ33 => r = none ∧ Q none σ33) x (c : Int) 1 (f' : Int) (j : Int) (z_cy τ1 fb fl j) := by
    intro c'
    induction c' with
    | zero =>
      intro j hj
      have : j = c := by omega
      subst this
      have k37 : z_cy τ1 fb fl j 0 37 = fb := by rw [z_cy_o (by omega)]; exact b37
      refine qw_m47_50 (d := d + 26) ⟨fun _ => ?_, fun z => absurd z (by omega)⟩
      rw [k37, show (fb : Int) + (j : Int) = ((fb + j : Nat) : Int) by omega]
      refine ⟨by unfold mj_r; omega, fun σ1 e1 => ?_⟩
      have k26 : σ1 0 26 = m := by rw [e1, mj_up_ne (by omega), z_cy_o (by omega)]; exact b26
      have hk : ∀ q k, ¬ ((q = 20) ∨ (q = 0 ∧ (k = 26 ∨ k = 31))) → σ1 q k = τ q k := fun q k z => by rw [e1, mj_up_ne (by omega), z_cy_o (by omega), o1 q k (by omega)]
      have fin : qh_m47_98 (d + 28) (fun r σ33 => r = none ∧ Q none σ33) x (j : Int) 1 (f' : Int) (j : Int) (mj_up σ1 0 26 ((m0 + 1 : Nat) : Int)) := by
        have e26 : mj_up σ1 0 26 ((m0 + 1 : Nat) : Int) 0 26 - 1 = (m0 : Int) := by rw [mj_up_eq]; omega
        have k31 : mj_up σ1 0 26 ((m0 + 1 : Nat) : Int) 0 31 = ((fb + j : Nat) : Int) := by rw [mj_up_ne (by omega), e1, mj_up_eq]
        refine qw_m47_98 (d := d + 26) ?_
        rw [e26, Int.toNat_natCast]
        refine ⟨by unfold mj_r; omega, by omega, by omega, fun _ => ⟨by omega, by omega, fun σ3 e3 σ4 e4 => ⟨by omega, by omega, ?_⟩⟩, fun z => absurd ((mj_up_ne (by omega)).trans ((hk 16 m0 (by omega)).trans h15)) z⟩
        have fp := (z_pu_1 (x := -1) k31 (by omega)).1
        have k36 : z_pu (mj_up σ1 0 26 ((m0 + 1 : Nat) : Int)) (-1) 0 36 = bg := by rw [fp 0 36 (by omega), mj_up_ne (by omega), hk 0 36 (by omega)]; exact h36
        rw [e3, k36] at e4
        have g : ∀ q k, ¬ ((q = 20) ∨ (q = 0 ∧ (k = 26 ∨ k = 31 ∨ k = 33 ∨ k = 42))) → σ4 q k = τ q k := fun q k z => by rw [e4, mj_up_ne (by omega), fp q k (by omega), mj_up_ne (by omega), hk q k (by omega)]
        have g4 : σ4 4 = τ 4 := by funext k; exact g 4 k (by omega)
        have g5 : σ4 5 = τ 5 := by funext k; exact g 5 k (by omega)
        rw [g 0 37 (by omega), h37, Int.toNat_natCast, g 14 f' (by omega)]
        refine r_bind (A := A) (B := B) (st := st) (d := d + 26) (c := j) (v := bg) (m := m0 + 1) hst (by rw [g4, g5]; exact hs) hD hl (by rw [e4, mj_up_eq]) hv4 (by rw [e4, mj_up_ne (by omega), fp 0 26 (by omega), mj_up_eq]) (by omega) (by omega) (by omega) ⟨rfl, ?_⟩
        rw [g 15 f' (by omega), e4, e1]
        exact hq
      have := r_drop (τ := σ1) (m0 := m0) (d := d + 26) fin (m - (m0 + 1)) (by omega) (fun k i1 i2 => by rw [hk 16 k (by omega)]; exact hbt k i1 (by omega))
      rw [show m0 + 1 + (m - (m0 + 1)) = m by omega, mj_up_self k26] at this
      exact this
    | succ c' ih =>
      intro j hj
      have k37 : z_cy τ1 fb fl j 0 37 = fb := by rw [z_cy_o (by omega)]; exact b37
      have k31 : z_cy τ1 fb fl j 0 31 = ((fl + c : Nat) : Int) := by rw [z_cy_o (by omega)]; exact b31
      have k20 : z_cy τ1 fb fl j 20 (fl + j) = τ1 20 (fl + j) := z_cy_o (by omega)
      refine qw_m47_50 (d := d + 26) ⟨fun z => absurd z (by omega), fun _ => ?_⟩
      rw [k37, k31, show ((fl + c : Nat) : Int) - (c : Int) = fl by omega, show ((fb : Int) + (j : Int)).toNat = fb + j by omega, show ((fl : Int) + (j : Int)).toNat = fl + j by omega, k20]
      refine ⟨by unfold mj_r; omega, by unfold mj_r; omega, by unfold mj_r; omega, by omega, by omega, by omega, by omega, fun σ2 e2 => ⟨by unfold mj_r; omega, ?_⟩⟩
      rw [e2, show (j : Int) + 1 = ((j + 1 : Nat) : Int) by omega]
      exact ih (j + 1) (by omega)
  exact go c 0 (by omega)
/-- the reference: a call is over -/
theorem r_ret {τ : mj_S} {m h i bg fr : Nat} {x n t : Int} (h26 : τ 0 26 = (m : Int) + 1) (hm : m < 3000) (h5 : τ 0 5 = 0) (hv : τ 16 m = 15 ∧ τ 17 m = x ∧ τ 18 m = n ∧ τ 19 m = t) (h31 : τ 0 31 = ((h + i + 1 : Nat) : Int)) (hh : h + i < 100) (h37 : τ 0 37 = h) (h36 : τ 0 36 = bg) (hbg : bg ≤ 400) (h38 : τ 0 38 = (fr : Int) + 2) (hfr : fr + 2 < 220) : ∃ τ', z_ge τ τ' ∧ (∀ q k, ¬ ((q = 20 ∧ k = h) ∨ (q = 0 ∧ (k = 26 ∨ k = 31 ∨ k = 33 ∨ k = 36 ∨ k = 37 ∨ k = 38))) → τ' q k = τ q k) ∧ τ' 20 h = τ 20 (h + i) ∧ τ' 0 26 = m ∧ τ' 0 31 = (h : Int) + 1 ∧ τ' 0 33 = bg ∧ τ' 0 36 = τ 23 fr ∧ τ' 0 37 = τ 23 (fr + 1) ∧ τ' 0 38 = fr := by
  refine ⟨mj_up (mj_up (z_lv (mj_up (mj_up (mj_up τ 0 26 (m : Int)) 0 38 (fr : Int)) 0 33 (bg : Int)) h i bg 0) 0 36 (τ 23 fr)) 0 37 (τ 23 (fr + 1)), ?_, ?_⟩
  · refine r_turn h26 (by omega) h5 (fun d Q hq => ?_)
    rw [hv.1, hv.2.1, hv.2.2.1, hv.2.2.2]
    refine wq_m41 (d := d + 27) ⟨fun z => absurd z (by decide), fun z => absurd z (by decide), fun z => absurd z (by decide), fun z => absurd z (by decide), fun z => absurd z (by decide), fun z => absurd z (by decide), fun z => absurd z (by decide), fun z => absurd z (by decide), fun z => absurd z (by decide), fun z => absurd z (by decide), fun z => absurd z (by decide), fun z => absurd z (by decide), fun z => absurd z (by decide), fun z => absurd z (by decide), fun _ => ?_⟩
    generalize hτ1 : mj_up τ 0 26 (m : Int) = τ1 at hq ⊢
    have o1 : ∀ q k, ¬ (q = 0 ∧ k = 26) → τ1 q k = τ q k := fun q k z => by rw [← hτ1, mj_up_ne z]
    have b38 : τ1 0 38 - 2 = fr := by rw [o1 0 38 (by omega), h38]; omega
    refine wq_m43 (d := d + 28) ?_
    rw [b38]
    refine ⟨by unfold mj_r; omega, fun σ1 e1 => ?_⟩
    have b36 : σ1 0 36 = bg := by rw [e1, mj_up_ne (by omega), o1 0 36 (by omega)]; exact h36
    rw [b36]
    intro σ2 e2
    have o2 : ∀ q k, ¬ (q = 0 ∧ (k = 26 ∨ k = 33 ∨ k = 38)) → σ2 q k = τ q k := fun q k z => by rw [e2, mj_up_ne (by omega), e1, mj_up_ne (by omega), o1 q k (by omega)]
    rw [o2 0 31 (by omega), o2 0 37 (by omega), h31, h37, show ((h + i + 1 : Nat) : Int) - 1 - (h : Int) = (i : Int) by omega]
    refine ⟨by unfold mj_r; omega, by unfold mj_r; omega, ?_⟩
    refine t_m44 (τ := σ2) (h := h) (i := i) (v := bg) (nm := 0) (d := d + 26) (by rw [o2 0 31 (by omega)]; exact h31) hh (by rw [e2, mj_up_eq]) hbg (by omega) ?_
    · obtain ⟨l1, l2, l3, l4⟩ := @z_lv_f σ2 h i bg 0
      have l38 : z_lv σ2 h i bg 0 0 38 = fr := by rw [l1 0 38 (by omega), e2, mj_up_ne (by omega), e1, mj_up_eq]
      refine ⟨rfl, by omega, by omega, fun σ4 e4 => ?_⟩
      rw [l38, Int.toNat_natCast, l1 23 fr (by omega), o2 23 fr (by omega)] at e4
      have m38 : σ4 0 38 = fr := by rw [e4, mj_up_ne (by omega)]; exact l38
      rw [m38]
      refine ⟨by unfold mj_r; omega, by omega, by omega, fun σ5 e5 => ⟨rfl, ?_⟩⟩
      rw [show ((fr : Int) + 1).toNat = fr + 1 by omega, e4, mj_up_ne (by omega), l1 23 _ (by omega), o2 23 _ (by omega)] at e5
      rw [e5, e2, e1]
      exact hq
  · obtain ⟨l1, l2, l3, l4⟩ := @z_lv_f (mj_up (mj_up (mj_up τ 0 26 (m : Int)) 0 38 (fr : Int)) 0 33 (bg : Int)) h i bg 0
    refine ⟨fun q k z => ?_, ?_, ?_, ?_, ?_, ?_, mj_up_eq, ?_⟩
    · rw [mj_up_ne (by omega), mj_up_ne (by omega), l1 q k (by omega), mj_up_ne (by omega), mj_up_ne (by omega), mj_up_ne (by omega)]
    · rw [mj_up_ne (by omega), mj_up_ne (by omega), l2, mj_up_ne (by omega), mj_up_ne (by omega), mj_up_ne (by omega)]
    · rw [mj_up_ne (by omega), mj_up_ne (by omega), l1 0 26 (by omega), mj_up_ne (by omega), mj_up_ne (by omega), mj_up_eq]
    · rw [mj_up_ne (by omega), mj_up_ne (by omega), l3]
    · rw [mj_up_ne (by omega), mj_up_ne (by omega), l4]; omega
    · rw [mj_up_ne (by omega), mj_up_eq]
    · rw [mj_up_ne (by omega), mj_up_ne (by omega), l1 0 38 (by omega), mj_up_ne (by omega), mj_up_eq]
theorem r_call0s {A B : Nat → Int} {st : Nat} {τ : mj_S} (hst : st ≤ 400) (hs : z_sb A B (τ 4) (τ 5) st) {m i nf : Nat} {x t : Int} (h26 : τ 0 26 = (m : Int) + 1) (hm : m + 1 < 3000) (h5 : τ 0 5 = 0) (hv : τ 16 m = 14 ∧ τ 17 m = x ∧ τ 18 m = i ∧ τ 19 m = t) (h22 : τ 0 22 = nf) (hnf : nf ≤ 16) {f c : Nat} (hf : f < nf) (hfx : τ 13 f = x) (hun : ∀ f' : Nat, f' < nf → τ 13 f' = x → f' = f) (hD : z_dt A B st (τ 14 f)) (hl : z_isl B (τ 14 f) c) (hc : c = i) (ht : t = 0) {h v fr : Nat} (h31 : τ 0 31 = h) (hh : h ≤ 100) (hi : i ≤ h) (h33 : τ 0 33 = v) (hv4 : v + i ≤ 400) (h38 : τ 0 38 = fr) (hfr : fr + 1 < 220) (hlt : h < 100) : ∃ τ', z_ge τ τ' ∧ (∀ q k, ¬ ((16 ≤ q ∧ q ≤ 19 ∧ (k = m ∨ k = m + 1)) ∨ (q = 20 ∧ k = h) ∨ ((q = 21 ∨ q = 22) ∧ v ≤ k) ∨ (q = 23 ∧ (k = fr ∨ k = fr + 1)) ∨ (q = 0 ∧ (k = 26 ∨ k = 31 ∨ k = 33 ∨ k = 36 ∨ k = 37 ∨ k = 38 ∨ k = 42))) → τ' q k = τ q k) ∧ τ' 16 m = 15 ∧ (τ' 16 (m + 1) = 1 ∧ τ' 17 (m + 1) = τ 15 f ∧ τ' 18 (m + 1) = 0 ∧ τ' 19 (m + 1) = 1) ∧ τ' 0 26 = ((m + 2 : Nat) : Int) ∧ τ' 20 h = -1 ∧ τ' 0 31 = (h : Int) + 1 ∧ τ' 0 42 = (if τ 0 42 < (h : Int) + 1 then (h : Int) + 1 else τ 0 42) ∧ τ' 23 fr = τ 0 36 ∧ τ' 23 (fr + 1) = τ 0 37 ∧ τ' 0 38 = ((fr + 2 : Nat) : Int) ∧ τ' 0 37 = (h : Int) - (i : Int) ∧ τ' 0 36 = v ∧ τ' 0 33 = ((v + i : Nat) : Int) ∧ z_ev (τ' 21) (τ' 22) (h - i) v (z_bd (fun j => z_el A B (τ 14 f) j) 0 i []) (v + i) := by
  have g := r_call0 hst hs h26 hm h5 hv h22 hnf hf hfx hun hD hl hc ht h31 hh hi h33 hv4 h38 hfr
  clear hst hs h26 hm hv h22 hnf hf hfx hun hD hl hc ht hv4 hfr
  obtain ⟨k1, k2, k3, k4, k5, k6, k7, k8⟩ := @z_c0_f τ m fr h i v
  have k31 : z_c0 τ m fr h i v 0 31 = h := by rw [k1 0 31 (by omega)]; exact h31
  have k05 : z_c0 τ m fr h i v 0 5 = 0 := by rw [k1 0 5 (by omega)]; exact h5
  have k42 : z_c0 τ m fr h i v 0 42 = τ 0 42 := k1 0 42 (by omega)
  generalize z_c0 τ m fr h i v = τ1 at g k1 k2 k3 k4 k5 k6 k7 k8 k31 k05 k42
  obtain ⟨u1, u2, u3⟩ := @r_bind_f A B (mj_up (z_pu τ1 (-1)) 0 33 (v : Int)) (τ 14 f) (τ 15 f) i v (m + 1) (h - i) mj_up_eq
  have u4 := @z_l1_v (z_bs (mj_up (z_pu τ1 (-1)) 0 33 (v : Int)) v (fun j => z_el A B (τ 14 f) j) (fun j => ((h - i : Nat) : Int) + (j : Int)) i) (m + 1) 1 (τ 15 f) 0 1
  generalize z_l1 (z_bs (mj_up (z_pu τ1 (-1)) 0 33 (v : Int)) v (fun j => z_el A B (τ 14 f) j) (fun j => ((h - i : Nat) : Int) + (j : Int)) i) (m + 1) 1 (τ 15 f) 0 1 = τ' at g u1 u2 u3 u4
  refine ⟨τ', g, ?_⟩
  clear g
  obtain ⟨p1, p2, p3, p4⟩ := z_pu_1 (x := -1) k31 hlt
  rw [k42] at p4
  clear k31 k05 k42 h31 hh h33 h38 h5
  have o1 : ∀ q k, ¬ ((16 ≤ q ∧ q ≤ 19 ∧ k = m + 1) ∨ ((q = 21 ∨ q = 22) ∧ v ≤ k) ∨ (q = 20 ∧ k = h) ∨ (q = 0 ∧ (k = 26 ∨ k = 31 ∨ k = 33 ∨ k = 42))) → τ' q k = τ1 q k := fun q k z => by rw [u1 q k (by omega), mj_up_ne (by omega), p1 q k (by omega)]
  refine ⟨fun q k z => by rw [o1 q k (by omega), k1 q k (by omega)], by rw [o1 16 m (by omega)]; exact k8, ⟨u4.1, u4.2.1, u4.2.2.1, u4.2.2.2.1⟩, u4.2.2.2.2, by rw [u1 20 _ (by omega), mj_up_ne (by omega)]; exact p2, by rw [u1 0 31 (by omega), mj_up_ne (by omega)]; exact p3, by rw [u1 0 42 (by omega), mj_up_ne (by omega)]; exact p4, by rw [o1 23 fr (by omega)]; exact k2, by rw [o1 23 _ (by omega)]; exact k3, by rw [o1 0 38 (by omega), k4]; omega, by rw [o1 0 37 (by omega)]; exact k5, by rw [o1 0 36 (by omega)]; exact k6, u2, u3⟩
theorem r_call0d {A B : Nat → Int} {st : Nat} {τ : mj_S} (hst : st ≤ 400) (hs : z_sb A B (τ 4) (τ 5) st) {m i nf : Nat} {x t : Int} (h26 : τ 0 26 = (m : Int) + 1) (hm : m + 1 < 3000) (h5 : τ 0 5 = 0) (hv : τ 16 m = 14 ∧ τ 17 m = x ∧ τ 18 m = i ∧ τ 19 m = t) (h22 : τ 0 22 = nf) (hnf : nf ≤ 16) {f c : Nat} (hf : f < nf) (hfx : τ 13 f = x) (hun : ∀ f' : Nat, f' < nf → τ 13 f' = x → f' = f) (hD : z_dt A B st (τ 14 f)) (hl : z_isl B (τ 14 f) c) (hc : c = i) (ht : t = 0) {h v fr : Nat} (h31 : τ 0 31 = h) (hh : h ≤ 100) (hi : i ≤ h) (h33 : τ 0 33 = v) (hv4 : v + i ≤ 400) (h38 : τ 0 38 = fr) (hfr : fr + 1 < 220) (heq : h = 100) : ∃ τ', z_ge τ τ' ∧ (∀ q k, ¬ ((q = 0 ∧ (k = 5 ∨ k = 26 ∨ k = 33 ∨ k = 36 ∨ k = 37 ∨ k = 38)) ∨ (16 ≤ q ∧ q ≤ 19) ∨ (21 ≤ q ∧ q ≤ 23)) → τ' q k = τ q k) ∧ τ' 0 5 = 9 := by
  have g := r_call0 hst hs h26 hm h5 hv h22 hnf hf hfx hun hD hl hc ht h31 hh hi h33 hv4 h38 hfr
  clear hst hs h26 hm hv h22 hnf hf hfx hun hD hl hc ht hv4 hfr
  obtain ⟨k1, k2, k3, k4, k5, k6, k7, k8⟩ := @z_c0_f τ m fr h i v
  have k31 : z_c0 τ m fr h i v 0 31 = h := by rw [k1 0 31 (by omega)]; exact h31
  have k05 : z_c0 τ m fr h i v 0 5 = 0 := by rw [k1 0 5 (by omega)]; exact h5
  have k42 : z_c0 τ m fr h i v 0 42 = τ 0 42 := k1 0 42 (by omega)
  generalize z_c0 τ m fr h i v = τ1 at g k1 k2 k3 k4 k5 k6 k7 k8 k31 k05 k42
  obtain ⟨u1, u2, u3⟩ := @r_bind_f A B (mj_up (z_pu τ1 (-1)) 0 33 (v : Int)) (τ 14 f) (τ 15 f) i v (m + 1) (h - i) mj_up_eq
  have u4 := @z_l1_v (z_bs (mj_up (z_pu τ1 (-1)) 0 33 (v : Int)) v (fun j => z_el A B (τ 14 f) j) (fun j => ((h - i : Nat) : Int) + (j : Int)) i) (m + 1) 1 (τ 15 f) 0 1
  generalize z_l1 (z_bs (mj_up (z_pu τ1 (-1)) 0 33 (v : Int)) v (fun j => z_el A B (τ 14 f) j) (fun j => ((h - i : Nat) : Int) + (j : Int)) i) (m + 1) 1 (τ 15 f) 0 1 = τ' at g u1 u2 u3 u4
  refine ⟨τ', g, ?_⟩
  clear g
  rw [z_pu_d (by rw [k31, heq]; rfl) k05] at u1
  clear k31 k05 k42 h31 hh h33 h38 h5
  refine ⟨fun q k z => by rw [u1 q k (by omega), mj_up_ne (by omega), mj_up_ne (by omega), k1 q k (by omega)], by rw [u1 0 5 (by omega), mj_up_ne (by omega), mj_up_eq]⟩
theorem r_call1s {A B : Nat → Int} {st : Nat} {τ : mj_S} (hst : st ≤ 400) (hs : z_sb A B (τ 4) (τ 5) st) {m i nf : Nat} {x t : Int} (h26 : τ 0 26 = (m : Int) + 1) (hm : m + 1 < 3000) (h5 : τ 0 5 = 0) (hv : τ 16 m = 14 ∧ τ 17 m = x ∧ τ 18 m = i ∧ τ 19 m = t) (h22 : τ 0 22 = nf) (hnf : nf ≤ 16) {f c : Nat} (hf : f < nf) (hfx : τ 13 f = x) (hun : ∀ f' : Nat, f' < nf → τ 13 f' = x → f' = f) (hD : z_dt A B st (τ 14 f)) (hl : z_isl B (τ 14 f) c) (hc : c = i) (ht : t = 1) {fl fb bg m0 : Nat} (h31 : τ 0 31 = ((fl + i : Nat) : Int)) (hh : fl + i ≤ 100) (hfl : fb < fl) (h36 : τ 0 36 = bg) (hv4 : bg + i ≤ 400) (h37 : τ 0 37 = fb) (hm0 : m0 < m) (h15 : τ 16 m0 = 15) (hbt : ∀ j, m0 < j → j < m → ¬ τ 16 j = 15) : ∃ τ', z_ge τ τ' ∧
    (∀ q k, ¬ ((16 ≤ q ∧ q ≤ 19 ∧ m0 < k) ∨ (q = 20 ∧ fb ≤ k ∧ k ≤ fb + i) ∨ ((q = 21 ∨ q = 22) ∧ bg ≤ k) ∨ (q = 0 ∧ (k = 26 ∨ k = 31 ∨ k = 33 ∨ k = 42))) → τ' q k = τ q k) ∧ (τ' 16 (m0 + 1) = 1 ∧ τ' 17 (m0 + 1) = τ 15 f ∧ τ' 18 (m0 + 1) = 0 ∧ τ' 19 (m0 + 1) = 1) ∧ τ' 0 26 = ((m0 + 2 : Nat) : Int) ∧ (∀ j, j < i → τ' 20 (fb + j) = τ 20 (fl + j)) ∧ τ' 20 (fb + i) = -1 ∧ τ' 0 31 = ((fb + i : Nat) : Int) + 1 ∧ τ' 0 42 = (if τ 0 42 < ((fb + i : Nat) : Int) + 1 then ((fb + i : Nat) : Int) + 1 else τ 0 42) ∧ τ' 0 33 = ((bg + i : Nat) : Int) ∧ z_ev (τ' 21) (τ' 22) fb bg (z_bd (fun j => z_el A B (τ 14 f) j) 0 i []) (bg + i) := by
  have g := r_call1 hst hs h26 hm h5 hv h22 hnf hf hfx hun hD hl hc ht h31 hh hfl h36 hv4 h37 hm0 h15 hbt
  clear hst hs h26 hm hv h22 hnf hf hfx hun hD hl hc ht hv4 hbt
  have q1 : ∀ q k, ¬ ((q = 20 ∧ fb ≤ k ∧ k < fb + i) ∨ (q = 0 ∧ (k = 26 ∨ k = 31))) → mj_up (mj_up (z_cy (mj_up τ 0 26 (m : Int)) fb fl i) 0 31 ((fb + i : Nat) : Int)) 0 26 ((m0 + 1 : Nat) : Int) q k = τ q k := fun q k z => by rw [mj_up_ne (by omega), mj_up_ne (by omega), z_cy_o (by omega), mj_up_ne (by omega)]
  have q2 : mj_up (mj_up (z_cy (mj_up τ 0 26 (m : Int)) fb fl i) 0 31 ((fb + i : Nat) : Int)) 0 26 ((m0 + 1 : Nat) : Int) 0 31 = ((fb + i : Nat) : Int) := by rw [mj_up_ne (by omega), mj_up_eq]
  have q3 : ∀ j, j < i → mj_up (mj_up (z_cy (mj_up τ 0 26 (m : Int)) fb fl i) 0 31 ((fb + i : Nat) : Int)) 0 26 ((m0 + 1 : Nat) : Int) 20 (fb + j) = τ 20 (fl + j) := fun j hj => by rw [mj_up_ne (by omega), mj_up_ne (by omega), z_cy_v hj, mj_up_ne (by omega)]
  generalize mj_up (mj_up (z_cy (mj_up τ 0 26 (m : Int)) fb fl i) 0 31 ((fb + i : Nat) : Int)) 0 26 ((m0 + 1 : Nat) : Int) = τ1 at g q1 q2 q3
  obtain ⟨p1, p2, p3, p4⟩ := z_pu_1 (x := -1) q2 (by omega)
  rw [q1 0 42 (by omega)] at p4
  obtain ⟨u1, u2, u3⟩ := @r_bind_f A B (mj_up (z_pu τ1 (-1)) 0 33 (bg : Int)) (τ 14 f) (τ 15 f) i bg (m0 + 1) fb mj_up_eq
  have u4 := @z_l1_v (z_bs (mj_up (z_pu τ1 (-1)) 0 33 (bg : Int)) bg (fun j => z_el A B (τ 14 f) j) (fun j => (fb : Int) + (j : Int)) i) (m0 + 1) 1 (τ 15 f) 0 1
  generalize z_l1 (z_bs (mj_up (z_pu τ1 (-1)) 0 33 (bg : Int)) bg (fun j => z_el A B (τ 14 f) j) (fun j => (fb : Int) + (j : Int)) i) (m0 + 1) 1 (τ 15 f) 0 1 = τ' at g u1 u2 u3 u4
  refine ⟨τ', g, ?_⟩
  clear g h31 hh hfl h36 h37 h5 q2
  refine ⟨fun q k z => by rw [u1 q k (by omega), mj_up_ne (by omega), p1 q k (by omega), q1 q k (by omega)], ⟨u4.1, u4.2.1, u4.2.2.1, u4.2.2.2.1⟩, u4.2.2.2.2, fun j hj => by rw [u1 20 _ (by omega), mj_up_ne (by omega), p1 20 _ (by omega)]; exact q3 j hj, by rw [u1 20 _ (by omega), mj_up_ne (by omega)]; exact p2, by rw [u1 0 31 (by omega), mj_up_ne (by omega)]; exact p3, by rw [u1 0 42 (by omega), mj_up_ne (by omega)]; exact p4, u2, u3⟩
