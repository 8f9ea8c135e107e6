/-! what the reference does alone, before the program's next instruction -/
def z_q2 (τ : mj_S) (m : Nat) (w x n t w' x' n' t' : Int) : mj_S := z_l1 (z_l1 τ m w x n t) (m + 1) w' x' n' t'
theorem z_q2_o {τ : mj_S} {m : Nat} {w x n t w' x' n' t' : Int} {q k : Nat} (h : ¬ ((16 ≤ q ∧ q ≤ 19 ∧ (k = m ∨ k = m + 1)) ∨ (q = 0 ∧ k = 26))) : z_q2 τ m w x n t w' x' n' t' q k = τ q k := by
  unfold z_q2
  rw [z_l1_o (by omega), z_l1_o (by omega)]
theorem z_q2_v {τ : mj_S} {m : Nat} {w x n t w' x' n' t' : Int} : (z_q2 τ m w x n t w' x' n' t' 16 m = w ∧ z_q2 τ m w x n t w' x' n' t' 17 m = x ∧ z_q2 τ m w x n t w' x' n' t' 18 m = n ∧ z_q2 τ m w x n t w' x' n' t' 19 m = t) ∧ (z_q2 τ m w x n t w' x' n' t' 16 (m + 1) = w' ∧ z_q2 τ m w x n t w' x' n' t' 17 (m + 1) = x' ∧ z_q2 τ m w x n t w' x' n' t' 18 (m + 1) = n' ∧ z_q2 τ m w x n t w' x' n' t' 19 (m + 1) = t') ∧ z_q2 τ m w x n t w' x' n' t' 0 26 = ((m + 2 : Nat) : Int) := by
  unfold z_q2
  obtain ⟨a1, a2, a3, a4, a5⟩ := @z_l1_v τ m w x n t
  obtain ⟨b1, b2, b3, b4, b5⟩ := @z_l1_v (z_l1 τ m w x n t) (m + 1) w' x' n' t'
  exact ⟨⟨by rw [z_l1_o (by omega)]; exact a1, by rw [z_l1_o (by omega)]; exact a2, by rw [z_l1_o (by omega)]; exact a3, by rw [z_l1_o (by omega)]; exact a4⟩, ⟨b1, b2, b3, b4⟩, b5⟩
theorem z_la_2 {τ : mj_S} {m : Nat} {w x n t w' x' n' t' : Int} (h : τ 0 26 = m) : z_la (z_la τ w x n t) w' x' n' t' = z_q2 τ m w x n t w' x' n' t' := by
  rw [z_la_1 h, z_la_1 (m := m + 1) z_l1_v.2.2.2.2]
  rfl
theorem xw_t {A B : Nat → Int} {st : Nat} {σ0 τ0 : mj_S} {n : Nat} {σ τ : mj_S} {h S fuel : Nat} {be : Nat → Nat} {G : Nat → Bool} (W : z_XW A B st σ0 τ0 n σ τ h S fuel be G) {τ' : mj_S} (hτ : ∀ q k, ¬ ((q = 0 ∧ (k = 26 ∨ k = 33 ∨ k = 36 ∨ k = 37 ∨ k = 38)) ∨ (16 ≤ q ∧ q ≤ 19) ∨ (21 ≤ q ∧ q ≤ 23)) → τ' q k = τ q k) : z_XW A B st σ0 τ0 n σ τ' h S fuel be G := by
  have W0 := W
  obtain ⟨w1, w2, w3, w4, w5, w6, w7, w8, w9⟩ := W
  exact xw_mk W0 (Nat.le_refl _) (fun _ _ _ => rfl) (fun q k z => hτ q k (by omega)) (fun i hi => by rw [hτ 20 i (by omega)]; exact w5 i hi) ⟨w6.1, w6.2.1, by rw [hτ 0 31 (by omega)]; exact w6.2.2⟩ (by rw [hτ 0 42 (by omega)]; exact w7) ⟨w8.1, w8.2.2.1, w8.2.2.2.2.1, by rw [hτ 0 41 (by omega)]; exact w8.2.2.2.2.2⟩
theorem z_jc_js {A B : Nat → Int} {st : Nat} {K : z_K} {σ τ : mj_S} {m : Nat} {fn : Bool} {E : List (Int × Int)} {pl fb : Nat} {hole : Int} {bg fr q : Nat} : ∀ {jn a b u : Nat}, z_j K jn a b → z_jc A B st K σ τ m fn b E pl fb hole bg fr q u → z_jc A B st K σ τ m fn a E pl fb hole bg fr q (u + jn)
  | 0, a, b, u, hj, h => by
    have e : a = b := hj
    subst e
    exact h
  | jn + 1, a, b, u, ⟨c, h1, h2⟩, h => by
    have := z_jc_j h1 (z_jc_js h2 h)
    rw [show u + (jn + 1) = u + jn + 1 by omega]
    exact this
/-- the thing on top replaced by one or two -/
theorem z_jc_1 {A B : Nat → Int} {st : Nat} {K : z_K} {σ τ : mj_S} {m : Nat} {fn : Bool} {a b c jn : Nat} {E E' : List (Int × Int)} {pl pl' fb : Nat} {hole : Int} {bg fr q u : Nat} {w x n t : Int} (hj : z_j K jn a b) (hv : τ 16 m = w ∧ τ 17 m = x ∧ τ 18 m = n ∧ τ 19 m = t) (hw : ¬ w = 15) (it : z_jt A B st K (hole - fb) m q fn w x n t E pl b E' pl' c) (h : z_jc A B st K σ τ m fn c E' pl' fb hole bg fr q u) : z_jc A B st K σ τ (m + 1) fn a E pl fb hole bg fr q (u + 3 + jn) :=
  z_jc_js hj (z_jc_push hv.1 hv.2.1 hv.2.2.1 hv.2.2.2 hw it h)
/-- the reference's argument list -/
theorem r_args0 {τ : mj_S} {m : Nat} {x n t : Int} (h26 : τ 0 26 = (m : Int) + 1) (hm : m < 3000) (h5 : τ 0 5 = 0) (hv : τ 16 m = 2 ∧ τ 17 m = x ∧ τ 18 m = n ∧ τ 19 m = t) (hx : x < 536870912) : z_ge τ (mj_up τ 0 26 (m : Int)) := by
  refine r_turn h26 hm h5 (fun d Q hq => ?_)
  rw [hv.1, hv.2.1, hv.2.2.1, hv.2.2.2]
  refine wq_m41 (d := d + 27) ⟨fun z => absurd z (by decide), fun _ => ⟨fun _ => hq, fun z => absurd z (by omega)⟩, fun z => absurd z (by decide), fun z => absurd z (by decide), fun z => absurd z (by decide), fun z => absurd z (by decide), fun z => absurd z (by decide), fun z => absurd z (by decide), fun z => absurd z (by decide), fun z => absurd z (by decide), fun z => absurd z (by decide), fun z => absurd z (by decide), fun z => absurd z (by decide), fun z => absurd z (by decide), fun z => absurd ⟨by decide, by decide⟩ z⟩
theorem r_args1 {A B : Nat → Int} {st : Nat} {τ : mj_S} (hst : st ≤ 400) (hs : z_sb A B (τ 4) (τ 5) st) {m : Nat} {x n t e : Int} (h26 : τ 0 26 = (m : Int) + 1) (hm : m + 1 < 3000) (h5 : τ 0 5 = 0) (hv : τ 16 m = 2 ∧ τ 17 m = x ∧ τ 18 m = n ∧ τ 19 m = t) (hD : z_dt A B st x) (hx : 536870912 ≤ x) (he : (n = 0 ∧ e = z_cd A x) ∨ (n = 1 ∧ z_isl B (z_cd A x) 2 ∧ e = z_el A B (z_cd A x) 1)) : z_ge τ (z_q2 (mj_up τ 0 26 (m : Int)) m 2 (z_cd B x) n 0 1 e 0 0) := by
  refine r_turn h26 (by omega) h5 (fun d Q hq => ?_)
  rw [hv.1, hv.2.1, hv.2.2.1, hv.2.2.2]
  obtain ⟨x1, x2, x3⟩ := z_dt_cd hD hx
  obtain ⟨y1, y2⟩ := z_sb_cd hs hD hx
  have b26 : mj_up τ 0 26 (m : Int) 0 26 = m := mj_up_eq
  have b4 : mj_up τ 0 26 (m : Int) 4 = τ 4 := z_rq _ _ _ _ 4 (by decide)
  have b5 : mj_up τ 0 26 (m : Int) 5 = τ 5 := z_rq _ _ _ _ 5 (by decide)
  have hpx : z_pr x := ⟨hx, by omega⟩
  refine wq_m41 (d := d + 27) ⟨fun z => absurd z (by decide), fun _ => ⟨fun z => absurd hx z, fun _ => ⟨hpx, by omega, by omega, Or.inl rfl, fun σ3 e3 => ?_⟩⟩, fun z => absurd z (by decide), fun z => absurd z (by decide), fun z => absurd z (by decide), fun z => absurd z (by decide), fun z => absurd z (by decide), fun z => absurd z (by decide), fun z => absurd z (by decide), fun z => absurd z (by decide), fun z => absurd z (by decide), fun z => absurd z (by decide), fun z => absurd z (by decide), fun z => absurd z (by decide), fun z => absurd ⟨by decide, by decide⟩ z⟩
  rw [b5, y2] at e3
  rw [z_la_1 b26] at e3
  have c4 : σ3 4 = τ 4 := by rw [← b4, e3]; funext k; exact z_l1_o (by omega)
  have c5 : σ3 5 = τ 5 := by rw [← b5, e3]; funext k; exact z_l1_o (by omega)
  have c26 : σ3 0 26 = ((m + 1 : Nat) : Int) := by rw [e3]; exact z_l1_v.2.2.2.2
  have fin : z_la σ3 1 e 0 0 = z_q2 (mj_up τ 0 26 (m : Int)) m 2 (z_cd B x) n 0 1 e 0 0 := by
    rw [z_la_1 c26, e3]; rfl
  refine ⟨fun z => ⟨hpx, ?_⟩, fun z => ⟨hpx, by omega, by omega, Or.inl rfl, fun σ7 e7 => ?_⟩⟩
  · rcases he with ⟨e1, _⟩ | ⟨e1, e2, e3'⟩
    · exact absurd e1 z
    · rw [c4, y1]
      refine x_m8 (A := A) (B := B) (k := 1) (n := 2) hst (by rw [c4, c5]; exact hs) x2 e2.1 (by omega) ⟨_, rfl, by omega, by omega, Or.inl rfl, fun σ6 e6 => ?_⟩
      rw [e6, ← e3', fin]
      exact hq
  · rcases he with ⟨_, e2⟩ | ⟨e1, _⟩
    · rw [e7, c4, y1, ← e2, fin]
      exact hq
    · rw [e1] at z; exact absurd z (by decide)
/-- the bodies of let: names bound, then END_LET and the body -/
theorem z_bs_ev {τ : mj_S} {v fb bg p0 : Nat} {E : List (Int × Int)} {nm pf : Nat → Int} (h33 : τ 0 33 = v) (hev : z_ev (τ 21) (τ 22) fb bg E v) : ∀ {c : Nat}, (∀ i, i < c → pf i = (fb : Int) + ((p0 : Int) + (i : Int))) → z_ev (z_bs τ v nm pf c 21) (z_bs τ v nm pf c 22) fb bg (z_bd nm p0 c E) (v + c)
  | 0, _ => hev
  | c + 1, hp => by
    have ih := z_bs_ev (nm := nm) (pf := pf) (p0 := p0) h33 hev (c := c) (fun i hi => hp i (by omega))
    have e33 : z_bs τ v nm pf c 0 33 = ((v + c : Nat) : Int) := z_bs_33 h33 c
    refine ⟨v + c, by omega, (z_bs_v (by omega)).1, ?_, z_ev_frame (fun i hi => ?_) ih⟩
    · rw [(z_bs_v (by omega)).2]; exact hp c (by omega)
    · by_cases hlt : i < v
      · rw [z_bs_o (by omega), z_bs_o (by omega), z_bs_o (by omega), z_bs_o (by omega)]; exact ⟨rfl, rfl⟩
      · obtain ⟨j, rfl⟩ : ∃ j, i = v + j := ⟨i - v, by omega⟩
        rw [(z_bs_v (c := c + 1) (by omega)).1, (z_bs_v (c := c + 1) (by omega)).2, (z_bs_v (c := c) (by omega)).1, (z_bs_v (c := c) (by omega)).2]
        exact ⟨rfl, rfl⟩
theorem z_tl_b {fn tl : Bool} {t : Int} (h : z_tl fn tl t) : t = 0 ∨ t = 1 := by
  rw [h.2]
  split
  · exact Or.inr rfl
  · exact Or.inl rfl
theorem r_let {A B : Nat → Int} {st : Nat} {τ : mj_S} (hst : st ≤ 400) (hs : z_sb A B (τ 4) (τ 5) st) {m i v tp : Nat} {x t : Int} (h26 : τ 0 26 = (m : Int) + 1) (hm : m + 1 < 3000) (h5 : τ 0 5 = 0) (hv : τ 16 m = 4 ∧ τ 17 m = x ∧ τ 18 m = i ∧ τ 19 m = t) (ht : t = 0 ∨ t = 1) (hD : z_dt A B st x) (hx : z_isl B x 3) (hl : z_isl B (z_el A B x 1) i) (hl2 : ∀ j, j < i → z_isl B (z_el A B (z_el A B x 1) j) 2) (h33 : τ 0 33 = v) (hv4 : v + i ≤ 400) (h31 : τ 0 31 = ((tp + i : Nat) : Int)) (htp : tp + i ≤ 100) :
    z_ge τ (z_q2 (z_bs (mj_up τ 0 26 (m : Int)) v (fun j => z_el A B (z_el A B (z_el A B x 1) j) 0) (fun j => (tp : Int) + (j : Int)) i) m 5 268435456 (i : Int) 0 1 (z_el A B x 2) 0 t) := by
  refine r_turn h26 (by omega) h5 (fun d Q hq => ?_)
  rw [hv.1, hv.2.1, hv.2.2.1, hv.2.2.2]
  refine wq_m41 (d := d + 27) ⟨fun z => absurd z (by decide), fun z => absurd z (by decide), fun z => absurd z (by decide), fun _ => ?_, fun z => absurd z (by decide), fun z => absurd z (by decide), fun z => absurd z (by decide), fun z => absurd z (by decide), fun z => absurd z (by decide), fun z => absurd z (by decide), fun z => absurd z (by decide), fun z => absurd z (by decide), fun z => absurd z (by decide), fun z => absurd z (by decide), fun z => absurd ⟨by decide, by decide⟩ z⟩
  generalize hτ1 : mj_up τ 0 26 (m : Int) = τ1 at hq ⊢
  have o1 : ∀ q k, ¬ (q = 0 ∧ k = 26) → τ1 q k = τ q k := fun q k z => by rw [← hτ1, mj_up_ne z]
  have b26 : τ1 0 26 = m := by rw [← hτ1, mj_up_eq]
  have b4 : τ1 4 = τ 4 := by funext k; exact o1 4 k (by omega)
  have b5 : τ1 5 = τ 5 := by funext k; exact o1 5 k (by omega)
  have b33 : τ1 0 33 = v := by rw [o1 0 33 (by omega)]; exact h33
  have b31 : τ1 0 31 = ((tp + i : Nat) : Int) := by rw [o1 0 31 (by omega)]; exact h31
  have hD1 := z_dt_el hD hx.1 (i := 1) (by omega)
  have s1 : z_sb A B (τ1 4) (τ1 5) st := by rw [b4, b5]; exact hs
  generalize hnm : (fun j => z_el A B (z_el A B (z_el A B x 1) j) 0) = nm at hq ⊢
  generalize hpf : (fun j : Nat => (tp : Int) + (j : Int)) = pf at hq ⊢
  have s4 : ∀ j, z_bs τ1 v nm pf j 4 = τ 4 := fun j => by rw [← b4]; funext k; exact z_bs_o (by omega)
  have s5 : ∀ j, z_bs τ1 v nm pf j 5 = τ 5 := fun j => by rw [← b5]; funext k; exact z_bs_o (by omega)
  have go : ∀ c j, j + c = i → qh_m42_16 (d + 28) (fun r σ15 => r = none ∧ Q none σ15) x (i : Int) t ((tp : Int) + (j : Int)) (z_nth B (z_el A B x 1) j) (z_bs τ1 v nm pf j) := by
    intro c
    induction c with
    | zero =>
      intro j hj
      have : j = i := by omega
      subst this
      have e26 : z_bs τ1 v nm pf j 0 26 = m := by rw [z_bs_o (by omega)]; exact b26
      refine qw_m42_16 (d := d + 27) ⟨fun _ => ⟨by omega, by omega, Or.inl rfl, fun σ1 e1 => ?_⟩, fun z => absurd z (by rw [hl.2]; omega)⟩
      rw [z_la_1 e26] at e1
      have c26 : σ1 0 26 = ((m + 1 : Nat) : Int) := by rw [e1]; exact z_l1_v.2.2.2.2
      have c4 : σ1 4 = τ 4 := by rw [← s4 j, e1]; funext k; exact z_l1_o (by omega)
      have c5 : σ1 5 = τ 5 := by rw [← s5 j, e1]; funext k; exact z_l1_o (by omega)
      refine x_m8 (A := A) (B := B) (d := d + 26) (k := 2) (n := 3) hst (by rw [c4, c5]; exact hs) hD hx.1 (by omega) ⟨_, rfl, by omega, by omega, ht, fun σ4 e4 => ⟨rfl, ?_⟩⟩
      rw [e4, z_la_1 c26, e1]
      exact hq
    | succ c ih =>
      intro j hj
      have g1 := hl.1.1 j (by omega)
      have hDn := z_dt_nth hD1 hl.1 j (by omega)
      obtain ⟨y1, y2⟩ := z_sb_cd hs hDn g1.1
      have hDe := (z_dt_cd hDn g1.1).2.1
      have g2 := (hl2 j (by omega)).1.1 0 (by omega)
      have g2' : 536870912 ≤ z_cd A (z_nth B (z_el A B x 1) j) ∧ z_cd A (z_nth B (z_el A B x 1) j) < 536871312 := g2
      obtain ⟨y3, y4⟩ := z_sb_cd hs hDe g2'.1
      refine qw_m42_16 (d := d + 27) ⟨fun z => absurd g1.1 z, fun _ => ?_⟩
      rw [s4, z_bs_33 b33, y1, y3]
      refine ⟨⟨g1.1, by omega⟩, ⟨g2'.1, by omega⟩, by omega, by omega, fun σ5 e5 => ⟨by unfold mj_r; omega, ⟨g1.1, by omega⟩, ?_⟩⟩
      have e5' : σ5 = z_bs τ1 v nm pf (j + 1) := by
        rw [e5, z_bi_1 (v := v + j) (z_bs_33 b33 j)]
        show _ = mj_up (mj_up (mj_up (z_bs τ1 v nm pf j) 21 (v + j) (nm j)) 22 (v + j) (pf j)) 0 33 ((v + j : Nat) + 1)
        rw [← hnm, ← hpf]
        rfl
      rw [e5', s5, y2, show (tp : Int) + (j : Int) + 1 = (tp : Int) + ((j + 1 : Nat) : Int) by omega]
      exact ih (j + 1) (by omega)
  refine wq_m42 (d := d + 27) ⟨by rw [b31]; unfold mj_r; omega, x_m8 (A := A) (B := B) (d := d + 26) (k := 1) (n := 3) hst s1 hD hx.1 (by omega) ⟨_, rfl, ?_⟩⟩
  rw [b31, show ((tp + i : Nat) : Int) - (i : Int) = (tp : Int) + ((0 : Nat) : Int) by omega]
  exact go i 0 (by omega)
theorem r_clauses {A B : Nat → Int} {st : Nat} {τ : mj_S} (hs : z_sb A B (τ 4) (τ 5) st) {m : Nat} {x n t : Int} (h26 : τ 0 26 = (m : Int) + 1) (hm : m + 1 < 3000) (h5 : τ 0 5 = 0) (hv : τ 16 m = 6 ∧ τ 17 m = x ∧ τ 18 m = n ∧ τ 19 m = t) (ht : t = 0 ∨ t = 1) (hD : z_dt A B st x) (hx : 536870912 ≤ x) (hcl : 536870912 ≤ z_cd A x) : z_ge τ (z_q2 (mj_up τ 0 26 (m : Int)) m 7 x 0 t 1 (z_cd A (z_cd A x)) 0 0) := by
  refine r_turn h26 (by omega) h5 (fun d Q hq => ?_)
  rw [hv.1, hv.2.1, hv.2.2.1, hv.2.2.2]
  obtain ⟨x1, x2, x3⟩ := z_dt_cd hD hx
  obtain ⟨y1, y2⟩ := z_sb_cd hs hD hx
  obtain ⟨y3, y4⟩ := z_sb_cd hs x2 hcl
  have r2 := z_dt_r x2
  have r1 := z_dt_r hD
  have b26 : mj_up τ 0 26 (m : Int) 0 26 = m := mj_up_eq
  have b4 : mj_up τ 0 26 (m : Int) 4 = τ 4 := z_rq _ _ _ _ 4 (by decide)
  refine wq_m41 (d := d + 27) ⟨fun z => absurd z (by decide), fun z => absurd z (by decide), fun z => absurd z (by decide), fun z => absurd z (by decide), fun z => absurd z (by decide), fun _ => ⟨fun z => absurd hx z, fun _ => ⟨by omega, by omega, ht, fun σ3 e3 => ?_⟩⟩, fun z => absurd z (by decide), fun z => absurd z (by decide), fun z => absurd z (by decide), fun z => absurd z (by decide), fun z => absurd z (by decide), fun z => absurd z (by decide), fun z => absurd z (by decide), fun z => absurd z (by decide), fun z => absurd ⟨by decide, by decide⟩ z⟩
  rw [z_la_1 b26] at e3
  have c4 : σ3 4 = τ 4 := by rw [← b4, e3]; funext k; exact z_l1_o (by omega)
  have c26 : σ3 0 26 = ((m + 1 : Nat) : Int) := by rw [e3]; exact z_l1_v.2.2.2.2
  rw [c4, y1, y3]
  refine ⟨⟨hx, by omega⟩, ⟨hcl, by omega⟩, by omega, by omega, Or.inl rfl, fun σ4 e4 => ?_⟩
  rw [e4, z_la_1 c26, e3]
  exact hq
/-- and, or with forms left: the last one, or one before it -/
theorem r_con {A B : Nat → Int} {st : Nat} {τ : mj_S} (hs : z_sb A B (τ 4) (τ 5) st) {m : Nat} {w x t : Int} (h26 : τ 0 26 = (m : Int)) (hm : m + 1 < 3000) (ht : t = 0 ∨ t = 1) (hw : w = 8 ∨ w = 10) (hD : z_dt A B st x) (hx : 536870912 ≤ x) {d : Nat} {Q : mj_Q} (h1 : z_cd B x = 268435456 → Q none (z_l1 τ m 1 (z_cd A x) 0 t)) (h2 : ¬ z_cd B x = 268435456 → Q none (z_q2 τ m (w + 1) x 0 t 1 (z_cd A x) 0 0)) : mj_B mjm_L mjm_Ms (d + 3) 45 [.inr (.inl 0), .inl w, .inl x, .inl t] τ Q := by
  obtain ⟨x1, x2, x3⟩ := z_dt_cd hD hx
  obtain ⟨y1, y2⟩ := z_sb_cd hs hD hx
  have hpx : z_pr x := ⟨hx, by have := z_dt_r hD; omega⟩
  refine wq_m45 ⟨fun _ => ⟨hpx, fun z => ?_, fun z => ⟨hpx, by omega, by omega, ht, fun σ5 e5 => ?_⟩⟩, fun z => absurd hx z⟩
  · rw [y2] at z
    have key : ∀ w', ∀ σ1, σ1 = z_la τ w' x 0 t → w' = w + 1 → σ1 0 26 = ((m + 1 : Nat) : Int) ∧ z_la σ1 1 (z_cd (σ1 4) x) 0 0 = z_q2 τ m (w + 1) x 0 t 1 (z_cd A x) 0 0 := fun w' σ1 e1 ew => by
      rw [z_la_1 h26] at e1
      have c26 : σ1 0 26 = ((m + 1 : Nat) : Int) := by rw [e1]; exact z_l1_v.2.2.2.2
      have c4 : σ1 4 = τ 4 := by rw [e1]; funext k; exact z_l1_o (by omega)
      refine ⟨c26, ?_⟩
      rw [z_la_1 c26, c4, y1, e1, ew]
      rfl
    refine ⟨fun z2 => ⟨by omega, by omega, ht, fun σ1 e1 => ?_⟩, fun z2 => ⟨by omega, by omega, ht, fun σ1 e1 => ?_⟩⟩
    · obtain ⟨k1, k2⟩ := key 11 σ1 e1 (by omega)
      refine ⟨hpx, by omega, by omega, Or.inl rfl, fun σ2 e2 => ?_⟩
      rw [e2, k2]
      exact h2 z
    · obtain ⟨k1, k2⟩ := key 9 σ1 e1 (by omega)
      refine ⟨hpx, by omega, by omega, Or.inl rfl, fun σ2 e2 => ?_⟩
      rw [e2, k2]
      exact h2 z
  · rw [y2] at z
    rw [e5, z_la_1 h26, y1]
    exact h1 z
theorem r_con1 {A B : Nat → Int} {st : Nat} {τ : mj_S} (hs : z_sb A B (τ 4) (τ 5) st) {m : Nat} {w x n t : Int} (h26 : τ 0 26 = (m : Int) + 1) (hm : m + 1 < 3000) (h5 : τ 0 5 = 0) (hv : τ 16 m = w ∧ τ 17 m = x ∧ τ 18 m = n ∧ τ 19 m = t) (ht : t = 0 ∨ t = 1) (hw : w = 8 ∨ w = 10) (hD : z_dt A B st x) (hx : 536870912 ≤ x) : (z_cd B x = 268435456 → z_ge τ (z_l1 (mj_up τ 0 26 (m : Int)) m 1 (z_cd A x) 0 t)) ∧ (¬ z_cd B x = 268435456 → z_ge τ (z_q2 (mj_up τ 0 26 (m : Int)) m (w + 1) x 0 t 1 (z_cd A x) 0 0)) := by
  have b26 : mj_up τ 0 26 (m : Int) 0 26 = m := mj_up_eq
  have b4 : mj_up τ 0 26 (m : Int) 4 = τ 4 := z_rq _ _ _ _ 4 (by decide)
  have b5 : mj_up τ 0 26 (m : Int) 5 = τ 5 := z_rq _ _ _ _ 5 (by decide)
  have key : ∀ (d : Nat) (Q : mj_Q), (z_cd B x = 268435456 → Q none (z_l1 (mj_up τ 0 26 (m : Int)) m 1 (z_cd A x) 0 t)) → (¬ z_cd B x = 268435456 → Q none (z_q2 (mj_up τ 0 26 (m : Int)) m (w + 1) x 0 t 1 (z_cd A x) 0 0)) → mj_B mjm_L mjm_Ms (d + 30) 41 [.inr (.inl 0), .inl (τ 16 m), .inl (τ 17 m), .inl (τ 18 m), .inl (τ 19 m)] (mj_up τ 0 26 (m : Int)) Q := fun d Q h1 h2 => by
    rw [hv.1, hv.2.1, hv.2.2.1, hv.2.2.2]
    have both := r_con (A := A) (B := B) (st := st) (τ := mj_up τ 0 26 (m : Int)) (d := d + 26) (by rw [b4, b5]; exact hs) b26 hm ht hw hD hx (Q := fun r σ25 => r = none ∧ Q none σ25) (fun z => ⟨rfl, h1 z⟩) (fun z => ⟨rfl, h2 z⟩)
    refine wq_m41 (d := d + 27) ⟨fun z => absurd z (by omega), fun z => absurd z (by omega), fun z => absurd z (by omega), fun z => absurd z (by omega), fun z => absurd z (by omega), fun z => absurd z (by omega), fun z => absurd z (by omega), fun _ => both, fun z => absurd z (by omega), fun _ => both, fun z => absurd z (by omega), fun z => absurd z (by omega), fun z => absurd z (by omega), fun z => absurd z (by omega), fun z => absurd (by omega) z⟩
  exact ⟨fun z => r_turn h26 (by omega) h5 (fun d Q hq => key d Q (fun _ => hq) (fun z2 => absurd z z2)), fun z => r_turn h26 (by omega) h5 (fun d Q hq => key d Q (fun z2 => absurd z2 z) (fun _ => hq))⟩
/-- what the reference does alone is over -/
def z_lo (w x : Int) : Prop := ¬ w = 2 ∧ ¬ w = 4 ∧ ¬ (w = 6 ∧ 536870912 ≤ x) ∧ ¬ w = 8 ∧ ¬ w = 10
set_option maxHeartbeats 1000000 in
theorem x_norm {A B : Nat → Int} {st : Nat} {K : z_K} {σ0 τ0 : mj_S} {S0 fuel n : Nat} {σ : mj_S} {τs : mj_S} {fn : Bool} {a fb : Nat} {hole : Int} {bg fr q S : Nat} {be : Nat → Nat} {G : Nat → Bool} (hst : st ≤ 400) {P : Prop}
    (hP : ∀ (τ' : mj_S) (m' : Nat) (E' : List (Int × Int)) (pl' u' : Nat), z_CF A B st K σ0 τ0 S0 fuel n σ τ' m' fn a E' pl' fb hole bg fr q u' S be G → z_ge τs τ' → (∀ m1, m' = m1 + 1 → z_lo (τ' 16 m1) (τ' 17 m1)) → P) :
    ∀ (m : Nat) (τ : mj_S) (E : List (Int × Int)) (pl u : Nat), z_CF A B st K σ0 τ0 S0 fuel n σ τ m fn a E pl fb hole bg fr q u S be G → z_ge τs τ → P := by
  intro m
  induction m with
  | zero => exact fun τ E pl u CF gs => hP τ 0 E pl u CF gs (fun m1 e => absurd e (by omega))
  | succ m ih =>
    intro τ E pl u CF gs
    have CF0 := CF
    obtain ⟨W, ch, h10, h26, SP, hne, hb⟩ := CF
    have bd := z_jc_bd ch
    obtain ⟨jn, b, u', hj, hu, ch⟩ := ch
    have hs := z_XW_sb W
    have h5 : τ 0 5 = 0 := W.2.2.2.2.2.2.2.2
    have hh : fb + pl ≤ 100 := W.2.2.2.2.2.1.1
    have h26' : τ 0 26 = (m : Int) + 1 := by rw [h26]; omega
    rw [show m + 1 - 1 = m by omega] at hb
    rcases ch with ⟨h3, _⟩ | ⟨h3, E', pl', b', it, rest⟩
    · refine hP τ (m + 1) E pl u CF0 gs (fun m1 e => ?_)
      have : m1 = m := by omega
      subst this
      rw [h3]
      exact ⟨by decide, by decide, by omega, by decide, by decide⟩
    have it0 := it
    -- what is common to the cases that put a form on top
    have put2 : ∀ (τ' : mj_S) (w1 x1 n1 t1 x2 t2 : Int) (E2 E3 : List (Int × Int)) (pl2 c1 : Nat), (∀ q k, ¬ ((q = 0 ∧ (k = 26 ∨ k = 33)) ∨ (16 ≤ q ∧ q ≤ 19 ∧ m ≤ k) ∨ ((q = 21 ∨ q = 22) ∧ bg ≤ k)) → τ' q k = τ q k) → τ' 0 26 = ((m + 2 : Nat) : Int) → (τ' 16 m = w1 ∧ τ' 17 m = x1 ∧ τ' 18 m = n1 ∧ τ' 19 m = t1) → (τ' 16 (m + 1) = 1 ∧ τ' 17 (m + 1) = x2 ∧ τ' 18 (m + 1) = 0 ∧ τ' 19 (m + 1) = t2) → z_SP σ τ' fn E2 fb hole bg fr → ¬ w1 = 15 → z_jt A B st K (hole - fb) (m + 1) q fn 1 x2 0 t2 E2 pl b E3 pl2 c1 → z_jt A B st K (hole - fb) m q fn w1 x1 n1 t1 E3 pl2 c1 E' pl' b' → (if τ 16 m = 1 then 10 else 0) = 0 → z_ge τ τ' → P := by
      intro τ' w1 x1 n1 t1 x2 t2 E2 E3 pl2 c1 fr' e26 v1 v2 SP' hw i1 i2 hbon g
      have e16 : τ' 16 (m + 2 - 1) = 1 := v2.1
      refine hP τ' (m + 2) E2 pl (u' + 3 + 3 + jn) ⟨xw_t W (fun q k z => fr' q k (by omega)), z_jc_1 hj v2 (by decide) i1 (z_jc_push v1.1 v1.2.1 v1.2.2.1 v1.2.2.2 hw i2 (z_jc_frame (fun i hi => ⟨fr' 16 i (by omega), fr' 17 i (by omega), fr' 18 i (by omega), fr' 19 i (by omega)⟩) (fun i hi => ⟨fr' 21 i (by omega), fr' 22 i (by omega)⟩) (fun i _ => fr' 23 i (by omega)) (fun i _ => fr' 20 i (by omega)) (fun i _ => ⟨rfl, rfl, rfl⟩) rest)), h10, e26, SP', fun i i1 i2 i3 => by rw [fr' 20 i (by omega)]; exact hne i i1 i2 i3, ?_⟩ (z_ge_tr gs g) (fun m1 e => ?_)
      · rw [e16, if_pos rfl]; omega
      · have : m1 = m + 1 := by omega
        rw [this, v2.1]
        exact ⟨by decide, by decide, by omega, by decide, by decide⟩
    have loud : z_lo (τ 16 m) (τ 17 m) → P := fun hl => hP τ (m + 1) E pl u CF0 gs (fun m1 e => by
      have : m1 = m := by omega
      rw [this]; exact hl)
    have b1 : ∀ q k, ¬ (q = 0 ∧ k = 26) → mj_up τ 0 26 (m : Int) q k = τ q k := fun q k z => mj_up_ne z
    have SPq : ∀ {w x n t w' x' n' t' : Int}, z_SP σ (z_q2 (mj_up τ 0 26 (m : Int)) m w x n t w' x' n' t') fn E fb hole bg fr := fun {w x n t w' x' n' t'} => z_SP_fr (fun _ _ => rfl) (fun q k z => by rw [z_q2_o (by omega), b1 q k (by omega)]) SP
    have SPl : ∀ {w x n t : Int}, z_SP σ (z_l1 (mj_up τ 0 26 (m : Int)) m w x n t) fn E fb hole bg fr := fun {w x n t} => z_SP_fr (fun _ _ => rfl) (fun q k z => by rw [z_l1_o (by omega), b1 q k (by omega)]) SP
    unfold z_jt at it
    rcases it with ⟨c1, _⟩ | ⟨c1, c2, k, c, c3, c4, c5, c6, c7⟩ | ⟨c1, _⟩ | ⟨c1, c2, k, tl, p0, c, i, c3, c4, c5, c6, c7, c8, c9, c10, c11, c12, c13, c14, c15⟩ | ⟨c1, _⟩ | ⟨c1, c2, k, tl, c3, c4, c5, c6, c7, c8⟩ | ⟨c1, _⟩ | ⟨c1, c2, k, tl, c3, c4, c5, c6, c7, c8⟩ | ⟨c1, _⟩ | ⟨c1, _⟩ | ⟨c1, _⟩ | ⟨c1, _⟩
    · exact loud (by rw [c1]; exact ⟨by decide, by decide, by omega, by decide, by decide⟩)
    · -- arguments
      obtain ⟨f, f1, f2, f3, f4, f5⟩ := c5
      subst c6
      have hbon : (if τ 16 m = 1 then 10 else 0) = 0 := if_neg (by rw [c1]; decide)
      cases c with
      | zero =>
        have hx := z_isl_0 f1
        have g := r_args0 (x := τ 17 m) (n := τ 18 m) (t := τ 19 m) h26' (by omega) h5 ⟨c1, rfl, rfl, rfl⟩ (by omega)
        have eb : b = b' := by rw [← f2, ← f3]
        refine ih (mj_up τ 0 26 (m : Int)) E' pl (u' + jn) ⟨xw_t W (fun q k z => b1 q k (by omega)), z_jc_fr (fun _ _ _ => rfl) (fun q k z => b1 q k (by omega)) ?_, h10, mj_up_eq, z_SP_fr (fun _ _ => rfl) (fun q k z => b1 q k (by omega)) SP, fun i i1 i2 i3 => by rw [b1 20 i (by omega)]; exact hne i i1 i2 i3, by omega⟩ (z_ge_tr gs g)
        rw [eb] at hj
        rw [show pl' = pl from c7] at rest
        exact z_jc_js hj rest
      | succ c =>
        obtain ⟨hx, hl⟩ := z_isl_t f1
        obtain ⟨d1, d2, d3⟩ := z_dt_cd c2 hx.1
        have fs0 := f5 0 (by omega)
        rw [f2, show ((pl : Int) + ((0 : Nat) : Int)) = pl by omega] at fs0
        dsimp only at fs0
        have he : ∃ e, ((τ 18 m = 0 ∧ e = z_cd A (τ 17 m)) ∨ (τ 18 m = 1 ∧ z_isl B (z_cd A (τ 17 m)) 2 ∧ e = z_el A B (z_cd A (τ 17 m)) 1)) ∧ z_dt A B st e ∧ z_C A B K k E' e pl false b (f (0 + 1)) := by
          rcases f4 with f4 | ⟨f4, f6⟩
          · rw [if_pos f4] at fs0
            exact ⟨_, Or.inl ⟨f4, rfl⟩, d2, fs0⟩
          · rw [if_neg (by omega)] at fs0
            exact ⟨_, Or.inr ⟨f4, f6 0 (by omega), rfl⟩, z_dt_el d2 (f6 0 (by omega)).1 (by omega), fs0⟩
        obtain ⟨e, e1, e2, e3⟩ := he
        have g := r_args1 hst hs h26' (by omega) h5 ⟨c1, rfl, rfl, rfl⟩ c2 hx.1 e1
        refine put2 _ 2 (z_cd B (τ 17 m)) (τ 18 m) 0 e 0 E' E' (pl + 1) (f (0 + 1)) (fun q k z => by rw [z_q2_o (by omega), b1 q k (by omega)]) z_q2_v.2.2 z_q2_v.1 z_q2_v.2.1 SPq (by decide) ?_ ?_ hbon g
        · exact Or.inl ⟨rfl, e2, k, false, by omega, ⟨fun z => Bool.noConfusion z, rfl⟩, c4, e3, rfl, rfl⟩
        · refine Or.inr (Or.inl ⟨rfl, d3, k, c, c3, ⟨by have := c4.1; omega, by have := c4.2.1; omega, fun a r hr => by have := c4.2.2 a r hr; omega⟩, ⟨fun i => f (i + 1), hl, rfl, f3, ?_, fun i hi => ?_⟩, rfl, by omega⟩)
          · rcases f4 with f4 | ⟨f4, f6⟩
            · exact Or.inl f4
            · exact Or.inr ⟨f4, fun i hi => by rw [z_el_s]; exact f6 (i + 1) (by omega)⟩
          · have := f5 (i + 1) (by omega)
            dsimp only at this ⊢
            rw [z_el_s, show (((pl + 1 : Nat) : Int) + (i : Int)) = (pl : Int) + ((i + 1 : Nat) : Int) by omega]
            exact this
    · exact loud (by rw [c1]; exact ⟨by decide, by decide, by omega, by decide, by decide⟩)
    · -- the body of let
      subst c14
      have hbon : (if τ 16 m = 1 then 10 else 0) = 0 := if_neg (by rw [c1]; decide)
      obtain ⟨s1, s2, s3, s4, s5, v, s6, s7⟩ := SP
      have hvl := z_ev_len s7
      have hEl := c7.2.1
      have g := r_let hst hs (m := m) (i := i) (v := v) (tp := fb + p0) h26' (by omega) h5 ⟨c1, rfl, c5, rfl⟩ (z_tl_b c4) c2 c8 c9 c10 s6 (by omega) (by rw [W.2.2.2.2.2.1.2.2, c6]; omega) (by omega)
      have e26 : mj_up τ 0 26 (m : Int) 0 33 = v := by rw [b1 0 33 (by omega)]; exact s6
      refine put2 _ 5 268435456 (i : Int) 0 (z_el A B (τ 17 m) 2) (τ 19 m) (z_bd (fun j => z_el A B (z_el A B (z_el A B (τ 17 m) 1) j) 0) p0 i E') (z_bd (fun j => z_el A B (z_el A B (z_el A B (τ 17 m) 1) j) 0) p0 i E') (p0 + i + 1) c (fun q k z => by rw [z_q2_o (by omega), z_bs_o (by omega), b1 q k (by omega)]) z_q2_v.2.2 z_q2_v.1 z_q2_v.2.1 ?_ (by decide) ?_ ?_ hbon g
      · refine ⟨s1, s2, ?_, fun z => ?_, ?_, v + i, ?_, ?_⟩
        · rw [z_q2_o (by omega), z_bs_o (by omega), b1 _ _ (by omega)]; exact s3
        · rw [z_q2_o (by omega), z_bs_o (by omega), b1 _ _ (by omega)]; exact s4 z
        · rw [z_q2_o (by omega), z_bs_o (by omega), b1 _ _ (by omega)]; exact s5
        · rw [z_q2_o (by omega)]; exact z_bs_33 e26 i
        · refine z_ev_frame (fun j _ => ⟨z_q2_o (by omega), z_q2_o (by omega)⟩) (z_bs_ev e26 (z_ev_frame (fun j _ => ⟨b1 21 j (by omega), b1 22 j (by omega)⟩) s7) (fun j _ => by omega))
      · refine Or.inl ⟨rfl, z_dt_el c2 c8.1 (by omega), k, tl, by omega, c4, ⟨by have := c7.1; omega, by rw [z_bd_len]; omega, fun a r hr => ?_⟩, ?_, rfl, by omega⟩
        · rcases z_bd_mem hr with hr | ⟨j, j1, j2, j3⟩
          · have := c7.2.2 a r hr; omega
          · have := c7.1; omega
        · rw [show ((pl : Nat) : Int) = (p0 : Int) + (i : Int) by omega]; exact c11
      · exact Or.inr (Or.inr (Or.inr (Or.inr (Or.inl ⟨rfl, p0, i, by omega, rfl, by omega, by rw [z_bd_len]; omega, c12, c13, (z_bd_drop _ _ _ _).symm, c7, c15⟩))))
    · exact loud (by rw [c1]; exact ⟨by decide, by decide, by omega, by decide, by decide⟩)
    · -- clauses
      subst c7
      have hbon : (if τ 16 m = 1 then 10 else 0) = 0 := if_neg (by rw [c1]; decide)
      by_cases hx : 536870912 ≤ τ 17 m
      · obtain ⟨cn, f, f1, f2, f3, f4, f5⟩ := c6
        cases cn with
        | zero => have := z_isl_0 f1; omega
        | succ cn =>
          obtain ⟨hx', hl⟩ := z_isl_t f1
          obtain ⟨d1, d2, d3⟩ := z_dt_cd c2 hx
          obtain ⟨g1, gg, hh2, g2, g3, g4, g5, g6, g7⟩ := f3 0 (by omega)
          have hcl : 536870912 ≤ z_cd A (τ 17 m) := (g1.1.1 0 (by omega)).1
          have g := r_clauses hs h26' (by omega) h5 ⟨c1, rfl, rfl, rfl⟩ (z_tl_b c4) c2 hx hcl
          rw [f2] at g2
          refine put2 _ 7 (τ 17 m) 0 (τ 19 m) (z_cd A (z_cd A (τ 17 m))) 0 E' E' (pl + 1) gg (fun q k z => by rw [z_q2_o (by omega), b1 q k (by omega)]) z_q2_v.2.2 z_q2_v.1 z_q2_v.2.1 SPq (by decide) ?_ ?_ hbon g
          · exact Or.inl ⟨rfl, z_dt_el d2 g1.1 (i := 0) (by omega), k, false, by omega, ⟨fun z => Bool.noConfusion z, rfl⟩, c5, g2, rfl, rfl⟩
          · refine Or.inr (Or.inr (Or.inr (Or.inr (Or.inr (Or.inr (Or.inl ⟨rfl, c2, k, tl, pl, hh2, c3, c4, rfl, c5, hx, g1, ?_, g4, g5, ⟨cn, fun i => f (i + 1), hl, g6, fun i hi => ?_, f4, f5⟩, rfl, c8⟩))))))
            · rw [g6] at g3; exact g3
            · have := f3 (i + 1) (by omega)
              rw [← z_el_s] at this
              exact this
      · exact loud (by rw [c1]; exact ⟨by decide, by decide, fun z => hx z.2, by decide, by decide⟩)
    · exact loud (by rw [c1]; exact ⟨by decide, by decide, by omega, by decide, by decide⟩)
    · -- and, or
      subst c7
      have hbon : (if τ 16 m = 1 then 10 else 0) = 0 := if_neg (by omega)
      obtain ⟨cn, f, gf, f1, f2, f3, f4⟩ := c6
      obtain ⟨hx, hl⟩ := z_isl_t f1
      obtain ⟨d1, d2, d3⟩ := z_dt_cd c2 hx.1
      obtain ⟨ga, gb⟩ := r_con1 hs h26' (by omega) h5 (w := τ 16 m) ⟨rfl, rfl, rfl, rfl⟩ (z_tl_b c4) c1 c2 hx.1
      cases cn with
      | zero =>
        have hnil := z_isl_0 hl
        have g := ga hnil
        rw [f2] at f4
        have v := @z_l1_v (mj_up τ 0 26 (m : Int)) m 1 (z_cd A (τ 17 m)) 0 (τ 19 m)
        have e16 : z_l1 (mj_up τ 0 26 (m : Int)) m 1 (z_cd A (τ 17 m)) 0 (τ 19 m) 16 (m + 1 - 1) = 1 := v.1
        have fr' : ∀ q k, ¬ ((q = 0 ∧ k = 26) ∨ (16 ≤ q ∧ q ≤ 19 ∧ m ≤ k)) → z_l1 (mj_up τ 0 26 (m : Int)) m 1 (z_cd A (τ 17 m)) 0 (τ 19 m) q k = τ q k := fun q k z => by rw [z_l1_o (by omega), b1 q k (by omega)]
        refine hP _ (m + 1) E' pl (u' + 3 + jn) ⟨xw_t W (fun q k z => fr' q k (by omega)), z_jc_1 hj ⟨v.1, v.2.1, v.2.2.1, v.2.2.2.1⟩ (by decide) (Or.inl ⟨rfl, d2, k, tl, by omega, c4, c5, f4, rfl, c8⟩) (z_jc_fr (fun _ _ _ => rfl) (fun q k z => fr' q k (by omega)) rest), h10, v.2.2.2.2, SPl, fun i i1 i2 i3 => by rw [fr' 20 i (by omega)]; exact hne i i1 i2 i3, ?_⟩ (z_ge_tr gs g) (fun m1 e => ?_)
        · rw [e16, if_pos rfl]; omega
        · have : m1 = m := by omega
          rw [this, v.1]
          exact ⟨by decide, by decide, by omega, by decide, by decide⟩
      | succ cn =>
        have hnn : ¬ z_cd B (τ 17 m) = 268435456 := by
          have := (hl.1.1 0 (by omega)).1
          have e : z_nth B (z_cd B (τ 17 m)) 0 = z_cd B (τ 17 m) := rfl
          omega
        have g := gb hnn
        obtain ⟨g1, g2, g3⟩ := f3 0 (by omega)
        rw [f2] at g1
        refine put2 _ (τ 16 m + 1) (τ 17 m) 0 (τ 19 m) (z_cd A (τ 17 m)) 0 E' E' (pl + 1) (gf 0) (fun q k z => by rw [z_q2_o (by omega), b1 q k (by omega)]) z_q2_v.2.2 z_q2_v.1 z_q2_v.2.1 SPq (by omega) ?_ ?_ hbon g
        · exact Or.inl ⟨rfl, d2, k, false, by omega, ⟨fun z => Bool.noConfusion z, rfl⟩, c5, g1, rfl, rfl⟩
        · have eo : (if τ 16 m + 1 = 9 then (6 : Int) else 7) = (if τ 16 m = 8 then 6 else 7) := by
            rcases c1 with c1 | c1 <;> rw [c1] <;> rfl
          refine Or.inr (Or.inr (Or.inr (Or.inr (Or.inr (Or.inr (Or.inr (Or.inr (Or.inl ⟨by omega, c2, k, tl, pl, c3, c4, rfl, c5, hx.1, by rw [eo]; exact g2, ⟨cn, fun i => f (i + 1), fun i => gf (i + 1), hl, g3, fun i hi => ?_, ?_⟩, rfl, c8⟩))))))))
          · obtain ⟨q1, q2, q3⟩ := f3 (i + 1) (by omega)
            rw [z_el_s, eo]
            exact ⟨q1, q2, q3⟩
          · rw [z_el_s]; exact f4
    · exact loud (by rcases c1 with c1 | c1 <;> rw [c1] <;> exact ⟨by decide, by decide, by omega, by decide, by decide⟩)
    · exact loud (by rw [c1]; exact ⟨by decide, by decide, by omega, by decide, by decide⟩)
    · exact loud (by rw [c1]; exact ⟨by decide, by decide, by omega, by decide, by decide⟩)
    · exact loud (by rw [c1]; exact ⟨by decide, by decide, by omega, by decide, by decide⟩)
