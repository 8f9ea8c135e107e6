/-! what is still to be done: the reference's list of it beside the code, with the data it speaks of -/
def z_dt (A B : Nat → Int) (st : Nat) (x : Int) : Prop := ∃ s : Nat, z_D A B (z_bw A) 0 st 12 s x
theorem z_dt_r {A B : Nat → Int} {st : Nat} {x : Int} (h : z_dt A B st x) : 0 ≤ x ∧ x < 536871312 := by
  obtain ⟨s, h⟩ := h
  exact z_D_r (z_bw_le A) h
theorem z_dt_vl {A B : Nat → Int} {st : Nat} {be : Nat → Nat} {G : Nat → Bool} {x : Int} (h : z_dt A B st x) : z_vl A B st be G x x := Or.inl ⟨rfl, h⟩
theorem z_dt_atom {A B : Nat → Int} {st : Nat} {x : Int} (h0 : 0 ≤ x) (h1 : x < 268435477) : z_dt A B st x := ⟨0, z_D_atom h0 (by have := z_bw_r A; omega)⟩
theorem z_dt_cd {A B : Nat → Int} {st : Nat} {x : Int} (h : z_dt A B st x) (hx : 536870912 ≤ x) : x < 536870912 + (st : Int) ∧ z_dt A B st (z_cd A x) ∧ z_dt A B st (z_cd B x) := by
  obtain ⟨s, h⟩ := h
  obtain ⟨k', p, s1, s2, h1, h2, h3, h4, h5, h6, h7⟩ := z_D_p (z_bw_le A) h hx
  exact ⟨by omega, ⟨s1, z_D_mono (Int.le_refl _) (Nat.le_refl _) (by omega) (by omega) h6⟩, s2, h7⟩
theorem z_dt_nth {A B : Nat → Int} {st : Nat} : ∀ {n : Nat} {x : Int}, z_dt A B st x → z_len B x n → ∀ i, i ≤ n → z_dt A B st (z_nth B x i)
  | n, x, h, hl, 0, _ => h
  | n, x, h, hl, i + 1, hi => by
    have h1 := z_dt_nth h hl i (by omega)
    exact (z_dt_cd h1 (hl.1 i (by omega)).1).2.2
theorem z_dt_el {A B : Nat → Int} {st : Nat} {n : Nat} {x : Int} (h : z_dt A B st x) (hl : z_len B x n) {i : Nat} (hi : i < n) : z_dt A B st (z_el A B x i) :=
  (z_dt_cd (z_dt_nth h hl i (by omega)) (hl.1 i hi).1).2.1
/-- what the reference sees of such data -/
def z_sb (A B Am Bm : Nat → Int) (st : Nat) : Prop := ∀ i, i < st → i < 400 → Am i = A i ∧ Bm i = B i
theorem z_sb_cd {A B Am Bm : Nat → Int} {st : Nat} (hs : z_sb A B Am Bm st) {x : Int} (h : z_dt A B st x) (hx : 536870912 ≤ x) : z_cd Am x = z_cd A x ∧ z_cd Bm x = z_cd B x := by
  obtain ⟨s, h⟩ := h
  obtain ⟨k', p, s1, s2, h1, h2, h3, h4, h5, h6, h7⟩ := z_D_p (z_bw_le A) h hx
  rw [h2, z_cd_p (by omega), z_cd_p (by omega), z_cd_p (by omega), z_cd_p (by omega)]
  exact hs p h3 h4
theorem z_sb_nth {A B Am Bm : Nat → Int} {st : Nat} (hs : z_sb A B Am Bm st) {x : Int} {n : Nat} (h : z_dt A B st x) (hl : z_len B x n) : ∀ i, i ≤ n → z_nth Bm x i = z_nth B x i
  | 0, _ => rfl
  | i + 1, hi => by
    show z_cd Bm (z_nth Bm x i) = z_cd B (z_nth B x i)
    rw [z_sb_nth hs h hl i (by omega)]
    exact (z_sb_cd hs (z_dt_nth h hl i (by omega)) (hl.1 i (by omega)).1).2
theorem z_sb_el {A B Am Bm : Nat → Int} {st : Nat} (hs : z_sb A B Am Bm st) {x : Int} {n : Nat} (h : z_dt A B st x) (hl : z_len B x n) {i : Nat} (hi : i < n) : z_el Am Bm x i = z_el A B x i := by
  unfold z_el
  rw [z_sb_nth hs h hl i (by omega)]
  exact (z_sb_cd hs (z_dt_nth h hl i (by omega)) (hl.1 i hi).1).1
theorem z_sb_len {A B Am Bm : Nat → Int} {st : Nat} (hs : z_sb A B Am Bm st) {x : Int} {n : Nat} (h : z_dt A B st x) (hl : z_len B x n) : z_len Bm x n :=
  ⟨fun i hi => by rw [z_sb_nth hs h hl i (by omega)]; exact hl.1 i hi, by rw [z_sb_nth hs h hl n (Nat.le_refl _)]; exact hl.2⟩
theorem z_len_400 {A B : Nat → Int} {st : Nat} (hst : st ≤ 400) {x : Int} {n : Nat} (h : z_dt A B st x) (hl : z_len B x n) : n ≤ 400 := by
  -- the pairs of a list lie one behind another
  have inj : ∀ i j, i < j → j < n → ¬ z_nth B x i = z_nth B x j := fun i j hij hj => z_nth_ne hl hij (by omega)
  -- count the places that the first m pairs take
  have cnt : ∀ m, m ≤ n → ∃ P : Nat → Bool, z_cnt P st = m ∧ ∀ p, p < st → P p = true → ∃ i, i < m ∧ z_nth B x i = 536870912 + (p : Int) := by
    intro m
    induction m with
    | zero => exact fun _ => ⟨fun _ => false, z_cnt_0 (fun _ _ => rfl), fun p _ hp => by cases hp⟩
    | succ m ih =>
      intro hm
      obtain ⟨P, p1, p2⟩ := ih (by omega)
      have r := hl.1 m (by omega)
      have r2 := (z_dt_cd (z_dt_nth h hl m (by omega)) r.1).1
      obtain ⟨p, ep⟩ : ∃ p : Nat, z_nth B x m = 536870912 + (p : Int) := ⟨(z_nth B x m - 536870912).toNat, by omega⟩
      have hp : P p = false := by
        cases c : P p with
        | false => rfl
        | true =>
          obtain ⟨i, i1, i2⟩ := p2 p (by omega) c
          exact absurd (by rw [i2, ep]) (inj i m i1 (by omega))
      refine ⟨fun j => if j = p then true else P j, by rw [z_cnt_add (by omega) hp, p1], fun j hj hP => ?_⟩
      by_cases e : j = p
      · exact ⟨m, by omega, by rw [e]; exact ep⟩
      · dsimp only at hP
        rw [if_neg e] at hP
        obtain ⟨i, i1, i2⟩ := p2 j hj hP
        exact ⟨i, by omega, i2⟩
  obtain ⟨P, p1, _⟩ := cnt n (Nat.le_refl _)
  have := z_cnt_le P st
  omega
/-- the reference's item and length -/
theorem x_m8 {A B : Nat → Int} {st : Nat} {τ : mj_S} (hst : st ≤ 400) (hs : z_sb A B (τ 4) (τ 5) st) {x : Int} {n k : Nat} (h : z_dt A B st x) (hl : z_len B x n) (hk : k < n) {d : Nat} {Q : mj_Q} (hq : Q (some (.inl (z_el A B x k))) τ) : mj_B mjm_L mjm_Ms (d + 2) 8 [.inr (.inl 0), .inl x, .inl (k : Int)] τ Q := by
  have hn := z_len_400 hst h hl
  refine t_m8 (by omega) (fun i hi => ?_) ?_
  · rw [z_sb_nth hs h hl i (by omega)]
    have := hl.1 i (by omega)
    exact ⟨this.1, by omega⟩
  · rw [z_sb_el hs h hl hk]; exact hq
theorem x_m7 {A B : Nat → Int} {st : Nat} {τ : mj_S} (hst : st ≤ 400) (hs : z_sb A B (τ 4) (τ 5) st) {x : Int} {n : Nat} (h : z_dt A B st x) (hl : z_isl B x n) {d : Nat} {Q : mj_Q} (hq : Q (some (.inl (n : Int))) τ) : mj_B mjm_L mjm_Ms (d + 2) 7 [.inr (.inl 0), .inl x] τ Q := by
  refine t_m7 (z_sb_len hs h hl.1) (z_len_400 hst h hl.1) ?_
  unfold z_ln
  rw [z_sb_nth hs h hl.1 n (Nat.le_refl _), if_pos hl.2]
  exact hq
/-- one thing to be done, at index m: code from a to b, names E then E', places taken pl then pl' -/
def z_jt (A B : Nat → Int) (st : Nat) (K : z_K) (h : Int) (m q : Nat) (fn : Bool) (w x n t : Int) (E : List (Int × Int)) (pl a : Nat) (E' : List (Int × Int)) (pl' b : Nat) : Prop :=
  (w = 1 ∧ z_dt A B st x ∧ ∃ (k : Nat) (tl : Bool), m + 2 * k ≤ q + 24 ∧ z_tl fn tl t ∧ z_eb h E pl ∧ z_C A B K k E x pl tl a b ∧ E' = E ∧ pl' = pl + 1) ∨
  (w = 2 ∧ z_dt A B st x ∧ ∃ k c : Nat, m + 1 + 2 * k ≤ q + 24 ∧ z_eb h E pl ∧ z_args A B K k E n x pl a c b ∧ E' = E ∧ pl' = pl + c) ∨
  (w = 3 ∧ z_dt A B st x ∧ ∃ (k : Nat) (tl : Bool) (p0 c : Nat), m + 2 * k ≤ q + 24 ∧ z_tl fn tl t ∧ pl = p0 + 1 ∧ z_eb h E p0 ∧ z_isl B x 4 ∧ z_in K a 5 ((c : Int) + 1) 0 ∧ z_C A B K k E (z_el A B x 2) p0 tl (a + 1) c ∧ z_in K c 4 (b : Int) 0 ∧ z_C A B K k E (z_el A B x 3) p0 tl (c + 1) b ∧ E' = E ∧ pl' = pl) ∨
  (w = 4 ∧ z_dt A B st x ∧ ∃ (k : Nat) (tl : Bool) (p0 c i : Nat), m + 1 + 2 * k ≤ q + 24 ∧ z_tl fn tl t ∧ n = i ∧ pl = p0 + i ∧ z_eb h E p0 ∧ z_isl B x 3 ∧ z_isl B (z_el A B x 1) i ∧ (∀ j, j < i → z_isl B (z_el A B (z_el A B x 1) j) 2) ∧ z_C A B K k (z_bd (fun j => z_el A B (z_el A B (z_el A B x 1) j) 0) p0 i E) (z_el A B x 2) ((p0 : Int) + i) tl a c ∧ z_in K c 8 (i : Int) 0 ∧ b = c + 1 ∧ E' = E ∧ pl' = p0 + 1) ∨
  (w = 5 ∧ ∃ p0 i : Nat, m ≤ q + 24 ∧ n = i ∧ pl = p0 + i + 1 ∧ i ≤ E.length ∧ z_in K a 8 (i : Int) 0 ∧ b = a + 1 ∧ E' = E.drop i ∧ z_eb h E' p0 ∧ pl' = p0 + 1) ∨
  (w = 6 ∧ z_dt A B st x ∧ ∃ (k : Nat) (tl : Bool), m + 1 + 2 * k ≤ q + 24 ∧ z_tl fn tl t ∧ z_eb h E pl ∧ z_cls A B K k E x pl tl a b ∧ E' = E ∧ pl' = pl + 1) ∨
  (w = 7 ∧ z_dt A B st x ∧ ∃ (k : Nat) (tl : Bool) (p0 c : Nat), m + 1 + 2 * k ≤ q + 24 ∧ z_tl fn tl t ∧ pl = p0 + 1 ∧ z_eb h E p0 ∧ 536870912 ≤ x ∧ z_isl B (z_el A B x 0) 2 ∧ z_in K a 5 ((c : Int) + 1) 0 ∧ z_C A B K k E (z_el A B (z_el A B x 0) 1) p0 tl (a + 1) c ∧ z_in K c 4 (b : Int) 0 ∧ z_cls A B K k E (z_cd B x) p0 tl (c + 1) b ∧ E' = E ∧ pl' = pl) ∨
  ((w = 8 ∨ w = 10) ∧ z_dt A B st x ∧ ∃ (k : Nat) (tl : Bool), m + 1 + 2 * k ≤ q + 24 ∧ z_tl fn tl t ∧ z_eb h E pl ∧ z_ao A B K k (if w = 8 then 6 else 7) E x pl tl a b ∧ E' = E ∧ pl' = pl + 1) ∨
  ((w = 9 ∨ w = 11) ∧ z_dt A B st x ∧ ∃ (k : Nat) (tl : Bool) (p0 : Nat), m + 1 + 2 * k ≤ q + 24 ∧ z_tl fn tl t ∧ pl = p0 + 1 ∧ z_eb h E p0 ∧ 536870912 ≤ x ∧ z_in K a (if w = 9 then 6 else 7) (b : Int) 0 ∧ z_ao A B K k (if w = 9 then 6 else 7) E (z_cd B x) p0 tl (a + 1) b ∧ E' = E ∧ pl' = pl) ∨
  (w = 12 ∧ ∃ p0 i : Nat, m ≤ q + 24 ∧ n = i ∧ pl = p0 + i ∧ z_eb h E p0 ∧ z_in K a 2 268435456 0 ∧ (∀ j, j < i → z_in K (a + 1 + j) 268435466 0 0) ∧ b = a + 1 + i ∧ E' = E ∧ pl' = p0 + 1) ∨
  (w = 13 ∧ ∃ p0 : Nat, m ≤ q + 24 ∧ 10 ≤ n ∧ n ≤ 20 ∧ pl = p0 + (z_ar (268435456 + n)).toNat ∧ z_eb h E p0 ∧ z_in K a (268435456 + n) 0 0 ∧ b = a + 1 ∧ E' = E ∧ pl' = p0 + 1) ∨
  (w = 14 ∧ ∃ (tl : Bool) (p0 i : Nat), m ≤ q + 24 ∧ n = i ∧ z_tl fn tl t ∧ 268435456 ≤ x ∧ x < 536870912 ∧ pl = p0 + i ∧ z_eb h E p0 ∧ z_in K a (if tl then 10 else 9) x (i : Int) ∧ b = a + 1 ∧ E' = E ∧ pl' = p0 + 1)
/-- all that is to be done: m things; u counts what instructions they can still need beside those of forms -/
def z_jc (A B : Nat → Int) (st : Nat) (K : z_K) (σ τ : mj_S) : Nat → Bool → Nat → List (Int × Int) → Nat → Nat → Int → Nat → Nat → Nat → Nat → Prop
  | 0, fn, a, _, pl, fb, hole, bg, fr, q, u => fn = false ∧ ∃ b, z_j K u a b ∧ z_in K b 0 0 0 ∧ pl = 1 ∧ fb = 0 ∧ fr = 0 ∧ q = 0 ∧ bg = 0 ∧ hole = -1
  | m + 1, fn, a, E, pl, fb, hole, bg, fr, q, u => ∃ jn b u' : Nat, z_j K jn a b ∧ u = u' + 3 + jn ∧
      ((τ 16 m = 15 ∧ fn = true ∧ q = m + 1 ∧ z_in K b 11 0 0 ∧ bg ≤ fb ∧ ∃ hp : Nat, hole = hp ∧ fb ≤ hp ∧ hole + 2 ≤ (fb : Int) + pl ∧ ∃ (fn0 : Bool) (a0 : Nat) (E0 : List (Int × Int)) (p0 fb0 : Nat) (hole0 : Int) (bg0 fr0 q0 : Nat),
          σ 30 hp = a0 ∧ σ 31 hp = fb0 ∧ σ 32 hp = hole0 ∧ fr = fr0 + 2 ∧ τ 23 fr0 = bg0 ∧ (fn0 = true → τ 23 (fr0 + 1) = fb0) ∧ fb = fb0 + p0 ∧ hole0 < fb ∧ m ≤ q0 + 25 ∧ z_ev (τ 21) (τ 22) fb0 bg0 E0 bg ∧ (∀ i : Nat, fb0 ≤ i → i < fb → (i : Int) ≠ hole0 → 0 ≤ τ 20 i) ∧
          z_jc A B st K σ τ m fn0 a0 E0 (p0 + 1) fb0 hole0 bg0 fr0 q0 u') ∨
       (¬ τ 16 m = 15 ∧ ∃ (E' : List (Int × Int)) (pl' b' : Nat), z_jt A B st K (hole - fb) m q fn (τ 16 m) (τ 17 m) (τ 18 m) (τ 19 m) E pl b E' pl' b' ∧ z_jc A B st K σ τ m fn b' E' pl' fb hole bg fr q u'))
/-- only what lies below matters: things below m, variables below bg, frames, the stack below fb, the holes' callers -/
theorem z_jc_frame {A B : Nat → Int} {st : Nat} {K : z_K} {σ τ σ' τ' : mj_S} : ∀ {m : Nat} {fn : Bool} {a : Nat} {E : List (Int × Int)} {pl fb : Nat} {hole : Int} {bg fr q u : Nat},
    (∀ i, i < m → τ' 16 i = τ 16 i ∧ τ' 17 i = τ 17 i ∧ τ' 18 i = τ 18 i ∧ τ' 19 i = τ 19 i) → (∀ i, i < bg → τ' 21 i = τ 21 i ∧ τ' 22 i = τ 22 i) → (∀ i, i < fr → τ' 23 i = τ 23 i) → (∀ i, i < fb → τ' 20 i = τ 20 i) → (∀ i : Nat, (i : Int) ≤ hole → σ' 30 i = σ 30 i ∧ σ' 31 i = σ 31 i ∧ σ' 32 i = σ 32 i) →
    z_jc A B st K σ τ m fn a E pl fb hole bg fr q u → z_jc A B st K σ' τ' m fn a E pl fb hole bg fr q u
  | 0, _, _, _, _, _, _, _, _, _, _, _, _, _, _, _, h => h
  | m + 1, fn, a, E, pl, fb, hole, bg, fr, q, u, hW, hV, hF, hS, hH, h => by
    obtain ⟨jn, b, u', h1, h2, h⟩ := h
    obtain ⟨w1, w2, w3, w4⟩ := hW m (by omega)
    refine ⟨jn, b, u', h1, h2, ?_⟩
    rcases h with ⟨h3, h4, h5, h6, h6', hp, h7, h8, h8', fn0, a0, E0, p0, fb0, hole0, bg0, fr0, q0, g1, g2, g3, g4, g5, g6, g7, g8, g9, g10, g11, g12⟩ | ⟨h3, E', pl', b', h4, h5⟩
    · have hbg : bg0 ≤ bg := by have := z_ev_len g10; omega
      obtain ⟨e1, e2, e3⟩ := hH hp (by omega)
      refine Or.inl ⟨by rw [w1]; exact h3, h4, h5, h6, h6', hp, h7, h8, h8', fn0, a0, E0, p0, fb0, hole0, bg0, fr0, q0, by rw [e1, g1], by rw [e2, g2], by rw [e3, g3], g4, by rw [hF _ (by omega), g5], fun z => by rw [hF _ (by omega), g6 z], g7, g8, g9, z_ev_frame hV g10, fun i i1 i2 i3 => by rw [hS i i2]; exact g11 i i1 i2 i3, ?_⟩
      exact z_jc_frame (fun i hi => hW i (by omega)) (fun i hi => hV i (by omega)) (fun i hi => hF i (by omega)) (fun i hi => hS i (by omega)) (fun i hi => hH i (by omega)) g12
    · refine Or.inr ⟨by rw [w1]; exact h3, E', pl', b', by rw [w1, w2, w3, w4]; exact h4, ?_⟩
      exact z_jc_frame (fun i hi => hW i (by omega)) hV hF hS hH h5
/-- a jump before it -/
theorem z_jc_j {A B : Nat → Int} {st : Nat} {K : z_K} {σ τ : mj_S} {m : Nat} {fn : Bool} {a c : Nat} {E : List (Int × Int)} {pl fb : Nat} {hole : Int} {bg fr q u : Nat} (hj : z_in K c 4 (a : Int) 0) (h : z_jc A B st K σ τ m fn a E pl fb hole bg fr q u) : z_jc A B st K σ τ m fn c E pl fb hole bg fr q (u + 1) := by
  cases m with
  | zero =>
    obtain ⟨h1, b, h2, h3⟩ := h
    exact ⟨h1, b, ⟨a, hj, h2⟩, h3⟩
  | succ m =>
    obtain ⟨jn, b, u', h1, h2, h3⟩ := h
    exact ⟨jn + 1, b, u', ⟨a, hj, h1⟩, by omega, h3⟩
theorem z_jc_bd {A B : Nat → Int} {st : Nat} {K : z_K} {σ τ : mj_S} : ∀ {m : Nat} {fn : Bool} {a : Nat} {E : List (Int × Int)} {pl fb : Nat} {hole : Int} {bg fr q u : Nat},
    z_jc A B st K σ τ m fn a E pl fb hole bg fr q u → (fr : Int) ≤ 2 * (hole + 1) ∧ q ≤ 13 * fr ∧ bg ≤ fb ∧ -1 ≤ hole ∧ q ≤ m ∧ hole < (fb : Int) + pl ∧ (fn = true → (fb : Int) ≤ hole ∧ 2 ≤ fr)
  | 0, _, _, _, _, _, _, _, _, _, _, h => by
    obtain ⟨h1, b, h2, h3, h4, h5, h6, h7, h8, h9⟩ := h
    refine ⟨by omega, by omega, by omega, by omega, by omega, by omega, fun z => ?_⟩
    rw [h1] at z; cases z
  | m + 1, fn, a, E, pl, fb, hole, bg, fr, q, u, h => by
    obtain ⟨jn, b, u', h1, h2, h⟩ := h
    rcases h with ⟨h3, h4, h5, h6, h6', hp, h7, h8, h8', fn0, a0, E0, p0, fb0, hole0, bg0, fr0, q0, g1, g2, g3, g4, g5, g6, g7, g8, g9, g10, g11, g12⟩ | ⟨h3, E', pl', b', h4, h5⟩
    · obtain ⟨i1, i2, i3, i4, i5, i6, i7⟩ := z_jc_bd g12
      refine ⟨by omega, by omega, by omega, by omega, by omega, by omega, fun _ => ⟨by omega, by omega⟩⟩
    · obtain ⟨i1, i2, i3, i4, i5, i6, i7⟩ := z_jc_bd h5
      refine ⟨i1, i2, i3, i4, by omega, ?_, i7⟩
      unfold z_jt at h4
      rcases h4 with ⟨_, _, k, tl, _, _, g, _⟩ | ⟨_, _, k, c, _, g, _⟩ | ⟨_, _, k, tl, p0, c, _, _, e, g, _⟩ | ⟨_, _, k, tl, p0, c, i, _, _, _, e, g, _⟩ | ⟨_, p0, i, _, _, e, _, _, _, _, g, _⟩ | ⟨_, _, k, tl, _, _, g, _⟩ | ⟨_, _, k, tl, p0, c, _, _, e, g, _⟩ | ⟨_, _, k, tl, _, _, g, _⟩ | ⟨_, _, k, tl, p0, _, _, e, g, _⟩ | ⟨_, p0, i, _, _, e, g, _⟩ | ⟨_, p0, _, _, _, e, g, _⟩ | ⟨_, tl, p0, i, _, _, _, _, _, e, g, _⟩ <;> (have := g.1; omega)
/-- in a function: where its call comes back -/
theorem z_jc_ret {A B : Nat → Int} {st : Nat} {K : z_K} {σ τ : mj_S} : ∀ {m : Nat} {a : Nat} {E : List (Int × Int)} {pl fb : Nat} {hole : Int} {bg fr q u : Nat},
    z_jc A B st K σ τ m true a E pl fb hole bg fr q u → ∃ (m0 : Nat) (a' : Nat) (E' : List (Int × Int)) (pl' u' : Nat), q = m0 + 1 ∧ m0 < m ∧ τ 16 m0 = 15 ∧ (∀ i, m0 < i → i < m → ¬ τ 16 i = 15) ∧ u' ≤ u ∧ z_jc A B st K σ τ (m0 + 1) true a' E' pl' fb hole bg fr q u'
  | 0, _, _, _, _, _, _, _, _, _, h => by cases h.1
  | m + 1, a, E, pl, fb, hole, bg, fr, q, u, h => by
    have h' := h
    obtain ⟨jn, b, u', h1, h2, h⟩ := h
    rcases h with ⟨h3, h4, h5, h6, h6', hp, h7, h8, h8', rest⟩ | ⟨h3, E', pl', b', h4, h5⟩
    · exact ⟨m, a, E, pl, u, h5, by omega, h3, fun i i1 i2 => by omega, Nat.le_refl _, h'⟩
    · obtain ⟨m0, a1, E1, pl1, u1, g1, g2, g3, g4, g5, g6⟩ := z_jc_ret h5
      refine ⟨m0, a1, E1, pl1, u1, g1, by omega, g3, fun i i1 i2 => ?_, by omega, g6⟩
      by_cases e : i = m
      · rw [e]; exact h3
      · exact g4 i i1 (by omega)
