/-! jumps that wait for one aim -/
def z_pd (Seg : z_K → Nat → Nat → Nat → Prop) (o : Int) (K : z_K) (i lo hi : Nat) (js : List Nat) : Prop :=
  ∃ f : Nat → Nat, f 0 = lo ∧ f i = hi ∧ (∀ j, j < i → f j < f (j + 1) ∧ Seg K j (f j) (f (j + 1) - 1) ∧ K.1 (f (j + 1) - 1) = o ∧ K.2.2 (f (j + 1) - 1) = 0) ∧ ∀ q, q ∈ js ↔ ∃ j, j < i ∧ q = f (j + 1) - 1
def z_stb (Seg : z_K → Nat → Nat → Nat → Prop) : Prop := ∀ (K K' : z_K) (j a b : Nat), (∀ i, a ≤ i → i < b → K'.1 i = K.1 i ∧ K'.2.1 i = K.2.1 i ∧ K'.2.2 i = K.2.2 i) → Seg K j a b → Seg K' j a b
theorem z_pd_0 {Seg : z_K → Nat → Nat → Nat → Prop} {o : Int} {K : z_K} {lo : Nat} : z_pd Seg o K 0 lo lo [] := ⟨fun _ => lo, rfl, rfl, fun j hj => absurd hj (Nat.not_lt_zero j), fun q => ⟨fun h => absurd h (by simp), fun ⟨j, hj, _⟩ => absurd hj (Nat.not_lt_zero j)⟩⟩
theorem z_pd_mono {f : Nat → Nat} {i : Nat} (h : ∀ j, j < i → f j < f (j + 1)) {a b : Nat} (hab : a ≤ b) (hb : b ≤ i) : f a ≤ f b := z_up (fun j hj => Nat.le_of_lt (h j hj)) hab hb
theorem z_pd_in {Seg : z_K → Nat → Nat → Nat → Prop} {o : Int} {K : z_K} {i lo hi : Nat} {js : List Nat} (h : z_pd Seg o K i lo hi js) : lo ≤ hi ∧ ∀ q, q ∈ js → lo ≤ q ∧ q < hi := by
  obtain ⟨f, h1, h2, h3, h4⟩ := h
  have u := @z_pd_mono f i (fun j hj => (h3 j hj).1)
  refine ⟨by rw [← h1, ← h2]; exact u (Nat.zero_le i) (Nat.le_refl i), fun q hq => ?_⟩
  obtain ⟨j, hj, e⟩ := (h4 q).mp hq
  have u1 := u (Nat.zero_le j) (by omega)
  have u2 := u (a := j + 1) (b := i) (by omega) (Nat.le_refl i)
  have u3 := (h3 j hj).1
  omega
theorem z_pd_s {Seg : z_K → Nat → Nat → Nat → Prop} {o : Int} {K : z_K} {i lo hi b : Nat} {js : List Nat} (h : z_pd Seg o K i lo hi js) (g : Seg K i hi b) (hb : hi ≤ b) (h1 : K.1 b = o) (h2 : K.2.2 b = 0) : z_pd Seg o K (i + 1) lo (b + 1) (b :: js) := by
  obtain ⟨f, f1, f2, f3, f4⟩ := h
  refine ⟨fun j => if j ≤ i then f j else b + 1, (if_pos (Nat.zero_le _)).trans f1, if_neg (by omega), fun j hj => ?_, fun q => ?_⟩
  · show (if j ≤ i then f j else b + 1) < (if j + 1 ≤ i then f (j + 1) else b + 1) ∧ Seg K j (if j ≤ i then f j else b + 1) ((if j + 1 ≤ i then f (j + 1) else b + 1) - 1) ∧ K.1 ((if j + 1 ≤ i then f (j + 1) else b + 1) - 1) = o ∧ K.2.2 ((if j + 1 ≤ i then f (j + 1) else b + 1) - 1) = 0
    by_cases c : j = i
    · subst c
      rw [if_pos (Nat.le_refl _), if_neg (by omega), f2, Nat.add_sub_cancel]
      exact ⟨by omega, g, h1, h2⟩
    · rw [if_pos (by omega), if_pos (by omega)]
      exact f3 j (by omega)
  · show q ∈ b :: js ↔ ∃ j, j < i + 1 ∧ q = (if j + 1 ≤ i then f (j + 1) else b + 1) - 1
    rw [List.mem_cons, f4 q]
    constructor
    · rintro (e | ⟨j, hj, e⟩)
      · exact ⟨i, by omega, by rw [if_neg (by omega)]; omega⟩
      · exact ⟨j, by omega, by rw [if_pos (by omega)]; exact e⟩
    · rintro ⟨j, hj, e⟩
      by_cases c : j = i
      · subst c
        rw [if_neg (by omega)] at e
        exact Or.inl (by omega)
      · rw [if_pos (by omega)] at e
        exact Or.inr ⟨j, by omega, e⟩
theorem z_pd_frame {Seg : z_K → Nat → Nat → Nat → Prop} {o : Int} {K K' : z_K} {i lo hi : Nat} {js : List Nat} (hS : z_stb Seg) (hK : ∀ j, lo ≤ j → j < hi → K'.1 j = K.1 j ∧ K'.2.1 j = K.2.1 j ∧ K'.2.2 j = K.2.2 j) (h : z_pd Seg o K i lo hi js) : z_pd Seg o K' i lo hi js := by
  obtain ⟨f, f1, f2, f3, f4⟩ := h
  have u := @z_pd_mono f i (fun j hj => (f3 j hj).1)
  refine ⟨f, f1, f2, fun j hj => ?_, f4⟩
  obtain ⟨g1, g2, g3, g4⟩ := f3 j hj
  have u1 := u (Nat.zero_le j) (by omega)
  have u2 := u (a := j + 1) (b := i) (by omega) (Nat.le_refl i)
  obtain ⟨k1, k2, k3⟩ := hK (f (j + 1) - 1) (by omega) (by omega)
  exact ⟨g1, hS K K' j _ _ (fun q q1 q2 => hK q (by omega) (by omega)) g2, by rw [k1]; exact g3, by rw [k3]; exact g4⟩
/-- all of them aimed -/
theorem z_pd_fin {Seg : z_K → Nat → Nat → Nat → Prop} {o T : Int} {K K' : z_K} {i lo hi : Nat} {js : List Nat} (hS : z_stb Seg) (h1 : ∀ j, lo ≤ j → j < hi → K'.1 j = K.1 j ∧ K'.2.2 j = K.2.2 j) (h2 : ∀ j, lo ≤ j → j < hi → ¬ j ∈ js → K'.2.1 j = K.2.1 j) (h3 : ∀ j, j ∈ js → K'.2.1 j = T) (h : z_pd Seg o K i lo hi js) :
    ∃ f : Nat → Nat, f 0 = lo ∧ f i = hi ∧ ∀ j, j < i → f j < f (j + 1) ∧ Seg K' j (f j) (f (j + 1) - 1) ∧ z_in K' (f (j + 1) - 1) o T 0 := by
  obtain ⟨f, f1, f2, f3, f4⟩ := h
  have u := @z_pd_mono f i (fun j hj => (f3 j hj).1)
  refine ⟨f, f1, f2, fun j hj => ?_⟩
  obtain ⟨g1, g2, g3, g4⟩ := f3 j hj
  have u1 := u (Nat.zero_le j) (by omega)
  have u2 := u (a := j + 1) (b := i) (by omega) (Nat.le_refl i)
  obtain ⟨k1, k3⟩ := h1 (f (j + 1) - 1) (by omega) (by omega)
  refine ⟨g1, hS K K' j _ _ (fun q q1 q2 => ?_) g2, by rw [k1]; exact g3, h3 _ ((f4 _).mpr ⟨j, hj, rfl⟩), by rw [k3]; exact g4⟩
  obtain ⟨m1, m3⟩ := h1 q (by omega) (by omega)
  refine ⟨m1, h2 q (by omega) (by omega) (fun hq => ?_), m3⟩
  obtain ⟨t, ht, e⟩ := (f4 q).mp hq
  rcases Nat.lt_trichotomy t j with c | c | c
  · have := u (a := t + 1) (b := j) (by omega) (by omega)
    have := (f3 t ht).1
    omega
  · subst c; omega
  · have := u (a := j + 1) (b := t) (by omega) (by omega)
    have := (f3 t ht).1
    omega
theorem z_stb_C {A B : Nat → Int} {k : Nat} {E : List (Int × Int)} {e : Nat → Int} {pl : Int} : z_stb (fun K j a b => z_C A B K k E (e j) pl false a b) := fun _ _ _ _ _ hK h => z_C_frame k _ _ _ _ _ _ hK h
/-- a clause: its test, a jump past it, its value -/
def z_sg (A B : Nat → Int) (k : Nat) (E : List (Int × Int)) (e : Nat → Int) (pl : Int) (tl : Bool) (K : z_K) (j a b : Nat) : Prop := z_isl B (e j) 2 ∧ ∃ g, z_C A B K k E (z_el A B (e j) 0) pl false a g ∧ z_in K g 5 ((b : Int) + 1) 0 ∧ z_C A B K k E (z_el A B (e j) 1) pl tl (g + 1) b
theorem z_stb_sg {A B : Nat → Int} {k : Nat} {E : List (Int × Int)} {e : Nat → Int} {pl : Int} {tl : Bool} : z_stb (z_sg A B k E e pl tl) := fun K K' j a b hK h => by
  obtain ⟨h1, g, h2, h3, h4⟩ := h
  have l1 := z_C_lt k _ _ _ _ _ _ h2
  have l2 := z_C_lt k _ _ _ _ _ _ h4
  obtain ⟨k1, k2, k3⟩ := hK g (by omega) (by omega)
  exact ⟨h1, g, z_C_frame k _ _ _ _ _ _ (fun i i1 i2 => hK i (by omega) (by omega)) h2, ⟨by rw [k1]; exact h3.1, by rw [k2]; exact h3.2.1, by rw [k3]; exact h3.2.2⟩, z_C_frame k _ _ _ _ _ _ (fun i i1 i2 => hK i (by omega) (by omega)) h4⟩
theorem z_chn_cons {P P' : Nat → Int} {js : List Nat} {h : Int} {b : Nat} (hb : ∀ i, i ∈ js → i < b) (hP : ∀ i, i ∈ js → P' i = P i) (h1 : P' b = h) (g : z_chn P js h) : z_chn P' (b :: js) (b : Int) := ⟨rfl, hb, by rw [h1]; exact z_chn_frame hP g⟩
set_option maxHeartbeats 1000000 in
/-- and, or -/
theorem mk_turn {k K0 : Nat} (ih : z_MFd k (K0 + 2)) {σ0 τ0 : mj_S} {Q : mj_Q} {A B : Nat → Int} {hd y2 pl : Int} {tl : Bool} {lv m n len0 st c bnd : Nat} {E : List (Int × Int)} {e : Nat → Int} (hA : A = σ0 11) (hB : B = σ0 12) (hst : st ≤ 400) (hSE : z_SE st σ0 τ0) (hlv : lv + k ≤ 12) (hpl : 0 ≤ pl) (hm : m + 8 * k + 12 ≤ 3000) (hbnd : bnd ≤ 2400) (hc4 : c ≤ 400)
    (hok : ∀ (σ' τ' : mj_S) (len' : Nat) (f : Nat → Nat), z_Fc len0 n σ0 σ' → z_Fm m n τ0 τ' → z_MK σ' τ' E n → σ' 4 3 = len' → len' ≤ bnd → f 0 = len0 → (∀ j, j < c → f j < f (j + 1) ∧ z_C A B (z_Kc σ') k E (e j) pl false (f j) (f (j + 1) - 1) ∧ z_in (z_Kc σ') (f (j + 1) - 1) (if hd = 268435462 then 6 else 7) (len' : Int) 0) → z_C A B (z_Kc σ') k E (e c) pl tl (f c) len' → τ' 0 26 = m → τ' 0 5 = 0 → z_gl τ0 τ' → Q (some (.inl 0)) σ')
    (hbad : ∀ (e : Int) (σ' τ' : mj_S), z_Fc len0 n σ0 σ' → z_Fm m n τ0 τ' → len0 ≤ σ' 4 3 → σ' 4 3 ≤ 2400 → τ' 0 5 = e → (e = 1 ∨ e = 2 ∨ e = 4) → z_gl τ0 τ' → Q (some (.inl e)) σ') :
    ∀ (j i : Nat) (σ τ : mj_S) (r h : Int) (s len : Nat) (js : List Nat), i + j = c → z_Fc len0 n σ0 σ → z_Fm m n τ0 τ → z_MK σ τ E n → σ 4 3 = len → z_pd (fun K j a b => z_C A B K k E (e j) pl false a b) (if hd = 268435462 then 6 else 7) (z_Kc σ) i len0 len js → js.length = i → z_chn (σ 20) js h → z_isl B r (j + 1) → z_D A B 536870912 0 st (k + 1) s r → (∀ t, t < j + 1 → e (i + t) = z_el A B r t) → len + 3 * s + 2 ≤ bnd → pl + s ≤ 1000 → n + s ≤ 400 → τ 0 26 = (m : Int) + 1 → τ 16 m = 2 → τ 17 m = r → τ 18 m = 0 → τ 0 5 = 0 → z_gl τ0 τ → qh_c80_37 (K0 + 2) Q hd y2 ((c : Int) + 1) pl (z_bo tl) (lv : Int) h r (i : Int) σ := by
  intro j
  induction j with
  | zero =>
    intro i σ τ r h s len js hij f1 f2 f3 f4 f5 fl fc f6 f7 f8 f9 f10 f11 h26 h16 h17 h18 h5 gl
    have hic : i = c := by omega
    subst hic
    obtain ⟨hr, hl2⟩ := z_isl_t f6
    have hnil := z_isl_0 hl2
    obtain ⟨k', p, s1, s2, g1, g2, g3, g4, g5, g6, g7⟩ := z_D_p (by decide) f7 hr.1
    have hk' : k' = k := by omega
    subst hk'
    have eA : σ 11 = A := by funext x; rw [hA]; exact f1.1 11 x (by omega)
    have eB : σ 12 = B := by funext x; rw [hB]; exact f1.1 12 x (by omega)
    have e0 : e i = z_cd A r := by have := f8 0 (by omega); rw [Nat.add_zero] at this; exact this
    have hD1 : z_D (σ 11) (σ 12) 536870912 0 st k' s1 (z_cd (σ 11) r) := by
      rw [eA, eB]; exact z_D_mono (Int.le_refl _) (Nat.le_refl _) (by omega) (Nat.le_refl _) g6
    obtain ⟨p1, p2⟩ := z_pd_in f5
    refine qw_c80_37 (d := K0) ⟨by unfold mj_r; omega, fun _ => ⟨by omega, ?_⟩, fun q => absurd q (by omega)⟩
    refine mk_sub ih hst (z_SE_F hSE f1 f2) (tl := tl) (s := s1) (m := m) (len := len) (r := r) (lv := lv) (pl := pl) ⟨hr.1, by omega⟩ hD1 hlv hpl (by omega) f3 (by omega) f4 (by omega) h26 hm h16 h17 h18 h5 (fun σ' τ' len' k1 k2 k3 k4 k5 k6 k7 k8 k9 k10 k11 k12 => ⟨_, rfl, ?_⟩) (fun er σ' τ' k1 k2 k3 k4 k5 k6 k7 => ⟨_, rfl, ?_⟩)
    · rw [eA, eB] at k6
      rw [eB] at k9
      have ll := z_C_lt k' _ _ _ _ _ _ k6
      refine t_c61 (d := K0 + 1) (js := js) (len := len') (by omega) k4 (fun q hq => by have := p2 q hq; omega) (by omega) (z_chn_frame (fun q hq => (k1.2.1 q (p2 q hq).2).2.1) fc) (fun σ2 c1 c2 => ⟨rfl, ?_⟩)
      have F2 : z_Fc len0 n σ' σ2 := z_Fc_a c1 (fun q hq => (p2 q hq).1)
      obtain ⟨f, w1, w2, w3⟩ := z_pd_fin (K' := z_Kc σ2) (T := (len' : Int)) z_stb_C (fun q q1 q2 => ⟨by show σ2 19 q = σ 19 q; rw [c1 19 q (fun z => absurd z.1 (by decide))]; exact (k1.2.1 q q2).1, by show σ2 21 q = σ 21 q; rw [c1 21 q (fun z => absurd z.1 (by decide))]; exact (k1.2.1 q q2).2.2⟩) (fun q q1 q2 q3 => by show σ2 20 q = σ 20 q; rw [c1 20 q (fun z => q3 z.2)]; exact (k1.2.1 q q2).2.1) (fun q hq => c2 q hq) f5
      have kC : z_Ks len len' σ' σ2 := z_Ks_a c1 (fun q q1 q2 hq => by have := p2 q hq; omega)
      refine hok σ2 (mj_up τ' 0 26 (m : Int)) len' f (z_Fc_tr (Nat.le_refl _) (Nat.le_refl _) (z_Fc_tr p1 (Nat.le_refl _) f1 k1) F2) (z_Fm_tr (Nat.le_refl _) (Nat.le_refl _) (z_Fm_tr (Nat.le_refl _) (Nat.le_refl _) f2 k2) z_pop) (z_MK_F k3 F2 z_pop (by rw [c1 5 4 (fun z => absurd z.1 (by decide))]; exact k3.1) (by rw [mj_up_ne (by omega)]; exact k3.2.2.1)) (by rw [c1 4 3 (fun z => absurd z.1 (by decide))]; exact k4) (by omega) w1 w3 (by rw [w2, e0]; exact z_Ks_C kC k6) mj_up_eq (by rw [mj_up_ne (by omega)]; exact k11) (z_gl_tr (z_gl_tr gl k12) (l_nil k7 (by omega) k11 k8 k9 (by omega)))
    · obtain ⟨l', hl'⟩ : ∃ l : Nat, σ' 4 3 = l := ⟨(σ' 4 3).toNat, by omega⟩
      refine t_c61 (d := K0 + 1) (js := js) (len := l') (by omega) hl' (fun q hq => by have := p2 q hq; omega) (by omega) (z_chn_frame (fun q hq => (k1.2.1 q (p2 q hq).2).2.1) fc) (fun σ2 c1 c2 => ⟨rfl, ?_⟩)
      have F2 : z_Fc len0 n σ' σ2 := z_Fc_a c1 (fun q hq => (p2 q hq).1)
      have c43 : σ2 4 3 = σ' 4 3 := c1 4 3 (fun z => absurd z.1 (by decide))
      exact hbad er σ2 τ' (z_Fc_tr (Nat.le_refl _) (Nat.le_refl _) (z_Fc_tr p1 (Nat.le_refl _) f1 k1) F2) (z_Fm_tr (Nat.le_refl _) (Nat.le_refl _) f2 k2) (by omega) (by omega) k5 k6 (z_gl_tr gl k7)
  | succ j ihj =>
    intro i σ τ r h s len js hij f1 f2 f3 f4 f5 fl fc f6 f7 f8 f9 f10 f11 h26 h16 h17 h18 h5 gl
    obtain ⟨hr, hl2⟩ := z_isl_t f6
    obtain ⟨k', p, s1, s2, g1, g2, g3, g4, g5, g6, g7⟩ := z_D_p (by decide) f7 hr.1
    have hk' : k' = k := by omega
    subst hk'
    have eA : σ 11 = A := by funext x; rw [hA]; exact f1.1 11 x (by omega)
    have eB : σ 12 = B := by funext x; rw [hB]; exact f1.1 12 x (by omega)
    have e0 : e i = z_cd A r := by have := f8 0 (by omega); rw [Nat.add_zero] at this; exact this
    have hD1 : z_D (σ 11) (σ 12) 536870912 0 st k' s1 (z_cd (σ 11) r) := by
      rw [eA, eB]; exact z_D_mono (Int.le_refl _) (Nat.le_refl _) (by omega) (Nat.le_refl _) g6
    obtain ⟨p1, p2⟩ := z_pd_in f5
    refine qw_c80_37 (d := K0) ⟨by unfold mj_r; omega, fun q => absurd q (by omega), fun _ => ⟨by omega, ?_⟩⟩
    refine mk_sub ih hst (z_SE_F hSE f1 f2) (tl := false) (s := s1) (m := m) (len := len) (r := r) (lv := lv) (pl := pl) ⟨hr.1, by omega⟩ hD1 hlv hpl (by omega) f3 (by omega) f4 (by omega) h26 hm h16 h17 h18 h5 (fun σ' τ' len' k1 k2 k3 k4 k5 k6 k7 k8 k9 k10 k11 k12 => ?_) (fun er σ' τ' k1 k2 k3 k4 k5 k6 k7 => ⟨_, rfl, fun q => absurd q (by omega), fun _ => hbad er σ' τ' (z_Fc_tr p1 (Nat.le_refl _) f1 k1) (z_Fm_tr (Nat.le_refl _) (Nat.le_refl _) f2 k2) (by omega) k4 k5 k6 (z_gl_tr gl k7)⟩)
    rw [eA, eB] at k6
    rw [eB] at k9
    have ll := z_C_lt k' _ _ _ _ _ _ k6
    -- the next turn, with the jump put
    have next : ∀ σ6, σ6 = z_p1 σ' len' (if hd = 268435462 then 6 else 7) h 0 → z_dr r ∧ mj_r ((i : Int) + 1) ∧ qh_c80_37 (K0 + 2) Q hd y2 ((c : Int) + 1) pl (z_bo tl) (lv : Int) (if σ' 4 3 < 2400 then σ' 4 3 else -1) (z_cd (σ6 12) r) ((i : Int) + 1) σ6 := fun σ6 e6 => by
      obtain ⟨v6, v6'⟩ := @z_p1_v σ' len' (if hd = 268435462 then 6 else 7) h 0
      rw [← e6] at v6 v6'
      have F6 : z_Fc len' n σ' σ6 := by rw [e6]; exact z_Fc_p
      have eB' : σ6 12 = B := by funext x; rw [F6.1 12 x (by omega), k1.1 12 x (by omega), eB]
      refine ⟨by omega, by unfold mj_r; omega, ?_⟩
      rw [eB', k4, if_pos (by omega), show ((i : Int) + 1) = ((i + 1 : Nat) : Int) by omega]
      have F16 : z_Fc len n σ σ6 := z_Fc_tr (by omega) (Nat.le_refl _) k1 F6
      refine ihj (i + 1) σ6 τ' (z_cd B r) (len' : Int) s2 (len' + 1) (len' :: js) (by omega) (z_Fc_tr p1 (Nat.le_refl _) f1 F16) (z_Fm_tr (Nat.le_refl _) (Nat.le_refl _) f2 k2) (z_MK_F k3 F6 (z_Fm_rf m n τ') (by rw [e6, z_p1_o (by omega)]; exact k3.1) k3.2.2.1) v6' (z_pd_s (z_pd_frame z_stb_C (z_Fc_K F16 (Nat.le_refl _)) f5) (by rw [e0]; exact z_Ks_C (z_Ks_F F6 (Nat.le_refl _)) k6) (by omega) v6.1 v6.2.2) (by rw [List.length_cons, fl]) (z_chn_cons (fun q hq => by have := p2 q hq; omega) (fun q hq => (F16.2.1 q (p2 q hq).2).2.1) v6.2.1 fc) hl2 g7 (fun t ht => ?_) (by omega) (by omega) (by omega) k7 k8 k9 k10 k11 (z_gl_tr gl k12)
      rw [z_el_s, show i + 1 + t = i + (t + 1) by omega]
      exact f8 (t + 1) (by omega)
    refine ⟨_, rfl, fun _ => ⟨fun cz => ⟨by omega, fun σ6 e6 => next σ6 ?_⟩, fun cz => ⟨by omega, fun σ6 e6 => next σ6 ?_⟩⟩, fun q => absurd rfl q⟩
    · rw [e6, z_put_1 k4 (by omega), if_neg cz]
    · rw [e6, z_put_1 k4 (by omega), if_pos cz]
