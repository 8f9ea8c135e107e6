/-! code is made of a form where the reference finds nothing wrong with it -/
def z_MK (σ τ : mj_S) (E : List (Int × Int)) (n : Nat) : Prop := σ 5 4 = n ∧ z_ev (σ 22) (σ 23) 0 0 E n ∧ τ 0 33 = n ∧ τ 0 36 = (0 : Nat) ∧ ∀ i, i < n → τ 21 i = σ 22 i ∧ 0 ≤ τ 22 i
def z_SE (st : Nat) (σ τ : mj_S) : Prop := ∀ i, i < st → τ 4 i = σ 11 i ∧ τ 5 i = σ 12 i
def z_bo (b : Bool) : Int := if b then 1 else 0
def z_MFd (k dp : Nat) : Prop := ∀ (σ τ : mj_S) (Q : mj_Q) (x pl : Int) (tl : Bool) (lv s m n len st : Nat) (E : List (Int × Int)),
  st ≤ 400 → z_SE st σ τ → z_D (σ 11) (σ 12) 536870912 0 st k s x → lv + k ≤ 12 → 0 ≤ pl → pl + s ≤ 1000 → z_MK σ τ E n → n + s ≤ 400 → σ 4 3 = len → len + 3 * s + 2 ≤ 2400 →
  τ 0 26 = (m : Int) + 1 → m + 8 * k + 8 ≤ 3000 → τ 16 m = 16 → τ 17 m = x → τ 0 5 = 0 →
  (∀ (σ' τ' : mj_S) (len' : Nat), z_Fc len n σ σ' → z_Fm m n τ τ' → z_MK σ' τ' E n → σ' 4 3 = len' → len' ≤ len + 3 * s + 2 → z_C (σ 11) (σ 12) (z_Kc σ') k E x pl tl len len' → τ' 0 26 = m → τ' 0 5 = 0 → z_gl τ τ' → Q (some (.inl 0)) σ') →
  (∀ (e : Int) (σ' τ' : mj_S), z_Fc len n σ σ' → z_Fm m n τ τ' → len ≤ σ' 4 3 → σ' 4 3 ≤ 2400 → τ' 0 5 = e → (e = 1 ∨ e = 2 ∨ e = 4) → z_gl τ τ' → Q (some (.inl e)) σ') →
  mj_B mjc_L mjc_Ms dp 68 [.inr (.inl 5), .inl x, .inl pl, .inl (z_bo tl), .inl (lv : Int)] σ Q
theorem z_en0 {V P V' P' : Nat → Int} : ∀ {E : List (Int × Int)} {v : Nat}, z_ev V P 0 0 E v → (∀ i, i < v → V' i = V i ∧ 0 ≤ P' i) → ∃ E0, z_ev V' P' 0 0 E0 v ∧ ∀ x, (z_lu E0 x = none ↔ z_lu E x = none) ∧ ∀ p, z_lu E0 x = some p → 0 ≤ p
  | [], v, h, _ => ⟨[], h, fun x => ⟨Iff.rfl, fun p hp => by cases hp⟩⟩
  | (a, p) :: E, v, h, hf => by
    obtain ⟨v', h1, h2, h3, h4⟩ := h
    obtain ⟨E0, g1, g2⟩ := z_en0 h4 (fun i hi => hf i (by omega))
    obtain ⟨f1, f2⟩ := hf v' (by omega)
    refine ⟨(a, P' v') :: E0, ⟨v', h1, by rw [f1, h2], by omega, g1⟩, fun x => ?_⟩
    obtain ⟨k1, k2⟩ := g2 x
    unfold z_lu
    by_cases c : a = x
    · rw [if_pos c, if_pos c]
      exact ⟨⟨fun z => (by cases z), fun z => (by cases z)⟩, fun q hq => by cases hq; exact f2⟩
    · rw [if_neg c, if_neg c]
      exact ⟨k1, k2⟩
theorem z_SE_cd {st : Nat} {σ τ : mj_S} (h : z_SE st σ τ) {x : Int} (hx : x < 536870912 + (st : Int)) : z_cd (τ 4) x = z_cd (σ 11) x ∧ z_cd (τ 5) x = z_cd (σ 12) x := by
  unfold z_cd
  by_cases c : 536870912 ≤ x ∧ x < 536871512
  · rw [if_pos c, if_pos c, if_pos c, if_pos c]
    exact h _ (by omega)
  · rw [if_neg c, if_neg c, if_neg c, if_neg c]
    exact ⟨rfl, rfl⟩
theorem z_SE_D {st : Nat} {σ τ : mj_S} (h : z_SE st σ τ) {w : Int} {k s : Nat} {x : Int} (hd : z_D (σ 11) (σ 12) w 0 st k s x) : z_D (τ 4) (τ 5) w 0 st k s x := z_D_frame (fun i _ hi _ => h i hi) hd
theorem z_SE_F {st len n m n' : Nat} {σ τ σ' τ' : mj_S} (h : z_SE st σ τ) (hc : z_Fc len n σ σ') (hm : z_Fm m n' τ τ') : z_SE st σ' τ' := fun i hi => by
  rw [hc.1 11 i (by omega), hc.1 12 i (by omega), hm.1 4 i (by omega), hm.1 5 i (by omega)]
  exact h i hi
theorem z_MK_F {σ τ σ' τ' : mj_S} {E : List (Int × Int)} {n len m : Nat} (h : z_MK σ τ E n) (hc : z_Fc len n σ σ') (hm : z_Fm m n τ τ') (h1 : σ' 5 4 = n) (h2 : τ' 0 33 = n) : z_MK σ' τ' E n := by
  obtain ⟨a1, a2, a3, a4, a5⟩ := h
  refine ⟨h1, z_ev_frame (fun i hi => hc.2.2 i hi) a2, h2, by rw [hm.1 0 36 (by omega)]; exact a4, fun i hi => ?_⟩
  rw [(hm.2.2 i hi).1, (hm.2.2 i hi).2, (hc.2.2 i hi).1]
  exact a5 i hi
/-- ARGS with a pair: the first of them is looked at next -/
theorem l_step {τ : mj_S} {m : Nat} {r : Int} (h26 : τ 0 26 = (m : Int) + 1) (hm : m + 3 < 3000) (h5 : τ 0 5 = 0) (hw : τ 16 m = 2) (hx : τ 17 m = r) (hn : τ 18 m = 0) (hr : z_pr r) : z_gl τ (z_l1 (z_l1 (mj_up τ 0 26 (m : Int)) m 2 (z_cd (τ 5) r) 0 0) (m + 1) 16 (z_cd (τ 4) r) 0 0) := fun d Q y h => by
  refine l_go h26 (by omega) h5 (fun c => absurd c (by omega)) (fun c => absurd c (by omega)) (fun c => absurd c (by omega)) (fun _ c => absurd c (by omega)) (fun _ _ => ⟨hm, by rw [hx]; exact hr, Or.inl hn, fun _ => ?_, fun c => absurd c (by omega), fun c => absurd c (by omega)⟩) (Or.inr (Or.inr (Or.inr hw)))
  rw [hx]; exact h
theorem l_nil {τ : mj_S} {m : Nat} {r : Int} (h26 : τ 0 26 = (m : Int) + 1) (hm : m + 3 < 3000) (h5 : τ 0 5 = 0) (hw : τ 16 m = 2) (hx : τ 17 m = r) (hr : r < 536870912) : z_gl τ (mj_up τ 0 26 (m : Int)) := fun d Q y h =>
  l_go h26 (by omega) h5 (fun c => absurd c (by omega)) (fun c => absurd c (by omega)) (fun c => absurd c (by omega)) (fun _ _ => h) (fun _ c => absurd c (by omega)) (Or.inr (Or.inr (Or.inr hw)))
/-- a form that is the first of those to be looked at -/
theorem mk_sub {k K0 : Nat} (ih : z_MFd k K0) {σ τ : mj_S} {Q : mj_Q} {r pl : Int} {tl : Bool} {lv s m n len st : Nat} {E : List (Int × Int)} (hst : st ≤ 400) (hSE : z_SE st σ τ) (hr : 536870912 ≤ r ∧ r < 536870912 + (st : Int)) (hD : z_D (σ 11) (σ 12) 536870912 0 st k s (z_cd (σ 11) r)) (hlv : lv + k ≤ 12) (hpl : 0 ≤ pl) (hpl2 : pl + s ≤ 1000) (hMK : z_MK σ τ E n) (hn : n + s ≤ 400) (hlen : σ 4 3 = len) (hl2 : len + 3 * s + 2 ≤ 2400)
    (h26 : τ 0 26 = (m : Int) + 1) (hm : m + 8 * k + 12 ≤ 3000) (h16 : τ 16 m = 2) (h17 : τ 17 m = r) (h18 : τ 18 m = 0) (h5 : τ 0 5 = 0)
    (hok : ∀ (σ' τ' : mj_S) (len' : Nat), z_Fc len n σ σ' → z_Fm m n τ τ' → z_MK σ' τ' E n → σ' 4 3 = len' → len' ≤ len + 3 * s + 2 → z_C (σ 11) (σ 12) (z_Kc σ') k E (z_cd (σ 11) r) pl tl len len' → τ' 0 26 = (m : Int) + 1 → τ' 16 m = 2 → τ' 17 m = z_cd (σ 12) r → τ' 18 m = 0 → τ' 0 5 = 0 → z_gl τ τ' → Q (some (.inl 0)) σ')
    (hbad : ∀ (e : Int) (σ' τ' : mj_S), z_Fc len n σ σ' → z_Fm m n τ τ' → len ≤ σ' 4 3 → σ' 4 3 ≤ 2400 → τ' 0 5 = e → (e = 1 ∨ e = 2 ∨ e = 4) → z_gl τ τ' → Q (some (.inl e)) σ') : mj_B mjc_L mjc_Ms K0 68 [.inr (.inl 5), .inl (z_cd (σ 11) r), .inl pl, .inl (z_bo tl), .inl (lv : Int)] σ Q := by
  obtain ⟨q1, q2⟩ := z_SE_cd hSE hr.2
  have gl := l_step h26 (by omega) h5 h16 h17 h18 (by omega)
  rw [q1, q2] at gl
  generalize hτ : z_l1 (z_l1 (mj_up τ 0 26 (m : Int)) m 2 (z_cd (σ 12) r) 0 0) (m + 1) 16 (z_cd (σ 11) r) 0 0 = τ2 at gl
  have o : ∀ q j, ¬ ((16 ≤ q ∧ q ≤ 19 ∧ (j = m ∨ j = m + 1)) ∨ (q = 0 ∧ j = 26)) → τ2 q j = τ q j := fun q j c => by
    rw [← hτ, z_l1_o (by omega), z_l1_o (by omega), mj_up_ne (by omega)]
  have F2 : z_Fm m n τ τ2 := ⟨fun q j c => o q j (by omega), fun i hi => ⟨o 16 i (by omega), o 17 i (by omega), o 18 i (by omega), o 19 i (by omega)⟩, fun i hi => ⟨o 21 i (by omega), o 22 i (by omega)⟩⟩
  have v1 : τ2 16 (m + 1) = 16 ∧ τ2 17 (m + 1) = z_cd (σ 11) r ∧ τ2 0 26 = ((m + 1 : Nat) : Int) + 1 := by
    rw [← hτ]
    obtain ⟨a, b, _, _, c⟩ := @z_l1_v (z_l1 (mj_up τ 0 26 (m : Int)) m 2 (z_cd (σ 12) r) 0 0) (m + 1) 16 (z_cd (σ 11) r) 0 0
    exact ⟨a, b, by rw [c]; omega⟩
  have v0 : τ2 16 m = 2 ∧ τ2 17 m = z_cd (σ 12) r ∧ τ2 18 m = 0 := by
    rw [← hτ]
    obtain ⟨a, b, c, _, _⟩ := @z_l1_v (mj_up τ 0 26 (m : Int)) m 2 (z_cd (σ 12) r) 0 0
    refine ⟨?_, ?_, ?_⟩
    · rw [z_l1_o (by omega)]; exact a
    · rw [z_l1_o (by omega)]; exact b
    · rw [z_l1_o (by omega)]; exact c
  have MK2 : z_MK σ τ2 E n := z_MK_F hMK (z_Fc_rf len n σ) F2 hMK.1 (by rw [o 0 33 (by omega)]; exact hMK.2.2.1)
  refine ih σ τ2 Q _ pl tl lv s (m + 1) n len st E hst (z_SE_F hSE (z_Fc_rf len n σ) F2) hD hlv hpl hpl2 MK2 hn hlen hl2 v1.2.2 (by omega) v1.1 v1.2.1 (by rw [o 0 5 (by omega)]; exact h5) (fun σ' τ' len' f1 f2 f3 f4 f5 f6 f7 f8 f9 => ?_) (fun e σ' τ' f1 f2 f3 f4 f5 f6 f7 => ?_)
  · have k0 := f2.2.1 m (by omega)
    exact hok σ' τ' len' f1 (z_Fm_tr (by omega) (Nat.le_refl _) F2 f2) f3 f4 f5 f6 (by rw [f7]; omega) (by rw [k0.1]; exact v0.1) (by rw [k0.2.1]; exact v0.2.1) (by rw [k0.2.2.1]; exact v0.2.2) f8 (z_gl_tr gl f9)
  · exact hbad e σ' τ' f1 (z_Fm_tr (by omega) (Nat.le_refl _) F2 f2) f3 f4 f5 f6 (z_gl_tr gl f7)
/-! forms in a row -/
def z_sq (A B : Nat → Int) (K : z_K) (k : Nat) (E : List (Int × Int)) (e : Nat → Int) (pl : Int) (i lo hi : Nat) : Prop := ∃ f : Nat → Nat, f 0 = lo ∧ f i = hi ∧ z_fs (z_C A B K k) E e pl i f
theorem z_sq_0 {A B : Nat → Int} {K : z_K} {k : Nat} {E : List (Int × Int)} {e : Nat → Int} {pl : Int} {lo : Nat} : z_sq A B K k E e pl 0 lo lo := ⟨fun _ => lo, rfl, rfl, fun i hi => absurd hi (Nat.not_lt_zero i)⟩
theorem z_sq_s {A B : Nat → Int} {K : z_K} {k : Nat} {E : List (Int × Int)} {e : Nat → Int} {pl : Int} {i lo hi hi' : Nat} (h : z_sq A B K k E e pl i lo hi) (g : z_C A B K k E (e i) (pl + (i : Int)) false hi hi') : z_sq A B K k E e pl (i + 1) lo hi' := by
  obtain ⟨f, h1, h2, h3⟩ := h
  refine ⟨fun j => if j ≤ i then f j else hi', (if_pos (Nat.zero_le _)).trans h1, if_neg (by omega), fun j hj => ?_⟩
  show z_C A B K k E (e j) (pl + (j : Int)) false (if j ≤ i then f j else hi') (if j + 1 ≤ i then f (j + 1) else hi')
  by_cases c : j = i
  · subst c
    rw [if_pos (Nat.le_refl _), if_neg (by omega), h2]
    exact g
  · rw [if_pos (by omega), if_pos (by omega)]
    exact h3 j (by omega)
theorem z_sq_le {A B : Nat → Int} {K : z_K} {k : Nat} {E : List (Int × Int)} {e : Nat → Int} {pl : Int} {i lo hi : Nat} (h : z_sq A B K k E e pl i lo hi) : lo ≤ hi := by
  obtain ⟨f, h1, h2, h3⟩ := h
  rw [← h1, ← h2]
  exact z_up (fun j hj => by have := z_C_lt k _ _ _ _ _ _ (h3 j hj); omega) (Nat.zero_le i) (Nat.le_refl i)
theorem z_sq_frame {A B : Nat → Int} {K K' : z_K} {k : Nat} {E : List (Int × Int)} {e : Nat → Int} {pl : Int} {i lo hi : Nat} (hK : ∀ j, lo ≤ j → j < hi → K'.1 j = K.1 j ∧ K'.2.1 j = K.2.1 j ∧ K'.2.2 j = K.2.2 j) (h : z_sq A B K k E e pl i lo hi) : z_sq A B K' k E e pl i lo hi := by
  obtain ⟨f, h1, h2, h3⟩ := h
  have u := @z_up f i (fun j hj => by have := z_C_lt k _ _ _ _ _ _ (h3 j hj); omega)
  refine ⟨f, h1, h2, fun j hj => ?_⟩
  have u1 := u (Nat.zero_le j) (by omega)
  have u2 := u (i := j + 1) (j := i) (by omega) (Nat.le_refl i)
  exact z_C_frame k _ _ _ _ _ _ (fun q q1 q2 => hK q (by omega) (by omega)) (h3 j hj)
theorem z_Fc_K {len n : Nat} {σ σ' : mj_S} (h : z_Fc len n σ σ') {lo hi : Nat} (hh : hi ≤ len) : ∀ j, lo ≤ j → j < hi → (z_Kc σ').1 j = (z_Kc σ).1 j ∧ (z_Kc σ').2.1 j = (z_Kc σ).2.1 j ∧ (z_Kc σ').2.2 j = (z_Kc σ).2.2 j := fun j _ h2 => h.2.1 j (by omega)
theorem z_D_cnt {A B : Nat → Int} {w : Int} (hw : w ≤ 536870912) {lo b k s j : Nat} {x : Int} (h : z_D A B w lo b k s x) (hl : z_isl B x j) : j ≤ s := by
  obtain ⟨n, h1, h2⟩ := z_D_len hw s h
  have := z_len_un h1 hl.1
  omega
theorem mk_forms {k K0 : Nat} (ih : z_MFd k (K0 + 1)) {σ0 τ0 : mj_S} {Q : mj_Q} {A B : Nat → Int} {y1 pl : Int} {lv m n len0 st c bnd : Nat} {E : List (Int × Int)} {e : Nat → Int} (hA : A = σ0 11) (hB : B = σ0 12) (hst : st ≤ 400) (hSE : z_SE st σ0 τ0) (hlv : lv + k ≤ 12) (hpl : 0 ≤ pl) (hm : m + 8 * k + 12 ≤ 3000) (hbnd : bnd ≤ 2400)
    (hok : ∀ (σ' τ' : mj_S) (len' : Nat), z_Fc len0 n σ0 σ' → z_Fm m n τ0 τ' → z_MK σ' τ' E n → σ' 4 3 = len' → len' ≤ bnd → z_sq A B (z_Kc σ') k E e pl c len0 len' → τ' 0 26 = m → τ' 0 5 = 0 → z_gl τ0 τ' → Q (some (.inl 0)) σ')
    (hbad : ∀ (e : Int) (σ' τ' : mj_S), z_Fc len0 n σ0 σ' → z_Fm m n τ0 τ' → len0 ≤ σ' 4 3 → σ' 4 3 ≤ 2400 → τ' 0 5 = e → (e = 1 ∨ e = 2 ∨ e = 4) → z_gl τ0 τ' → Q (some (.inl e)) σ') :
    ∀ (j i : Nat) (σ τ : mj_S) (r : Int) (s len : Nat), i + j = c → z_Fc len0 n σ0 σ → z_Fm m n τ0 τ → z_MK σ τ E n → σ 4 3 = len → z_sq A B (z_Kc σ) k E e pl i len0 len → z_isl B r j → z_D A B 536870912 0 st (k + 1) s r → (∀ t, t < j → e (i + t) = z_el A B r t) → len + 3 * s ≤ bnd + j → pl + (i : Int) + s ≤ 1000 → n + s ≤ 400 → τ 0 26 = (m : Int) + 1 → τ 16 m = 2 → τ 17 m = r → τ 18 m = 0 → τ 0 5 = 0 → z_gl τ0 τ → qh_c73_6 (K0 + 1) Q y1 (c : Int) pl (lv : Int) r (i : Int) σ := by
  intro j
  induction j with
  | zero =>
    intro i σ τ r s len hij f1 f2 f3 f4 f5 f6 f7 f8 f9 f10 f11 h26 h16 h17 h18 h5 gl
    have hic : i = c := by omega
    subst hic
    have hr := z_isl_0 f6
    have F2 : z_Fm m n τ (mj_up τ 0 26 (m : Int)) := ⟨fun q x q1 => mj_up_ne (by omega), fun x hx => ⟨mj_up_ne (by omega), mj_up_ne (by omega), mj_up_ne (by omega), mj_up_ne (by omega)⟩, fun x hx => ⟨mj_up_ne (by omega), mj_up_ne (by omega)⟩⟩
    refine qw_c73_6 ⟨fun _ => hok σ (mj_up τ 0 26 (m : Int)) len f1 (z_Fm_tr (Nat.le_refl _) (Nat.le_refl _) f2 F2) (z_MK_F f3 (z_Fc_rf len n σ) F2 f3.1 (by rw [mj_up_ne (by omega)]; exact f3.2.2.1)) f4 (by omega) f5 mj_up_eq (by rw [mj_up_ne (by omega)]; exact h5) (z_gl_tr gl (l_nil h26 (by omega) h5 h16 h17 (by omega))), fun q => absurd q (by omega)⟩
  | succ j ihj =>
    intro i σ τ r s len hij f1 f2 f3 f4 f5 f6 f7 f8 f9 f10 f11 h26 h16 h17 h18 h5 gl
    obtain ⟨hr, hl2⟩ := z_isl_t f6
    obtain ⟨k', p, s1, s2, g1, g2, g3, g4, g5, g6, g7⟩ := z_D_p (by decide) f7 hr.1
    have hk' : k' = k := by omega
    subst hk'
    have hcn := z_D_cnt (by decide) g7 hl2
    have eA : σ 11 = A := by funext x; rw [hA]; exact f1.1 11 x (by omega)
    have eB : σ 12 = B := by funext x; rw [hB]; exact f1.1 12 x (by omega)
    have e0 : e i = z_cd A r := by have := f8 0 (by omega); rw [Nat.add_zero] at this; exact this
    refine qw_c73_6 ⟨fun q => absurd q (by omega), fun _ => ⟨by omega, by unfold mj_r; omega, ?_⟩⟩
    have hD1 : z_D (σ 11) (σ 12) 536870912 0 st k' s1 (z_cd (σ 11) r) := by
      rw [eA, eB]; exact z_D_mono (Int.le_refl _) (Nat.le_refl _) (by omega) (Nat.le_refl _) g6
    refine mk_sub ih hst (z_SE_F hSE f1 f2) (tl := false) (s := s1) (m := m) (len := len) (r := r) (lv := lv) (pl := pl + (i : Int)) ⟨hr.1, by omega⟩ hD1 hlv (by omega) (by omega) f3 (by omega) f4 (by omega) h26 hm h16 h17 h18 h5 (fun σ' τ' len' k1 k2 k3 k4 k5 k6 k7 k8 k9 k10 k11 k12 => ?_) (fun er σ' τ' k1 k2 k3 k4 k5 k6 k7 => ?_)
    · rw [eA] at k6
      rw [eB] at k6 k9
      have eB' : σ' 12 = B := by funext x; rw [k1.1 12 x (by omega), eB]
      refine ⟨_, rfl, fun _ => ⟨by omega, by unfold mj_r; omega, ?_⟩, fun q => absurd rfl q⟩
      rw [eB', show ((i : Int) + 1) = ((i + 1 : Nat) : Int) by omega]
      have hle := z_sq_le f5
      refine ihj (i + 1) σ' τ' (z_cd B r) s2 len' (by omega) (z_Fc_tr hle (Nat.le_refl _) f1 k1) (z_Fm_tr (Nat.le_refl _) (Nat.le_refl _) f2 k2) k3 k4 (z_sq_s (z_sq_frame (z_Fc_K k1 (Nat.le_refl _)) f5) (by rw [e0]; exact k6)) hl2 g7 (fun t ht => ?_) (by omega) (by omega) (by omega) k7 k8 k9 k10 k11 (z_gl_tr gl k12)
      rw [z_el_s, show i + 1 + t = i + (t + 1) by omega]
      exact f8 (t + 1) (by omega)
    · have hle := z_sq_le f5
      exact ⟨_, rfl, fun q => absurd q (by omega), fun _ => hbad er σ' τ' (z_Fc_tr hle (Nat.le_refl _) f1 k1) (z_Fm_tr (Nat.le_refl _) (Nat.le_refl _) f2 k2) (by omega) k4 k5 k6 (z_gl_tr gl k7)⟩
