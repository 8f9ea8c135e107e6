/-! pairs that cannot be reached any more -/
def z_HP (σ τ : mj_S) (sz fo : Nat) (be ga : Nat → Nat) (U : Nat → Bool) : Prop :=
  σ 2 0 = sz ∧ τ 0 0 = sz ∧ 4 ≤ sz ∧ sz ≤ 200 ∧ σ 2 9 = fo ∧ z_bij sz be ga ∧ (∀ t : Nat, t < fo → 0 ≤ σ 13 t ∧ σ 13 t < sz) ∧ (∀ t t' : Nat, t < t' → t' < fo → ¬ σ 13 t = σ 13 t') ∧ (∀ i : Nat, i < sz → (U i = true ↔ ∀ t : Nat, t < fo → ¬ σ 13 t = i)) ∧ (∀ i, i < sz → τ 6 (be i) = if U i then 1 else 0) ∧ τ 0 12 = z_cnt U sz ∧ z_cnt U sz + fo = sz ∧ σ 2 10 = τ 0 13
/-- a place of the stack: empty, or a value -/
def z_pv (A B : Nat → Int) (st : Nat) (be : Nat → Nat) (G : Nat → Bool) (x y : Int) : Prop := (x = 268435456 ∧ y = -1) ∨ z_vl A B st be G x y
/-- marks: M in both, c cells wait -/
def z_mk (be : Nat → Nat) (sz : Nat) (M : Nat → Bool) (c : Nat) (σ τ : mj_S) : Prop := (∀ i, i < 200 → σ 14 i = if M i then 1 else 0) ∧ (∀ i, i < sz → τ 7 (be i) = if M i then 1 else 0) ∧ ∀ t, t < c → ∃ j : Nat, j < sz ∧ M j = true ∧ σ 15 t = j ∧ τ 8 t = 400 + (be j : Int)
/-- j and what it holds are marked -/
def z_cl (Ac Bc : Nat → Int) (M : Nat → Bool) (j : Nat) : Prop := ∀ i : Nat, i < 200 → (Ac (400 + j) = 536871312 + (i : Int) ∨ Bc (400 + j) = 536871312 + (i : Int)) → M i = true
set_option maxHeartbeats 1000000 in
theorem t_reach {A B : Nat → Int} {st : Nat} {be ga : Nat → Nat} {G M : Nat → Bool} {sz c pr : Nat} (hsz : sz ≤ 200) (hbj : z_bij sz be ga) (hG : ∀ j, G j = true → j < sz) (hM : ∀ j, M j = true → G j = true) {σ τ : mj_S} (hmk : z_mk be sz M c σ τ) (hcnt : pr + c = z_cnt M 200) {x y : Int} (hv : z_pv A B st be G x y) {d : Nat} {Q : mj_Q}
    (h : ∀ (M' : Nat → Bool) (c' : Nat) (σ' τ' : mj_S), (∀ q k, ¬ (q = 14 ∨ (q = 15 ∧ c ≤ k)) → σ' q k = σ q k) → (∀ q k, ¬ (q = 7 ∨ (q = 8 ∧ c ≤ k)) → τ' q k = τ q k) → z_mk be sz M' c' σ' τ' → (∀ j, M j = true → M' j = true) → (∀ j, M' j = true → G j = true) → (∀ j, M' j = true → M j = true ∨ ∃ t, t < c' ∧ σ' 15 t = (j : Int)) → c ≤ c' → pr + c' = z_cnt M' 200 → (∀ i : Nat, i < 200 → x = 536871312 + (i : Int) → M' i = true) → (∀ (d' : Nat) (Q' : mj_Q), Q' (some (.inl (c' : Int))) τ' → mj_B mjm_L mjm_Ms (d' + 1) 50 [.inr (.inl 0), .inl y, .inl (c : Int)] τ Q') → Q (some (.inl (c' : Int))) σ') : mj_B mjc_L mjc_Ms (d + 1) 30 [.inr (.inl 2), .inl x, .inl (c : Int)] σ Q := by
  obtain ⟨m1, m2, m3⟩ := hmk
  have hle := z_cnt_le M 200
  -- nothing to mark
  have none' : (x < 536871312 ∧ y < 536871312 ∧ -1 ≤ y ∧ 0 ≤ x) → mj_B mjc_L mjc_Ms (d + 1) 30 [.inr (.inl 2), .inl x, .inl (c : Int)] σ Q := fun ⟨h1, h2, h3, h4⟩ => by
    have fin : Q (some (.inl (c : Int))) σ := h M c σ τ (fun _ _ _ => rfl) (fun _ _ _ => rfl) ⟨m1, m2, m3⟩ (fun _ z => z) hM (fun _ z => Or.inl z) (Nat.le_refl _) hcnt (fun i hi e => by omega) (fun d' Q' hq => wq_m50 ⟨fun _ => hq, fun z => absurd z (by omega)⟩)
    exact wq_c30 ⟨by unfold mj_r; omega, by unfold mj_r; omega, fun _ => fin, fun z => absurd z (by omega)⟩
  rcases hv with ⟨e1, e2⟩ | ⟨e, s, hd⟩ | ⟨j, j1, j2, j3, j4⟩
  · exact none' (by omega)
  · have := z_D_r (z_bw_le A) hd
    exact none' (by omega)
  · have hj := hG j j2
    obtain ⟨b1, b2⟩ := hbj.1 j hj
    have ex : x - 536870912 - 400 = (j : Int) := by omega
    have ey : y - 536870912 - 400 = (be j : Int) := by omega
    refine wq_c30 ?_
    rw [ex, Int.toNat_natCast, m1 j j1]
    refine ⟨by unfold mj_r; omega, by unfold mj_r; omega, fun z => absurd z (by omega), fun _ => ⟨fun z => absurd z (by omega), fun _ => ⟨by omega, by omega, fun z => ?_, fun z => ?_⟩⟩⟩
    · have hMj : M j = true := by
        by_cases q : M j = true
        · exact q
        · rw [if_neg q] at z; exact absurd rfl z
      refine h M c σ τ (fun _ _ _ => rfl) (fun _ _ _ => rfl) ⟨m1, m2, m3⟩ (fun _ z => z) hM (fun _ z => Or.inl z) (Nat.le_refl _) hcnt (fun i hi e => ?_) (fun d' Q' hq => wq_m50 ⟨fun z => absurd z (by omega), fun _ => ?_⟩)
      · have : i = j := by omega
        rw [this]; exact hMj
      · rw [ey, Int.toNat_natCast, m2 j hj, if_pos hMj]
        exact ⟨by unfold mj_r; omega, by unfold mj_r; omega, by omega, by omega, fun z => absurd z (by decide), fun _ => hq⟩
    · have hMj : M j = false := by
        by_cases q : M j = true
        · rw [if_pos q] at z; exact absurd z (by decide)
        · simpa using q
      have hadd := z_cnt_add (P := M) j1 hMj
      have hle' := z_cnt_le (fun i => if i = j then true else M i) 200
      refine ⟨fun _ => ⟨by omega, by omega, Or.inr rfl, fun σ1 e1 => ⟨by omega, by omega, fun σ2 e2 => ⟨by unfold mj_r; omega, ?_⟩⟩⟩, fun z => absurd z (by omega)⟩
      rw [Int.toNat_natCast] at e2
      have s14 : ∀ i, σ2 14 i = if i = j then 1 else σ 14 i := fun i => by
        rw [e2, mj_up_ne (by omega), e1, z_rd]
        by_cases q : i = j
        · rw [if_pos ⟨rfl, q⟩, if_pos q]
        · rw [if_neg (fun z => q z.2), if_neg q]
      have s15 : ∀ t, σ2 15 t = if t = c then (j : Int) else σ 15 t := fun t => by
        rw [e2, z_rd]
        by_cases q : t = c
        · rw [if_pos ⟨rfl, q⟩, if_pos q]
        · rw [if_neg (fun z => q z.2), if_neg q, e1, mj_up_ne (by omega)]
      have t7 : ∀ i, mj_up (mj_up τ 7 (be j) 1) 8 c (400 + (be j : Int)) 7 i = if i = be j then 1 else τ 7 i := fun i => by
        rw [mj_up_ne (by omega), z_rd]
        by_cases q : i = be j
        · rw [if_pos ⟨rfl, q⟩, if_pos q]
        · rw [if_neg (fun z => q z.2), if_neg q]
      have t8 : ∀ t, mj_up (mj_up τ 7 (be j) 1) 8 c (400 + (be j : Int)) 8 t = if t = c then 400 + (be j : Int) else τ 8 t := fun t => by
        rw [z_rd]
        by_cases q : t = c
        · rw [if_pos ⟨rfl, q⟩, if_pos q]
        · rw [if_neg (fun z => q z.2), if_neg q, mj_up_ne (by omega)]
      rw [show ((c : Int) + 1) = ((c + 1 : Nat) : Int) by omega]
      refine h (fun i => if i = j then true else M i) (c + 1) σ2 (mj_up (mj_up τ 7 (be j) 1) 8 c (400 + (be j : Int))) (fun q k z => ?_) (fun q k z => ?_) ⟨fun i hi => ?_, fun i hi => ?_, fun t ht => ?_⟩ (fun i hi => ?_) (fun i hi => ?_) (fun i hi => ?_) (by omega) (by omega) (fun i hi e => ?_) (fun d' Q' hq => wq_m50 ⟨fun z => absurd z (by omega), fun _ => ?_⟩)
      · rw [e2, mj_up_ne (by omega), e1, mj_up_ne (by omega)]
      · rw [mj_up_ne (by omega), mj_up_ne (by omega)]
      · rw [s14]
        show _ = if (if i = j then true else M i) = true then 1 else 0
        by_cases q : i = j
        · rw [if_pos q, if_pos q]; rfl
        · rw [if_neg q, if_neg q]; exact m1 i hi
      · rw [t7]
        show _ = if (if i = j then true else M i) = true then 1 else 0
        by_cases q : i = j
        · rw [q, if_pos rfl, if_pos rfl]; rfl
        · rw [if_neg (fun z => q (z_bij_inj hbj hi hj z)), if_neg q]; exact m2 i hi
      · by_cases q : t = c
        · refine ⟨j, hj, if_pos rfl, ?_, ?_⟩
          · rw [s15, if_pos q]
          · rw [t8, if_pos q]
        · obtain ⟨i, i1, i2, i3, i4⟩ := m3 t (by omega)
          refine ⟨i, i1, ?_, ?_, ?_⟩
          · show (if i = j then true else M i) = true
            rw [i2]; simp
          · rw [s15, if_neg q]; exact i3
          · rw [t8, if_neg q]; exact i4
      · show (if i = j then true else M i) = true
        rw [hi]; simp
      · have hi' : (if i = j then true else M i) = true := hi
        by_cases q : i = j
        · rw [q]; exact j2
        · rw [if_neg q] at hi'; exact hM i hi'
      · have hi' : (if i = j then true else M i) = true := hi
        by_cases q : i = j
        · exact Or.inr ⟨c, by omega, by rw [s15, if_pos rfl, q]⟩
        · rw [if_neg q] at hi'; exact Or.inl hi'
      · have : i = j := by omega
        show (if i = j then true else M i) = true
        rw [if_pos this]
      · rw [ey, Int.toNat_natCast, m2 j hj, hMj, show y - 536870912 = 400 + (be j : Int) by omega, Int.toNat_natCast]
        refine ⟨by unfold mj_r; omega, by unfold mj_r; omega, by omega, by omega, fun _ => ⟨by unfold mj_r; omega, by unfold mj_r; omega, by omega, by omega, Or.inr rfl, fun σ3 e3 => ⟨by unfold mj_r; omega, by omega, by omega, fun σ4 e4 => ⟨by unfold mj_r; omega, ?_⟩⟩⟩, fun z => absurd rfl z⟩
        rw [show ((c : Int) + 1) = ((c + 1 : Nat) : Int) by omega, e4, e3]
        exact hq
theorem z_mk_le {be : Nat → Nat} {sz c c' : Nat} {M : Nat → Bool} {σ τ : mj_S} (h : z_mk be sz M c σ τ) (hc : c' ≤ c) : z_mk be sz M c' σ τ := ⟨h.1, h.2.1, fun t ht => h.2.2 t (by omega)⟩
set_option maxHeartbeats 2000000 in
/-- all that the stack holds -/
theorem t_mstack {A B : Nat → Int} {st : Nat} {be ga : Nat → Nat} {G : Nat → Bool} {sz h : Nat} (hsz : sz ≤ 200) (hh : h ≤ 100) (hbj : z_bij sz be ga) (hG : ∀ j, G j = true → j < sz) {σ0 τ0 : mj_S} {d : Nat} {Q : mj_Q} (h31 : τ0 0 31 = h) (hst : ∀ i, i < h → z_pv A B st be G (σ0 29 i) (τ0 20 i))
    (next : ∀ (M : Nat → Bool) (c : Nat) (σ τ : mj_S), (∀ q k, ¬ (q = 14 ∨ q = 15) → σ q k = σ0 q k) → (∀ q k, ¬ (q = 7 ∨ q = 8) → τ q k = τ0 q k) → z_mk be sz M c σ τ → (∀ j, M j = true → G j = true) → (∀ j, M j = true → ∃ t, t < c ∧ σ 15 t = (j : Int)) → 0 + c = z_cnt M 200 → (∀ i : Nat, i < h → ∀ j : Nat, j < 200 → σ0 29 i = 536871312 + (j : Int) → M j = true) → (∀ (d' : Nat) (Q' : mj_Q), (∀ y, qh_m49_63 (d' + 1) Q' (c : Int) y τ) → qh_m49_37 (d' + 1) Q' 0 0 τ0) → qh_c29_69 (d + 1) Q (h : Int) (c : Int) 0 σ) :
    ∀ (j i : Nat) (M : Nat → Bool) (c : Nat) (σ τ : mj_S), i + j = h → (∀ q k, ¬ (q = 14 ∨ q = 15) → σ q k = σ0 q k) → (∀ q k, ¬ (q = 7 ∨ q = 8) → τ q k = τ0 q k) → z_mk be sz M c σ τ → (∀ j, M j = true → G j = true) → (∀ j, M j = true → ∃ t, t < c ∧ σ 15 t = (j : Int)) → 0 + c = z_cnt M 200 → (∀ i' : Nat, i' < i → ∀ j : Nat, j < 200 → σ0 29 i' = 536871312 + (j : Int) → M j = true) → (∀ (d' : Nat) (Q' : mj_Q), qh_m49_37 (d' + 1) Q' (c : Int) (i : Int) τ → qh_m49_37 (d' + 1) Q' 0 0 τ0) → qh_c29_37 (d + 1) Q (h : Int) (c : Int) (i : Int) σ := by
  intro j
  induction j with
  | zero =>
    intro i M c σ τ hij f1 f2 f3 f4 f5 f6 f7 gs
    have hih : i = h := by omega
    subst hih
    refine qw_c29_37 ⟨fun _ => next M c σ τ f1 f2 f3 f4 f5 f6 f7 (fun d' Q' hq => gs d' Q' (qw_m49_37 ⟨fun _ => hq _, fun z => ?_⟩)), fun z => absurd z (by omega)⟩
    rw [f2 0 31 (by omega), h31] at z
    omega
  | succ j ih =>
    intro i M c σ τ hij f1 f2 f3 f4 f5 f6 f7 gs
    have hv : z_pv A B st be G (σ 29 i) (τ 20 i) := by rw [f1 29 i (by omega), f2 20 i (by omega)]; exact hst i (by omega)
    refine qw_c29_37 ⟨fun z => absurd z (by omega), fun _ => ⟨fun z => absurd z (by omega), fun _ => ?_⟩⟩
    rw [Int.toNat_natCast]
    refine ⟨by omega, by omega, t_reach hsz hbj hG f4 f3 f6 hv (fun M' c' σ' τ' g1 g2 g3 g4 g5 g6 g7 g8 g9 g10 => ⟨_, rfl, by unfold mj_r; omega, ?_⟩)⟩
    rw [show ((i : Int) + 1) = ((i + 1 : Nat) : Int) by omega]
    refine ih (i + 1) M' c' σ' τ' (by omega) (fun q k z => by rw [g1 q k (by omega)]; exact f1 q k z) (fun q k z => by rw [g2 q k (by omega)]; exact f2 q k z) g3 g5 (fun t ht => ?_) g8 (fun i' hi' t ht e => ?_) (fun d' Q' hq => gs d' Q' (qw_m49_37 ⟨fun z => ?_, fun _ => ?_⟩))
    · rcases g6 t ht with z | z
      · obtain ⟨u, u1, u2⟩ := f5 t z
        exact ⟨u, by omega, by rw [g1 15 u (by omega)]; exact u2⟩
      · exact z
    · by_cases c1 : i' = i
      · exact g9 t ht (by rw [f1 29 i (by omega), ← c1]; exact e)
      · exact g4 t (f7 i' (by omega) t ht e)
    · rw [f2 0 31 (by omega), h31] at z
      omega
    · rw [Int.toNat_natCast]
      refine ⟨by omega, by omega, mj_B_mono _ _ _ _ _ _ (fun r τ2 q => q) (g10 d' _ ⟨_, rfl, by unfold mj_r; omega, ?_⟩)⟩
      rw [show ((i : Int) + 1) = ((i + 1 : Nat) : Int) by omega]
      exact hq
set_option maxHeartbeats 2000000 in
/-- all that is held by what is marked -/
theorem t_mdfs {A B : Nat → Int} {st : Nat} {be ga : Nat → Nat} {G : Nat → Bool} {tm : Nat → Nat} {sz : Nat} (hsz : sz ≤ 200) (hbj : z_bij sz be ga) (hG : ∀ j, G j = true → j < sz) {σ0 τ0 τs : mj_S} {d : Nat} {Q : mj_Q} {h : Int} (hg : z_gc A B (σ0 11) (σ0 12) (τ0 4) (τ0 5) st be G tm) {S : Nat → Prop}
    (next : ∀ (M : Nat → Bool) (σ τ : mj_S), (∀ q k, ¬ (q = 14 ∨ q = 15) → σ q k = σ0 q k) → (∀ q k, ¬ (q = 7 ∨ q = 8) → τ q k = τ0 q k) → z_mk be sz M 0 σ τ → (∀ j, M j = true → G j = true) → (∀ j, M j = true → z_cl (σ0 11) (σ0 12) M j) → (∀ j, S j → M j = true) → (∀ (d' : Nat) (Q' : mj_Q), (∀ y, qh_m49_63 (d' + 1) Q' 0 y τ) → qh_m49_37 (d' + 1) Q' 0 0 τs) → mj_B mjc_L mjc_Ms (d + 1) 31 [.inr (.inl 2)] σ (fun r σ1 => r = none ∧ Q none σ1)) :
    ∀ (N n : Nat) (M : Nat → Bool) (c : Nat) (σ τ : mj_S), n + N = 200 → (∀ q k, ¬ (q = 14 ∨ q = 15) → σ q k = σ0 q k) → (∀ q k, ¬ (q = 7 ∨ q = 8) → τ q k = τ0 q k) → z_mk be sz M c σ τ → (∀ j, M j = true → G j = true) → (∀ j, M j = true → (∃ t, t < c ∧ σ 15 t = (j : Int)) ∨ z_cl (σ0 11) (σ0 12) M j) → n + c = z_cnt M 200 → (∀ j, S j → M j = true) → (∀ (d' : Nat) (Q' : mj_Q), (∀ y, qh_m49_63 (d' + 1) Q' (c : Int) y τ) → qh_m49_37 (d' + 1) Q' 0 0 τs) → qh_c29_69 (d + 1) Q h (c : Int) (n : Int) σ := by
  intro N
  induction N with
  | zero =>
    intro n M c σ τ hn f1 f2 f3 f4 f5 f6 f7 gs
    have hle := z_cnt_le M 200
    have hc0 : c = 0 := by omega
    subst hc0
    have fin := next M σ τ f1 f2 f3 f4 (fun j hj => (f5 j hj).elim (fun ⟨t, ht, _⟩ => absurd ht (Nat.not_lt_zero t)) id) f7 gs
    exact qw_c29_69 ⟨fun _ => fin, fun _ => ⟨fun _ => fin, fun z => absurd z (by omega)⟩⟩
  | succ N ih =>
    intro n M c σ τ hn f1 f2 f3 f4 f5 f6 f7 gs
    by_cases hc0 : c = 0
    · subst hc0
      have fin := next M σ τ f1 f2 f3 f4 (fun j hj => (f5 j hj).elim (fun ⟨t, ht, _⟩ => absurd ht (Nat.not_lt_zero t)) id) f7 gs
      exact qw_c29_69 ⟨fun _ => fin, fun _ => ⟨fun _ => fin, fun z => absurd z (by omega)⟩⟩
    obtain ⟨e, rfl⟩ : ∃ e, c = e + 1 := ⟨c - 1, by omega⟩
    obtain ⟨j0, j1, j2, j3, j4⟩ := f3.2.2 e (by omega)
    have hle := z_cnt_le M 200
    obtain ⟨v1, v2, _⟩ := hg j0 (by omega) (f4 j0 j2)
    refine qw_c29_69 ⟨fun z => absurd z (by omega), fun _ => ⟨fun z => absurd z (by omega), fun _ => ?_⟩⟩
    rw [show ((e + 1 : Nat) : Int) + (-1) = (e : Int) by omega, Int.toNat_natCast, j3, show (400 + (j0 : Int)).toNat = 400 + j0 by omega]
    have w1 : z_pv A B st be G (σ 11 (400 + j0)) (τ 4 (400 + be j0)) := by rw [f1 11 _ (by omega), f2 4 _ (by omega)]; exact Or.inr v1
    refine ⟨by unfold mj_r; omega, by omega, by omega, by unfold mj_r; omega, by omega, by omega, t_reach (pr := n + 1) hsz hbj hG f4 (z_mk_le f3 (by omega)) (by omega) w1 (fun M1 c1 σ1 τ1 g1 g2 g3 g4 g5 g6 g7 g8 g9 g10 => ⟨_, rfl, by omega, by omega, ?_⟩)⟩
    have w2 : z_pv A B st be G (σ1 12 (400 + j0)) (τ1 5 (400 + be j0)) := by rw [g1 12 _ (by omega), g2 5 _ (by omega), f1 12 _ (by omega), f2 5 _ (by omega)]; exact Or.inr v2
    refine t_reach (pr := n + 1) hsz hbj hG g5 g3 g8 w2 (fun M2 c2 σ2 τ2 k1 k2 k3 k4 k5 k6 k7 k8 k9 k10 => ⟨_, rfl, by unfold mj_r; omega, ?_⟩)
    rw [show ((n : Int) + 1) = ((n + 1 : Nat) : Int) by omega]
    refine ih (n + 1) M2 c2 σ2 τ2 (by omega) (fun q k z => by rw [k1 q k (by omega), g1 q k (by omega)]; exact f1 q k z) (fun q k z => by rw [k2 q k (by omega), g2 q k (by omega)]; exact f2 q k z) k3 k5 (fun t ht => ?_) (by omega) (fun t ht => k4 t (g4 t (f7 t ht))) (fun d' Q' hq => gs d' Q' (fun y => qw_m49_63 ⟨fun z => absurd z (by omega), fun _ => ?_⟩))
    · rcases k6 t ht with z | z
      · rcases g6 t z with z2 | ⟨u, u1, u2⟩
        · rcases f5 t z2 with ⟨u, u1, u2⟩ | z3
          · by_cases c9 : u = e
            · have : t = j0 := by rw [c9, j3] at u2; omega
              refine Or.inr (fun i hi hz => ?_)
              rw [this] at hz
              rcases hz with hz | hz
              · exact k4 i (g9 i hi (by rw [f1 11 _ (by omega)]; exact hz))
              · exact k9 i hi (by rw [g1 12 _ (by omega), f1 12 _ (by omega)]; exact hz)
            · exact Or.inl ⟨u, by omega, by rw [k1 15 u (by omega), g1 15 u (by omega)]; exact u2⟩
          · exact Or.inr (fun i hi hz => k4 i (g4 i (z3 i hi hz)))
        · exact Or.inl ⟨u, by omega, by rw [k1 15 u (by omega)]; exact u2⟩
      · exact Or.inl z
    · obtain ⟨b1, _⟩ := hbj.1 j0 j1
      rw [show ((e + 1 : Nat) : Int) + (-1) = (e : Int) by omega, Int.toNat_natCast, j4, show (400 + (be j0 : Int)).toNat = 400 + be j0 by omega]
      exact ⟨by unfold mj_r; omega, by omega, by omega, by omega, by omega, g10 d' _ ⟨_, rfl, by omega, by omega, k10 d' _ ⟨_, rfl, hq _⟩⟩⟩
/-- free again: what is not marked -/
theorem t_gather {M : Nat → Bool} {sz : Nat} (hsz : sz ≤ 200) {σ0 : mj_S} {d : Nat} {Q : mj_Q} (h20 : σ0 2 0 = sz) (hm : ∀ i, i < 200 → σ0 14 i = if M i then 1 else 0)
    (h : ∀ (σ : mj_S) (fo : Nat), (∀ q k, ¬ (q = 13 ∨ (q = 2 ∧ k = 9)) → σ q k = σ0 q k) → σ 2 9 = fo → (∀ t : Nat, t < fo → 0 ≤ σ 13 t ∧ σ 13 t < sz) → (∀ t t' : Nat, t < t' → t' < fo → ¬ σ 13 t = σ 13 t') → (∀ i : Nat, i < sz → (M i = true ↔ ∀ t : Nat, t < fo → ¬ σ 13 t = i)) → z_cnt M sz + fo = sz → Q none σ) : mj_B mjc_L mjc_Ms (d + 1) 31 [.inr (.inl 2)] σ0 Q := by
  have go : ∀ (j i : Nat) (σ : mj_S) (fo : Nat), i + j = sz → (∀ q k, ¬ (q = 13 ∨ (q = 2 ∧ k = 9)) → σ q k = σ0 q k) → σ 2 9 = fo → (∀ t : Nat, t < fo → 0 ≤ σ 13 t ∧ σ 13 t < i) → (∀ t t' : Nat, t < t' → t' < fo → ¬ σ 13 t = σ 13 t') → (∀ k : Nat, k < i → (M k = true ↔ ∀ t : Nat, t < fo → ¬ σ 13 t = k)) → z_cnt M i + fo = i → qh_c31_7 d Q (i : Int) σ := by
    intro j
    induction j with
    | zero =>
      intro i σ fo hij f1 f2 f3 f4 f5 f6
      have : i = sz := by omega
      subst this
      exact qw_c31_7 ⟨fun _ => h σ fo f1 f2 f3 f4 f5 f6, fun z => by rw [f1 2 0 (by omega), h20] at z; omega⟩
    | succ j ih =>
      intro i σ fo hij f1 f2 f3 f4 f5 f6
      have s0 : σ 2 0 = sz := by rw [f1 2 0 (by omega)]; exact h20
      have s14 : σ 14 i = if M i then 1 else 0 := by rw [f1 14 i (by omega)]; exact hm i (by omega)
      refine qw_c31_7 ⟨fun z => by rw [s0] at z; omega, fun _ => ⟨fun z => absurd z (by omega), fun _ => ?_⟩⟩
      rw [Int.toNat_natCast, s14]
      refine ⟨by omega, by omega, fun z => ⟨by unfold mj_r; omega, ?_⟩, fun z => ?_⟩
      · have hMi : M i = true := by
          by_cases q : M i = true
          · exact q
          · rw [if_neg q] at z; exact absurd rfl z
        rw [show ((i : Int) + 1) = ((i + 1 : Nat) : Int) by omega]
        refine ih (i + 1) σ fo (by omega) f1 f2 (fun t ht => by have := f3 t ht; omega) f4 (fun k hk => ?_) ?_
        · by_cases q : k = i
          · rw [q]
            exact ⟨fun _ t ht => by have := f3 t ht; omega, fun _ => hMi⟩
          · exact f5 k (by omega)
        · show z_cnt M i + (if M i = true then 1 else 0) + fo = i + 1
          rw [if_pos hMi]; omega
      · have hMi : ¬ M i = true := by
          intro q
          rw [if_pos q] at z; exact absurd z (by decide)
        rw [f2]
        refine ⟨by omega, by omega, fun σ1 e1 => ?_⟩
        have a9 : σ1 2 9 = fo := by rw [e1, mj_up_ne (by omega)]; exact f2
        rw [a9]
        refine ⟨by unfold mj_r; omega, fun σ2 e2 => ⟨by unfold mj_r; omega, ?_⟩⟩
        rw [Int.toNat_natCast] at e1
        have s13 : ∀ t, σ2 13 t = if t = fo then (i : Int) else σ 13 t := fun t => by
          rw [e2, mj_up_ne (by omega), e1, z_rd]
          by_cases q : t = fo
          · rw [if_pos ⟨rfl, q⟩, if_pos q]
          · rw [if_neg (fun z => q z.2), if_neg q]
        rw [show ((i : Int) + 1) = ((i + 1 : Nat) : Int) by omega]
        refine ih (i + 1) σ2 (fo + 1) (by omega) (fun q k z => by rw [e2, mj_up_ne (by omega), e1, mj_up_ne (by omega)]; exact f1 q k z) (by rw [e2, mj_up_eq]; omega) (fun t ht => ?_) (fun t t' h1 h2 => ?_) (fun k hk => ?_) ?_
        · rw [s13]
          by_cases q : t = fo
          · rw [if_pos q]; omega
          · rw [if_neg q]; have := f3 t (by omega); omega
        · rw [s13, s13, if_neg (by omega)]
          by_cases q : t' = fo
          · rw [if_pos q]; have := f3 t (by omega); omega
          · rw [if_neg q]; exact f4 t t' h1 (by omega)
        · by_cases q : k = i
          · rw [q]
            refine ⟨fun z => absurd z hMi, fun z => ?_⟩
            have := z fo (by omega)
            rw [s13, if_pos rfl] at this
            exact absurd rfl this
          · rw [f5 k (by omega)]
            constructor
            · intro z t ht
              rw [s13]
              by_cases q2 : t = fo
              · rw [if_pos q2]; omega
              · rw [if_neg q2]; exact z t (by omega)
            · intro z t ht
              have := z t (by omega)
              rw [s13, if_neg (by omega)] at this
              exact this
        · show z_cnt M i + (if M i = true then 1 else 0) + (fo + 1) = i + 1
          rw [if_neg hMi]; omega
  refine wq_c31 (fun σ1 e1 => ?_)
  exact go sz 0 σ1 0 (by omega) (fun q k z => by rw [e1, mj_up_ne (by omega)]) (by rw [e1, mj_up_eq]; rfl) (fun t ht => absurd ht (Nat.not_lt_zero t)) (fun t t' _ h2 => absurd h2 (Nat.not_lt_zero t')) (fun k hk => absurd hk (Nat.not_lt_zero k)) rfl
/-- the reference: used and seen -/
theorem t_sweep {be ga : Nat → Nat} {M U : Nat → Bool} {sz : Nat} (hsz : sz ≤ 200) (hbj : z_bij sz be ga) (hMU : ∀ j, M j = true → U j = true) {τ0 : mj_S} {y1 : Int} (h00 : τ0 0 0 = sz) (h6 : ∀ i, i < sz → τ0 6 (be i) = if U i then 1 else 0) (h7 : ∀ i, i < sz → τ0 7 (be i) = if M i then 1 else 0) :
    ∃ τ', (∀ q k, ¬ (q = 6 ∨ (q = 0 ∧ k = 12)) → τ' q k = τ0 q k) ∧ (∀ i, i < sz → τ' 6 (be i) = if M i then 1 else 0) ∧ τ' 0 12 = ((z_cnt M sz : Nat) : Int) ∧ ∀ (d : Nat) (Q : mj_Q), Q none τ' → qh_m49_111 (d + 1) Q y1 0 (mj_up τ0 0 12 0) := by
  have go : ∀ (j i : Nat) (τ : mj_S), i + j = sz → (∀ q k, ¬ (q = 6 ∨ (q = 0 ∧ k = 12)) → τ q k = τ0 q k) → (∀ k, k < sz → τ 6 k = if k < i then (if M (ga k) then 1 else 0) else τ0 6 k) → τ 0 12 = z_cnt (fun k => M (ga k)) i → ∃ τ', (∀ q k, ¬ (q = 6 ∨ (q = 0 ∧ k = 12)) → τ' q k = τ0 q k) ∧ (∀ k, k < sz → τ' 6 k = if M (ga k) then 1 else 0) ∧ τ' 0 12 = ((z_cnt (fun k => M (ga k)) sz : Nat) : Int) ∧ ∀ (d : Nat) (Q : mj_Q), Q none τ' → qh_m49_111 (d + 1) Q y1 (i : Int) τ := by
    intro j
    induction j with
    | zero =>
      intro i τ hij f1 f2 f3
      have : i = sz := by omega
      subst this
      refine ⟨τ, f1, fun k hk => by rw [f2 k hk, if_pos hk], f3, fun d Q hq => qw_m49_111 ⟨fun _ => hq, fun z => by rw [f1 0 0 (by omega), h00] at z; omega⟩⟩
    | succ j ih =>
      intro i τ hij f1 f2 f3
      have s0 : τ 0 0 = sz := by rw [f1 0 0 (by omega)]; exact h00
      obtain ⟨b1, b2⟩ := hbj.2.1 i (by omega)
      have s6 : τ 6 i = if U (ga i) then 1 else 0 := by
        rw [f2 i (by omega), if_neg (by omega)]
        have := h6 (ga i) b1
        rw [b2] at this; exact this
      have s7 : τ 7 i = if M (ga i) then 1 else 0 := by
        rw [f1 7 i (by omega)]
        have := h7 (ga i) b1
        rw [b2] at this; exact this
      have hle := z_cnt_le (fun k => M (ga k)) i
      generalize hv : (if M (ga i) = true then (1 : Int) else 0) = v at s7
      have v01 : v = 0 ∨ v = 1 := by rw [← hv]; split <;> simp
      obtain ⟨τ', g1, g2, g3, g4⟩ := ih (i + 1) (mj_up (mj_up τ 6 i v) 0 12 (τ 0 12 + v)) (by omega) (fun q k z => by rw [mj_up_ne (by omega), mj_up_ne (by omega)]; exact f1 q k z) (fun k hk => by
        rw [mj_up_ne (by omega), z_rd]
        by_cases q : k = i
        · rw [if_pos ⟨rfl, q⟩, if_pos (show k < i + 1 by omega), q, hv]
        · rw [if_neg (fun z => q z.2), f2 k hk]
          by_cases q2 : k < i
          · rw [if_pos q2, if_pos (show k < i + 1 by omega)]
          · rw [if_neg q2, if_neg (show ¬ k < i + 1 by omega)]) (by
        rw [mj_up_eq, f3]
        show _ = ((z_cnt (fun k => M (ga k)) i + (if M (ga i) = true then 1 else 0) : Nat) : Int)
        rw [← hv]
        split <;> omega)
      refine ⟨τ', g1, g2, g3, fun d Q hq => ?_⟩
      have nx := g4 d Q hq
      rw [show ((i + 1 : Nat) : Int) = (i : Int) + 1 by omega] at nx
      -- the three ways to the same
      have fin : ∀ w : Int, w = v → ∀ σ1, σ1 = mj_up τ 6 i w → 0 ≤ (i : Int) ∧ (i : Int) < 200 ∧ (σ1 6 i = 0 → mj_r (σ1 0 12 + 0) ∧ ∀ σ2, σ2 = mj_up σ1 0 12 (σ1 0 12 + 0) → mj_r ((i : Int) + 1) ∧ qh_m49_111 (d + 1) Q y1 ((i : Int) + 1) σ2) ∧ (¬ σ1 6 i = 0 → mj_r (σ1 0 12 + 1) ∧ ∀ σ3, σ3 = mj_up σ1 0 12 (σ1 0 12 + 1) → mj_r ((i : Int) + 1) ∧ qh_m49_111 (d + 1) Q y1 ((i : Int) + 1) σ3) := fun w hw σ1 e1 => by
        have a6 : σ1 6 i = v := by rw [e1, mj_up_eq, hw]
        have a12 : σ1 0 12 = τ 0 12 := by rw [e1, mj_up_ne (by omega)]
        rw [a6, a12, f3]
        refine ⟨by omega, by omega, fun z => ⟨by unfold mj_r; omega, fun σ2 e2 => ⟨by unfold mj_r; omega, ?_⟩⟩, fun z => ⟨by unfold mj_r; omega, fun σ3 e3 => ⟨by unfold mj_r; omega, ?_⟩⟩⟩
        · rw [e2, e1, hw, ← f3, ← z, z]; rw [z] at nx; exact nx
        · have : v = 1 := by omega
          rw [e3, e1, hw, ← f3, this]; rw [this] at nx; exact nx
      refine qw_m49_111 ⟨fun z => by rw [s0] at z; omega, fun _ => ?_⟩
      rw [Int.toNat_natCast, s6, s7]
      refine ⟨by omega, by omega, fun z => ⟨by omega, by omega, Or.inl rfl, fin 0 ?_⟩, fun z => ⟨by omega, by omega, fun z2 => ⟨by omega, by omega, Or.inl rfl, fin 0 z2.symm⟩, fun z2 => ⟨by omega, by omega, Or.inr rfl, fin 1 (by omega)⟩⟩⟩
      rcases v01 with z2 | z2
      · exact z2.symm
      · exfalso
        have hM : M (ga i) = true := by
          by_cases q : M (ga i) = true
          · exact q
          · rw [if_neg q] at hv; omega
        rw [if_pos (hMU _ hM)] at z
        exact absurd z (by decide)
  obtain ⟨τ', g1, g2, g3, g4⟩ := go sz 0 (mj_up τ0 0 12 0) (by omega) (fun q k z => mj_up_ne (by omega)) (fun k hk => by rw [mj_up_ne (by omega), if_neg (by omega)]) (by rw [mj_up_eq]; rfl)
  refine ⟨τ', g1, fun i hi => ?_, ?_, g4⟩
  · obtain ⟨c1, c2⟩ := hbj.1 i hi
    rw [g2 (be i) c1, c2]
  · rw [g3, ← hbj.2.2 (fun k => M (ga k))]
    congr 1
    refine z_cnt_eq (fun i hi => ?_)
    rw [(hbj.1 i hi).2]
set_option maxHeartbeats 2000000 in
theorem t_collect {A B : Nat → Int} {st : Nat} {be ga : Nat → Nat} {G U : Nat → Bool} {tm : Nat → Nat} {sz fo h : Nat} {σ τ : mj_S} (HP : z_HP σ τ sz fo be ga U) (hGU : ∀ j, G j = true → U j = true ∧ j < sz) (hg : z_gc A B (σ 11) (σ 12) (τ 4) (τ 5) st be G tm) (hh : h ≤ 100) (h31 : τ 0 31 = h) (hst : ∀ i, i < h → z_pv A B st be G (σ 29 i) (τ 20 i)) (hcol : mj_r (σ 2 10 + 1)) {d : Nat} {Q : mj_Q}
    (hq : ∀ (σ' τ' : mj_S) (M : Nat → Bool) (fo' : Nat), (∀ q k, ¬ (q = 13 ∨ q = 14 ∨ q = 15 ∨ (q = 2 ∧ (k = 9 ∨ k = 10))) → σ' q k = σ q k) → (∀ q k, ¬ (q = 6 ∨ q = 7 ∨ q = 8 ∨ (q = 0 ∧ (k = 12 ∨ k = 13))) → τ' q k = τ q k) → σ' 2 10 = σ 2 10 + 1 → z_HP σ' τ' sz fo' be ga M → (∀ j, M j = true → G j = true) → (∀ j, M j = true → z_cl (σ 11) (σ 12) M j) → (∀ i : Nat, i < h → ∀ j : Nat, j < 200 → σ 29 i = 536871312 + (j : Int) → M j = true) → (∀ (d' : Nat) (Q' : mj_Q), Q' none τ' → mj_B mjm_L mjm_Ms (d' + 2) 49 [.inr (.inl 0)] τ Q') → Q none σ') : mj_B mjc_L mjc_Ms (d + 2) 29 [.inr (.inl 2), .inr (.inl 29), .inl (h : Int)] σ Q := by
  obtain ⟨p1, p2, p3, p4, p5, p6, p7, p8, p9, p10, p11, p12, p13⟩ := HP
  have hG : ∀ j, G j = true → j < sz := fun j hj => (hGU j hj).2
  refine wq_c29 (d := d + 1) ⟨hcol, fun σ1 e1 => ?_⟩
  -- the reference with its marks off
  have refc : ∃ τ2, (∀ q k, ¬ (q = 7 ∨ (q = 0 ∧ k = 13)) → τ2 q k = τ q k) ∧ τ2 0 13 = τ 0 13 + 1 ∧ (∀ k, k < sz → τ2 7 k = 0) ∧ ∀ (d' : Nat) (Q' : mj_Q), qh_m49_37 (d' + 1) Q' 0 0 τ2 → mj_B mjm_L mjm_Ms (d' + 2) 49 [.inr (.inl 0)] τ Q' := by
    have go : ∀ (j i : Nat) (τ1 : mj_S), i + j = sz → (∀ q k, ¬ (q = 7 ∨ (q = 0 ∧ k = 13)) → τ1 q k = τ q k) → τ1 0 13 = τ 0 13 + 1 → (∀ k, k < i → τ1 7 k = 0) → ∃ τ2, (∀ q k, ¬ (q = 7 ∨ (q = 0 ∧ k = 13)) → τ2 q k = τ q k) ∧ τ2 0 13 = τ 0 13 + 1 ∧ (∀ k, k < sz → τ2 7 k = 0) ∧ ∀ (d' : Nat) (Q' : mj_Q), qh_m49_37 (d' + 1) Q' 0 0 τ2 → qh_m49_12 (d' + 1) Q' (i : Int) τ1 := by
      intro j
      induction j with
      | zero =>
        intro i τ1 hij f1 f2 f3
        have : i = sz := by omega
        subst this
        exact ⟨τ1, f1, f2, f3, fun d' Q' hq' => qw_m49_12 ⟨fun _ => hq', fun z => by rw [f1 0 0 (by omega), p2] at z; omega⟩⟩
      | succ j ih =>
        intro i τ1 hij f1 f2 f3
        obtain ⟨τ2, g1, g2, g3, g4⟩ := ih (i + 1) (mj_up τ1 7 i 0) (by omega) (fun q k z => by rw [mj_up_ne (by omega)]; exact f1 q k z) (by rw [mj_up_ne (by omega)]; exact f2) (fun k hk => by
          rw [z_rd]
          by_cases q : k = i
          · rw [if_pos ⟨rfl, q⟩]
          · rw [if_neg (fun z => q z.2)]; exact f3 k (by omega))
        refine ⟨τ2, g1, g2, g3, fun d' Q' hq' => qw_m49_12 ⟨fun z => by rw [f1 0 0 (by omega), p2] at z; omega, fun _ => ?_⟩⟩
        rw [Int.toNat_natCast]
        refine ⟨by omega, by omega, Or.inl rfl, fun σ3 e3 => ⟨by unfold mj_r; omega, ?_⟩⟩
        rw [e3, show ((i : Int) + 1) = ((i + 1 : Nat) : Int) by omega]
        exact g4 d' Q' hq'
    obtain ⟨τ2, g1, g2, g3, g4⟩ := go sz 0 (mj_up τ 0 13 (τ 0 13 + 1)) (by omega) (fun q k z => mj_up_ne (by omega)) mj_up_eq (fun k hk => absurd hk (Nat.not_lt_zero k))
    refine ⟨τ2, g1, g2, g3, fun d' Q' hq' => wq_m49 (d := d' + 1) ⟨by rw [← p13]; exact hcol, fun σ3 e3 => ?_⟩⟩
    rw [e3]
    exact g4 d' Q' hq'
  obtain ⟨τ2, r1, r2, r3, r4⟩ := refc
  -- the program's marks off
  have clr : ∀ (j i : Nat) (σ2 : mj_S), i + j = 200 → (∀ q k, ¬ (q = 14 ∨ (q = 2 ∧ k = 10)) → σ2 q k = σ q k) → σ2 2 10 = σ 2 10 + 1 → (∀ k, k < i → σ2 14 k = 0) → qh_c29_12 (d + 1) Q (h : Int) (i : Int) σ2 := by
    intro j
    induction j with
    | zero =>
      intro i σ2 hij f1 f2 f3
      refine qw_c29_12 ⟨fun _ => ?_, fun z => absurd z (by omega)⟩
      have mk0 : z_mk be sz (fun _ => false) 0 σ2 τ2 := ⟨fun i hi => by rw [f3 i (by omega)]; rfl, fun i hi => by rw [r3 (be i) (p6.1 i hi).1]; rfl, fun t ht => absurd ht (Nat.not_lt_zero t)⟩
      have stk : ∀ i, i < h → z_pv A B st be G (σ2 29 i) (τ2 20 i) := fun i hi => by rw [f1 29 i (by omega), r1 20 i (by omega)]; exact hst i hi
      have gc : z_gc A B (σ2 11) (σ2 12) (τ2 4) (τ2 5) st be G tm := fun j j1 j2 => by rw [f1 11 _ (by omega), f1 12 _ (by omega), r1 4 _ (by omega), r1 5 _ (by omega)]; exact hg j j1 j2
      have e11 : σ2 11 = σ 11 := by funext k; exact f1 11 k (by omega)
      have e12 : σ2 12 = σ 12 := by funext k; exact f1 12 k (by omega)
      refine t_mstack p4 hh p6 hG (σ0 := σ2) (τ0 := τ2) (by rw [r1 0 31 (by omega)]; exact h31) stk (fun M c σ3 τ3 a1 a2 a3 a4 a5 a6 a7 a8 => ?_) h 0 (fun _ => false) 0 σ2 τ2 (by omega) (fun _ _ _ => rfl) (fun _ _ _ => rfl) mk0 (fun j hj => by cases hj) (fun j hj => by cases hj) (by rw [z_cnt_0 (fun _ _ => rfl)]) (fun i' hi' => absurd hi' (Nat.not_lt_zero i')) (fun d' Q' hq' => hq')
      refine t_mdfs p4 p6 hG (σ0 := σ2) (τ0 := τ2) (τs := τ2) (S := fun j => ∃ i, i < h ∧ j < 200 ∧ σ2 29 i = 536871312 + (j : Int)) gc (fun M' σ4 τ4 b1 b2 b3 b4 b5 b6 b7 => ?_) 200 0 M c σ3 τ3 (by omega) a1 a2 a3 a4 (fun j hj => Or.inl (a5 j hj)) a6 (fun j ⟨i, i1, i2, i3⟩ => a7 i i1 j i2 i3) a8
      have MU : ∀ j, M' j = true → U j = true := fun j hj => (hGU j (b4 j hj)).1
      obtain ⟨τ5, c1, c2, c3, c4⟩ := t_sweep (y1 := 0) p4 p6 MU (τ0 := τ4) (by rw [b2 0 0 (by omega), r1 0 0 (by omega)]; exact p2) (fun i hi => by rw [b2 6 _ (by omega), r1 6 _ (by omega)]; exact p10 i hi) b3.2.1
      refine t_gather (M := M') p4 (σ0 := σ4) (by rw [b1 2 0 (by omega), f1 2 0 (by omega)]; exact p1) b3.1 (fun σ5 fo' d1 d2 d3 d4 d5 d6 => ⟨rfl, ?_⟩)
      refine hq σ5 τ5 M' fo' (fun q k z => by rw [d1 q k (by omega), b1 q k (by omega)]; exact f1 q k (by omega)) (fun q k z => by rw [c1 q k (by omega), b2 q k (by omega)]; exact r1 q k (by omega)) (by rw [d1 2 10 (by omega), b1 2 10 (by omega)]; exact f2) ⟨by rw [d1 2 0 (by omega), b1 2 0 (by omega), f1 2 0 (by omega)]; exact p1, by rw [c1 0 0 (by omega), b2 0 0 (by omega), r1 0 0 (by omega)]; exact p2, p3, p4, d2, p6, d3, d4, d5, c2, c3, d6, by rw [d1 2 10 (by omega), b1 2 10 (by omega), f2, c1 0 13 (by omega), b2 0 13 (by omega), r2, p13]⟩ b4 (by rw [← e11, ← e12]; exact b5) (fun i hi j hj e => b6 j ⟨i, hi, hj, by rw [f1 29 i (by omega)]; exact e⟩) (fun d' Q' hq' => r4 d' Q' (b7 d' Q' (fun y => qw_m49_63 ⟨fun _ σ6 e6 => ?_, fun z => absurd z (by decide)⟩)))
      rw [e6]
      exact c4 d' Q' hq'
    | succ j ih =>
      intro i σ2 hij f1 f2 f3
      refine qw_c29_12 ⟨fun z => absurd z (by omega), fun _ => ?_⟩
      rw [Int.toNat_natCast]
      refine ⟨by omega, by omega, Or.inl rfl, fun σ3 e3 => ⟨by unfold mj_r; omega, ?_⟩⟩
      rw [show ((i : Int) + 1) = ((i + 1 : Nat) : Int) by omega]
      refine ih (i + 1) σ3 (by omega) (fun q k z => by rw [e3, mj_up_ne (by omega)]; exact f1 q k z) (by rw [e3, mj_up_ne (by omega)]; exact f2) (fun k hk => ?_)
      rw [e3, z_rd]
      by_cases q : k = i
      · rw [if_pos ⟨rfl, q⟩]
      · rw [if_neg (fun z => q z.2)]; exact f3 k (by omega)
  exact clr 200 0 σ1 (by omega) (fun q k z => by rw [e1, mj_up_ne (by omega)]) (by rw [e1, mj_up_eq]) (fun k hk => absurd hk (Nat.not_lt_zero k))
