/-! rows of characters, numbers -/
def z_re (t : Nat → Int) (n : Nat) : Nat → Nat
  | 0 => n
  | m + 1 => if z_er (t (n - (m + 1))) then n - (m + 1) else z_re t n m
theorem z_re_le (t : Nat → Int) (n : Nat) : ∀ m, m ≤ n → n - m ≤ z_re t n m ∧ z_re t n m ≤ n
  | 0, _ => ⟨Nat.le_refl _, Nat.le_refl _⟩
  | m + 1, h => by
    have h1 := z_re_le t n m (by omega)
    unfold z_re
    split <;> omega
theorem z_re_in (t : Nat → Int) (n : Nat) : ∀ m, m ≤ n → ∀ i, n - m ≤ i → i < z_re t n m → ¬ z_er (t i)
  | 0, _, i, h1, h2 => absurd h2 (by show ¬ i < n; omega)
  | m + 1, h, i, h1, h2 => by
    unfold z_re at h2
    by_cases c : z_er (t (n - (m + 1)))
    · rw [if_pos c] at h2; omega
    · rw [if_neg c] at h2
      by_cases e : i = n - (m + 1)
      · rw [e]; exact c
      · exact z_re_in t n m (by omega) i (by omega) h2
theorem z_re_at (t : Nat → Int) (n : Nat) : ∀ m, m ≤ n → z_re t n m < n → z_er (t (z_re t n m))
  | 0, _, h => absurd h (Nat.lt_irrefl n)
  | m + 1, hm, h => by
    unfold z_re at h ⊢
    by_cases c : z_er (t (n - (m + 1)))
    · rw [if_pos c]; exact c
    · rw [if_neg c] at h ⊢; exact z_re_at t n m (by omega) h
/-- where a row ends is told by what it is -/
theorem z_re_un (t : Nat → Int) (n : Nat) {a e : Nat} (h1 : a ≤ e) (h2 : e ≤ n) (h3 : ∀ i, a ≤ i → i < e → ¬ z_er (t i)) (h4 : e < n → z_er (t e)) : z_re t n (n - a) = e := by
  have g1 := z_re_le t n (n - a) (by omega)
  have g2 := z_re_in t n (n - a) (by omega)
  have g3 := z_re_at t n (n - a) (by omega)
  rcases Nat.lt_trichotomy (z_re t n (n - a)) e with h | h | h
  · exact absurd (g3 (by omega)) (h3 _ (by omega) h)
  · exact h
  · exact absurd (h4 (by omega)) (g2 e (by omega) h)
def z_ac (t : Nat → Int) : Nat → Nat → Int → Int
  | _, 0, v => v
  | i, m + 1, v => z_ac t (i + 1) m (if 268435455 < v then v else 10 * v + t i - 48)
theorem z_ac_big (t : Nat → Int) : ∀ (m i : Nat) (v : Int), 268435455 < v → z_ac t i m v = v
  | 0, _, _, _ => rfl
  | m + 1, i, v, h => by
    unfold z_ac
    rw [if_pos h]
    exact z_ac_big t m (i + 1) v h
theorem z_ac_r (t : Nat → Int) : ∀ (m i : Nat) (v : Int), (∀ j, j < m → z_dg (t (i + j))) → 0 ≤ v → v ≤ 2684354559 → 0 ≤ z_ac t i m v ∧ z_ac t i m v ≤ 2684354559
  | 0, _, _, _, h1, h2 => ⟨h1, h2⟩
  | m + 1, i, v, hd, h1, h2 => by
    unfold z_ac
    have := hd 0 (by omega)
    rw [Nat.add_zero] at this
    unfold z_dg at this
    refine z_ac_r t m (i + 1) _ (fun j hj => by have := hd (j + 1) (by omega); rw [show i + 1 + j = i + (j + 1) by omega]; exact this) ?_ ?_
    · split <;> omega
    · split <;> omega
theorem z_ac_snoc (t : Nat → Int) : ∀ (m i : Nat) (v : Int), z_ac t i (m + 1) v = (if 268435455 < z_ac t i m v then z_ac t i m v else 10 * z_ac t i m v + t (i + m) - 48)
  | 0, i, v => rfl
  | m + 1, i, v => by
    show z_ac t (i + 1) (m + 1) _ = _
    rw [z_ac_snoc t m (i + 1)]
    rw [show i + 1 + m = i + (m + 1) by omega]
    rfl
theorem t_c47 {d : Nat} {Q : mj_Q} {σ : mj_S} {n a : Nat} (hn : σ 3 3 = n) (h3 : n ≤ 300) (ha : σ 3 4 = a) (hl : a ≤ n) (h : Q (some (.inl (z_re (σ 18) n (n - a) : Nat))) σ) : mj_B mjc_L mjc_Ms (d + 2) 47 [.inr (.inl 3)] σ Q := by
  have go : ∀ m, m ≤ n → Q (some (.inl (z_re (σ 18) n m : Nat))) σ → qh_c47_5 (d + 1) Q ((n - m : Nat) : Int) σ := by
    intro m
    induction m with
    | zero => exact fun _ h => qw_c47_5 ⟨fun _ => h, fun c => absurd c (by omega)⟩
    | succ m ih =>
      intro hm h
      unfold z_re at h
      refine qw_c47_5 ⟨fun c => absurd c (by omega), fun c => ⟨by omega, by omega, fun c1 => ?_, fun c1 => ⟨by unfold mj_r; omega, ?_⟩⟩⟩
      · rw [Int.toNat_natCast] at c1
        rw [if_pos c1] at h; exact h
      · rw [Int.toNat_natCast] at c1
        rw [if_neg c1] at h
        have := ih (by omega) h
        rw [show (((n - (m + 1) : Nat) : Int) + 1) = ((n - m : Nat) : Int) by omega]
        exact this
  refine wq_c47 ?_
  have := go (n - a) (by omega) h
  rw [show n - (n - a) = a by omega, ← ha] at this
  exact this
theorem t_c50 {d : Nat} {Q : mj_Q} {σ : mj_S} {n a : Nat} (hn : σ 3 3 = n) (h3 : n ≤ 300) (ha : σ 3 4 = a) (hl : a ≤ n) (h1 : a < n → σ 18 a = 46 → z_re (σ 18) n (n - a) = a + 1 → Q (some (.inl 1)) σ) (h0 : ¬ (a < n ∧ σ 18 a = 46 ∧ z_re (σ 18) n (n - a) = a + 1) → Q (some (.inl 0)) σ) : mj_B mjc_L mjc_Ms (d + 3) 50 [.inr (.inl 3)] σ Q := by
  refine wq_c50 (d := d + 1) ?_
  rw [hn, ha, Int.toNat_natCast]
  refine ⟨by omega, by omega, fun c => h0 (fun z => c ⟨by omega, z.2.1⟩), fun c => t_c47 (d := d) hn h3 ha hl ⟨_, rfl, by rw [ha]; unfold mj_r; omega, fun c2 => ?_, fun c2 => ?_⟩⟩
  · exact h0 (fun z => c2 (by rw [ha]; omega))
  · exact h1 (by omega) c.2 (by rw [ha] at c2; omega)
theorem t_c45 {d : Nat} {Q : mj_Q} {σ : mj_S} {a e : Nat} (he : e ≤ 300) (hc : ∀ i, 0 ≤ σ 18 i ∧ σ 18 i ≤ 65535) : ∀ (m i : Nat) (v : Int), i + m = e → 0 ≤ v → v ≤ 268435455 → ((∀ j, j < m → z_dg (σ 18 (i + j))) → z_ac (σ 18) i m v ≤ 268435455 → Q (some (.inl (z_ac (σ 18) i m v))) σ) → (¬ ((∀ j, j < m → z_dg (σ 18 (i + j))) ∧ z_ac (σ 18) i m v ≤ 268435455) → Q (some (.inl (-1))) σ) → qh_c45_5 (d + 1) Q (a : Int) (e : Int) v (i : Int) σ
  | 0, i, v, hi, v0, v1, h1, h0 => qw_c45_5 ⟨fun _ => ⟨by unfold mj_r; omega, h1 (fun j hj => absurd hj (Nat.not_lt_zero j)) v1⟩, fun c => absurd c (by omega)⟩
  | m + 1, i, v, hi, v0, v1, h1, h0 => by
    have c0 := hc i
    refine qw_c45_5 ⟨fun c => absurd c (by omega), fun c => ?_⟩
    rw [Int.toNat_natCast]
    refine ⟨by omega, by omega, fun c1 => ⟨by unfold mj_rl; omega, by omega, by omega, by unfold mj_rl; omega, by unfold mj_rl; omega, fun c2 => ⟨by unfold mj_r; omega, ?_⟩, fun c2 => ?_⟩, fun c1 => ?_⟩
    · have hv : v * 10 + σ 18 i - 48 ≤ 268435455 := by
        by_cases g : 268435455 < v * 10 + σ 18 i - 48
        · rw [if_pos g] at c2; omega
        · omega
      have ez : ∀ u, z_ac (σ 18) i (m + 1) v = u → z_ac (σ 18) (i + 1) m (v * 10 + σ 18 i - 48) = u := fun u hu => by
        rw [← hu]
        show _ = z_ac (σ 18) (i + 1) m (if 268435455 < v then v else 10 * v + σ 18 i - 48)
        rw [if_neg (by omega), show 10 * v = v * 10 by omega]
      have hd : (∀ j, j < m → z_dg (σ 18 (i + 1 + j))) → ∀ j, j < m + 1 → z_dg (σ 18 (i + j)) := fun g j hj => by
        cases j with
        | zero => exact c1
        | succ j => have := g j (by omega); rw [show i + 1 + j = i + (j + 1) by omega] at this; exact this
      have := t_c45 (d := d) (Q := Q) (a := a) he hc m (i + 1) (v * 10 + σ 18 i - 48) (by omega) (by unfold z_dg at c1; omega) hv (fun g1 g2 => by rw [ez _ rfl] at g2 ⊢; exact h1 (hd g1) g2) (fun g => h0 (fun z => g ⟨fun j hj => by have := z.1 (j + 1) (by omega); rw [show i + 1 + j = i + (j + 1) by omega]; exact this, by rw [ez _ rfl]; exact z.2⟩))
      rw [show ((i : Int) + 1) = ((i + 1 : Nat) : Int) by omega]
      exact this
    · have hv : 268435455 < v * 10 + σ 18 i - 48 := by
        by_cases g : 268435455 < v * 10 + σ 18 i - 48
        · exact g
        · rw [if_neg g] at c2; split at c2 <;> omega
      refine h0 (fun z => ?_)
      have hz := z.2
      unfold z_ac at hz
      rw [if_neg (by omega), z_ac_big _ _ _ _ (by omega)] at hz
      omega
    · exact h0 (fun z => c1 (by have := z.1 0 (by omega); rw [Nat.add_zero] at this; exact this))
/-- symbol i has the name that stands in the text from a on, l characters -/
def z_mt (lt ln t : Nat → Int) (i a l : Nat) : Prop := ln i = (l : Int) ∧ ∀ k, k < l → lt (8 * i + k) = t (a + k)
theorem t_c14 {d : Nat} {Q : mj_Q} {σ : mj_S} {i a l : Nat} (hi : i < 60) (hl : l ≤ 8) (ha : a + l ≤ 300) (h1 : z_mt (σ 9) (σ 10) (σ 18) i a l → Q (some (.inl 1)) σ) (h0 : ¬ z_mt (σ 9) (σ 10) (σ 18) i a l → Q (some (.inl 0)) σ) : mj_B mjc_L mjc_Ms (d + 1) 14 [.inr (.inl 1), .inl (i : Int), .inr (.inl 18), .inl (a : Int), .inl (l : Int)] σ Q := by
  have go : (σ 10 i = l) → ∀ m k, k + m = l → (∀ j, j < k → σ 9 (8 * i + j) = σ 18 (a + j)) → qh_c14_29 d Q (i : Int) (a : Int) (l : Int) (k : Int) σ := by
    intro hln m
    induction m with
    | zero =>
      intro k hk hall
      refine qw_c14_29 ⟨fun _ => h1 ⟨hln, fun j hj => hall j (by omega)⟩, fun c => absurd c (by omega)⟩
    | succ m ih =>
      intro k hk hall
      refine qw_c14_29 ⟨fun c => absurd c (by omega), fun c => ?_⟩
      rw [show ((i : Int) * 8 + (k : Int)).toNat = 8 * i + k by omega, show ((a : Int) + (k : Int)).toNat = a + k by omega]
      refine ⟨by unfold mj_r; omega, by unfold mj_r; omega, by omega, by omega, by unfold mj_r; omega, by omega, by omega, fun c1 => ⟨by unfold mj_r; omega, ?_⟩, fun c1 => ?_⟩
      · have := ih (k + 1) (by omega) (fun j hj => by
          by_cases e : j = k
          · rw [e]; exact c1
          · exact hall j (by omega))
        rw [show ((k : Int) + 1) = ((k + 1 : Nat) : Int) by omega]
        exact this
      · exact h0 (fun z => c1 (z.2 k (by omega)))
  refine wq_c14 ?_
  rw [Int.toNat_natCast]
  refine ⟨by omega, by omega, fun c => h0 (fun z => c z.1), fun c => ⟨fun c1 => absurd c1 (by omega), fun _ => ⟨by unfold mj_r; omega, fun _ => ?_, fun c1 => absurd c1 (by omega)⟩⟩⟩
  exact go c l 0 (by omega) (fun j hj => absurd hj (Nat.not_lt_zero j))
theorem t_c13 {d : Nat} {Q : mj_Q} {σ : mj_S} {kn a l : Nat} (hk : σ 1 2 = kn) (hk6 : kn ≤ 60) (h1l : 1 ≤ l) (hl : l ≤ 8) (ha : a + l ≤ 300) (hc : ∀ i, 0 ≤ σ 18 i ∧ σ 18 i ≤ 65535)
    (hfound : ∀ s, s < kn → z_mt (σ 9) (σ 10) (σ 18) s a l → (∀ i, i < s → ¬ z_mt (σ 9) (σ 10) (σ 18) i a l) → Q (some (.inl (268435456 + (s : Int)))) σ) (hfull : (∀ i, i < kn → ¬ z_mt (σ 9) (σ 10) (σ 18) i a l) → kn = 60 → Q (some (.inl (-11))) σ)
    (hadd : (∀ i, i < kn → ¬ z_mt (σ 9) (σ 10) (σ 18) i a l) → kn < 60 → ∀ σ', σ' = mj_up (mj_up (mj_cp σ 9 18 a (8 * kn) l) 10 kn (l : Int)) 1 2 ((kn : Int) + 1) → Q (some (.inl (268435456 + (kn : Int)))) σ') : mj_B mjc_L mjc_Ms (d + 2) 13 [.inr (.inl 1), .inr (.inl 18), .inl (a : Int), .inl (l : Int)] σ Q := by
  have go : ∀ m s, s + m = kn → (∀ i, i < s → ¬ z_mt (σ 9) (σ 10) (σ 18) i a l) → qh_c13_3 (d + 1) Q (a : Int) (l : Int) (s : Int) σ := by
    intro m
    induction m with
    | zero =>
      intro s hs hno
      have hs' : s = kn := by omega
      subst hs'
      refine qw_c13_3 ⟨fun _ => wq_c15 (d := d) ?_, fun c => absurd c (by omega)⟩
      rw [hk]
      refine ⟨fun c => absurd c (by omega), fun _ => ⟨fun c => absurd c (by omega), fun _ => ⟨fun c => absurd c (by omega), fun _ => ⟨by unfold mj_r; omega, fun _ => ⟨fun c => ?_, fun c => ⟨_, rfl, hfull hno (by omega)⟩⟩, fun c => absurd c (by omega)⟩⟩⟩⟩
      rw [Int.toNat_natCast, Int.toNat_natCast, show ((s : Int) * 8).toNat = 8 * s by omega]
      refine ⟨by unfold mj_r; omega, by omega, by omega, by omega, by omega, by omega, fun i _ => hc _, fun σ1 e1 => ?_⟩
      have a1 : σ1 1 2 = s := by rw [e1]; unfold mj_cp; rw [if_neg (by decide)]; exact hk
      rw [a1]
      refine ⟨by omega, by omega, fun σ2 e2 => ?_⟩
      have a2 : σ2 1 2 = s := by rw [e2, z_rd]; simpa using a1
      rw [a2]
      refine ⟨by unfold mj_r; omega, fun σ3 e3 => ?_⟩
      have a3 : σ3 1 2 = (s : Int) + 1 := by rw [e3, z_rd]; simp
      rw [a3]
      refine ⟨by unfold mj_r; omega, by unfold mj_r; omega, _, rfl, ?_⟩
      rw [show 268435456 + ((s : Int) + 1) - 1 = 268435456 + (s : Int) by omega]
      exact hadd hno (by omega) σ3 (by rw [e3, e2, e1, Int.toNat_natCast])
    | succ m ih =>
      intro s hs hno
      refine qw_c13_3 ⟨fun c => absurd c (by omega), fun _ => t_c14 (d := d) (by omega) hl ha (fun hm => ⟨1, rfl, fun c => absurd c (by decide), fun _ => ⟨by unfold mj_r; omega, hfound s (by omega) hm hno⟩⟩) (fun hm => ⟨0, rfl, fun _ => ⟨by unfold mj_r; omega, ?_⟩, fun c => absurd rfl c⟩)⟩
      have := ih (s + 1) (by omega) (fun i hi => by
        by_cases e : i = s
        · rw [e]; exact hm
        · exact hno i (by omega))
      rw [show ((s : Int) + 1) = ((s + 1 : Nat) : Int) by omega]
      exact this
  exact wq_c13 (go kn 0 (by omega) (fun i hi => absurd hi (Nat.not_lt_zero i)))
/-- a row of letters and digits -/
def z_ag (t : Nat → Int) (a e : Nat) : Prop := ∀ i, a ≤ i → i < e → z_le (t i) ∨ z_dg (t i)
def z_ad (t : Nat → Int) (a e : Nat) : Prop := ∀ i, a ≤ i → i < e → z_dg (t i)
theorem t_c46 {d : Nat} {Q : mj_Q} {σ : mj_S} {a e : Nat} (hae : a < e) (he : e ≤ 300) (hbad : ¬ (e ≤ a + 8 ∧ z_ag (σ 18) a e) → Q (some (.inl (-1))) σ)
    (hgood : e ≤ a + 8 → z_ag (σ 18) a e → mj_B mjc_L mjc_Ms (d + 1) 13 [.inr (.inl 1), .inr (.inl 18), .inl (a : Int), .inl ((e - a : Nat) : Int)] σ (fun r σ1 => ∃ v, r = some (.inl v) ∧ Q (some (.inl v)) σ1)) : mj_B mjc_L mjc_Ms (d + 2) 46 [.inr (.inl 3), .inl (a : Int), .inl (e : Int)] σ Q := by
  have go : e ≤ a + 8 → ∀ m i, i + m = e → a ≤ i → (∀ j, a ≤ j → j < i → z_le (σ 18 j) ∨ z_dg (σ 18 j)) → qh_c46_12 (d + 1) Q (a : Int) (e : Int) (i : Int) σ := by
    intro h8 m
    induction m with
    | zero =>
      intro i hi hai hall
      refine qw_c46_12 ⟨fun _ => ⟨by unfold mj_r; omega, ?_⟩, fun c => absurd c (by omega)⟩
      rw [show (e : Int) - (a : Int) = ((e - a : Nat) : Int) by omega]
      exact hgood h8 (fun j h1 h2 => hall j h1 (by omega))
    | succ m ih =>
      intro i hi hai hall
      have nx : z_le (σ 18 i) ∨ z_dg (σ 18 i) → qh_c46_12 (d + 1) Q (a : Int) (e : Int) ((i : Int) + 1) σ := fun hz => by
        have := ih (i + 1) (by omega) (by omega) (fun j h1 h2 => by
          by_cases c : j = i
          · rw [c]; exact hz
          · exact hall j h1 (by omega))
        rw [show ((i : Int) + 1) = ((i + 1 : Nat) : Int) by omega]
        exact this
      refine qw_c46_12 ⟨fun c => absurd c (by omega), fun _ => ?_⟩
      rw [Int.toNat_natCast]
      refine ⟨by omega, by omega, fun c => ⟨by unfold mj_r; omega, nx (Or.inl c)⟩, fun c => ⟨by omega, by omega, fun c2 => ⟨by unfold mj_r; omega, nx (Or.inr c2)⟩, fun c2 => hbad (fun z => ?_)⟩⟩
      rcases z.2 i (by omega) (by omega) with z | z
      · exact c z
      · exact c2 z
  refine wq_c46 ⟨by unfold mj_r; omega, fun c => go (by omega) (e - a) a (by omega) (Nat.le_refl _) (fun j h1 h2 => absurd h2 (by omega)), fun c => hbad (fun z => ?_)⟩
  have := z.1
  omega
/-- the program: a row; what it is depends on its characters alone -/
theorem t_c44 {d : Nat} {Q : mj_Q} {σ : mj_S} {n a e : Nat} (hn : σ 3 3 = n) (h3 : n ≤ 300) (ha : σ 3 4 = a) (hl : a ≤ n) (he : z_re (σ 18) n (n - a) = e) (hc : ∀ i, 0 ≤ σ 18 i ∧ σ 18 i ≤ 65535) (h0 : e = a → Q (some (.inl (-1))) σ)
    (hnum : a < e → z_ad (σ 18) a e → z_ac (σ 18) a (e - a) 0 ≤ 268435455 → Q (some (.inl (z_ac (σ 18) a (e - a) 0))) (mj_up σ 3 4 (e : Int)))
    (hbad : a < e → ¬ (z_ad (σ 18) a e ∧ z_ac (σ 18) a (e - a) 0 ≤ 268435455) → ¬ (¬ z_dg (σ 18 a) ∧ e ≤ a + 8 ∧ z_ag (σ 18) a e) → Q (some (.inl (-1))) (mj_up σ 3 4 (e : Int)))
    (hsym : a < e → ¬ z_dg (σ 18 a) → e ≤ a + 8 → z_ag (σ 18) a e → mj_B mjc_L mjc_Ms (d + 2) 13 [.inr (.inl 1), .inr (.inl 18), .inl (a : Int), .inl ((e - a : Nat) : Int)] (mj_up σ 3 4 (e : Int)) (fun r σ1 => ∃ v, r = some (.inl v) ∧ Q (some (.inl v)) σ1)) : mj_B mjc_L mjc_Ms (d + 4) 44 [.inr (.inl 3)] σ Q := by
  have hle := z_re_le (σ 18) n (n - a) (by omega)
  rw [he] at hle
  have e18 : mj_up σ 3 4 (e : Int) 18 = σ 18 := z_rq _ _ _ _ _ (by decide)
  refine wq_c44 (d := d + 2) (t_c47 (d := d + 1) hn h3 ha hl ?_)
  rw [he, ha]
  refine ⟨_, rfl, fun c σ3 e3 => ?_, fun c => h0 (by omega)⟩
  have hae : a < e := by omega
  subst e3
  rw [e18, Int.toNat_natCast]
  refine ⟨by omega, by omega, fun c1 => t_c46 (d := d + 1) hae (by omega) (fun hb => ?_) (fun g1 g2 => ?_), fun c1 => wq_c45 (d := d + 1) (t_c45 (by omega) (by rw [e18]; exact hc) (e - a) a 0 (by omega) (by omega) (by omega) (fun g1 g2 => ?_) (fun g => ?_))⟩
  · rw [e18] at hb
    refine ⟨_, rfl, hbad hae (fun z => ?_) (fun z => hb z.2)⟩
    exact c1 (z.1 a (Nat.le_refl _) hae)
  · rw [e18] at g2
    refine mj_B_mono _ _ _ _ _ _ (fun r σ' q => ?_) (hsym hae c1 g1 g2)
    obtain ⟨v, q1, q2⟩ := q
    exact ⟨v, q1, v, rfl, q2⟩
  · rw [e18] at g1 g2 ⊢
    exact ⟨_, rfl, hnum hae (fun i h1 h2 => by have := g1 (i - a) (by omega); rw [show a + (i - a) = i by omega] at this; exact this) g2⟩
  · rw [e18] at g
    exact ⟨_, rfl, hbad hae (fun z => g ⟨fun j hj => z.1 (a + j) (by omega) (by omega), z.2⟩) (fun z => z.1 c1)⟩
theorem z_cp_s (τ : mj_S) (q1 q0 sp dp k : Nat) : mj_up (mj_cp τ q1 q0 sp dp k) q1 (dp + k) (τ q0 (sp + k)) = mj_cp τ q1 q0 sp dp (k + 1) := by
  funext i j
  rw [z_rd]
  unfold mj_cp
  by_cases c : i = q1
  · rw [if_pos c, if_pos c]
    by_cases c2 : j = dp + k
    · rw [if_pos ⟨c, c2⟩, if_pos (by omega), c2, show sp + (dp + k - dp) = sp + k by omega]
    · rw [if_neg (fun z => c2 z.2)]
      by_cases c3 : dp ≤ j ∧ j < dp + k
      · rw [if_pos c3, if_pos (by omega)]
      · rw [if_neg c3, if_neg (by omega)]
  · rw [if_neg (fun z => c z.1), if_neg c, if_neg c]
theorem z_cp_0 (τ : mj_S) (q1 q0 sp dp : Nat) : mj_cp τ q1 q0 sp dp 0 = τ := by
  funext i j
  unfold mj_cp
  by_cases c : i = q1
  · rw [if_pos c, if_neg (by omega)]
  · rw [if_neg c]
theorem z_cp_q (τ : mj_S) (q1 q0 sp dp n i : Nat) (h : i ≠ q1) : mj_cp τ q1 q0 sp dp n i = τ i := by
  funext j
  unfold mj_cp
  rw [if_neg h]
/-- the reference: symbol -/
theorem t_m17 {d : Nat} {Q : mj_Q} {τ : mj_S} {kn a l : Nat} (hk : τ 0 6 = kn) (hk6 : kn ≤ 60) (h1l : 1 ≤ l) (hl : l ≤ 8) (ha : a + l ≤ 300) (hc : ∀ i, 0 ≤ τ 1 i ∧ τ 1 i ≤ 65535)
    (hfound : ∀ s, s < kn → z_mt (τ 2) (τ 3) (τ 1) s a l → (∀ i, i < s → ¬ z_mt (τ 2) (τ 3) (τ 1) i a l) → Q (some (.inl (268435456 + (s : Int)))) τ) (hfull : (∀ i, i < kn → ¬ z_mt (τ 2) (τ 3) (τ 1) i a l) → kn = 60 → ∀ τ', τ' = z_sp τ 11 → Q (some (.inl 268435456)) τ')
    (hadd : (∀ i, i < kn → ¬ z_mt (τ 2) (τ 3) (τ 1) i a l) → kn < 60 → ∀ τ', τ' = mj_up (mj_up (mj_cp τ 2 1 a (8 * kn) l) 3 kn (l : Int)) 0 6 ((kn : Int) + 1) → Q (some (.inl (268435456 + (kn : Int)))) τ') : mj_B mjm_L mjm_Ms (d + 2) 17 [.inr (.inl 0), .inl (a : Int), .inl (l : Int)] τ Q := by
  have wr : (∀ i, i < kn → ¬ z_mt (τ 2) (τ 3) (τ 1) i a l) → kn < 60 → ∀ m k, k + m = l → qh_m17_112 (d + 1) Q (a : Int) (l : Int) (k : Int) (mj_cp τ 2 1 a (8 * kn) k) := by
    intro hno hkn m
    induction m with
    | zero =>
      intro k hk'
      have hkl : k = l := by omega
      subst hkl
      have a1 : mj_cp τ 2 1 a (8 * kn) k 0 6 = kn := by rw [z_cp_q _ _ _ _ _ _ _ (by decide)]; exact hk
      refine qw_m17_112 ⟨fun _ => ?_, fun c => absurd c (by omega)⟩
      rw [a1]
      refine ⟨by omega, by omega, fun σ1 e1 => ?_⟩
      have a2 : σ1 0 6 = kn := by rw [e1, z_rd]; simpa using a1
      rw [a2]
      refine ⟨by unfold mj_r; omega, fun σ2 e2 => ?_⟩
      have a3 : σ2 0 6 = (kn : Int) + 1 := by rw [e2, z_rd]; simp
      rw [a3]
      refine ⟨by unfold mj_r; omega, by unfold mj_r; omega, ?_⟩
      rw [show 268435456 + ((kn : Int) + 1) - 1 = 268435456 + (kn : Int) by omega]
      exact hadd hno hkn σ2 (by rw [e2, e1, Int.toNat_natCast])
    | succ m ih =>
      intro k hk'
      have a1 : mj_cp τ 2 1 a (8 * kn) k 0 6 = kn := by rw [z_cp_q _ _ _ _ _ _ _ (by decide)]; exact hk
      have a2 : mj_cp τ 2 1 a (8 * kn) k 1 = τ 1 := z_cp_q _ _ _ _ _ _ _ (by decide)
      refine qw_m17_112 ⟨fun c => absurd c (by omega), fun _ => ?_⟩
      rw [a1, a2, show ((a : Int) + (k : Int)).toNat = a + k by omega, show (8 * (kn : Int) + (k : Int)).toNat = 8 * kn + k by omega]
      refine ⟨by unfold mj_r; omega, by unfold mj_r; omega, by unfold mj_r; omega, by omega, by omega, by omega, by omega, hc _, fun σ3 e3 => ⟨by unfold mj_r; omega, ?_⟩⟩
      rw [e3, z_cp_s, show ((k : Int) + 1) = ((k + 1 : Nat) : Int) by omega]
      exact ih (k + 1) (by omega)
  have go : ∀ m s, s + m = kn → (∀ i, i < s → ¬ z_mt (τ 2) (τ 3) (τ 1) i a l) → qh_m17_2 (d + 1) Q (a : Int) (l : Int) (s : Int) τ := by
    intro m
    induction m with
    | zero =>
      intro s hs hno
      have hs' : s = kn := by omega
      subst hs'
      refine qw_m17_2 ⟨fun _ => ⟨fun c => ?_, fun c => hfull hno (by omega)⟩, fun c => absurd c (by omega)⟩
      have := wr hno (by omega) l 0 (by omega)
      rw [z_cp_0] at this
      exact this
    | succ m ih =>
      intro s hs hno
      have nx : ¬ z_mt (τ 2) (τ 3) (τ 1) s a l → qh_m17_2 (d + 1) Q (a : Int) (l : Int) ((s : Int) + 1) τ := fun hm => by
        have := ih (s + 1) (by omega) (fun i hi => by
          by_cases e : i = s
          · rw [e]; exact hm
          · exact hno i (by omega))
        rw [show ((s : Int) + 1) = ((s + 1 : Nat) : Int) by omega]
        exact this
      have z0 : ¬ z_mt (τ 2) (τ 3) (τ 1) s a l → ∀ k : Nat, qh_m17_30 (d + 1) Q (a : Int) (l : Int) (s : Int) 0 (k : Int) τ := fun hm k =>
        qw_m17_30 ⟨fun _ => ⟨fun _ => ⟨by unfold mj_r; omega, nx hm⟩, fun c => absurd rfl c⟩, fun _ => ⟨fun _ => ⟨fun _ => ⟨by unfold mj_r; omega, nx hm⟩, fun c => absurd rfl c⟩, fun c => absurd rfl c⟩⟩
      have z1 : τ 3 s = l → ∀ m k, k + m = l → (∀ j, j < k → τ 2 (8 * s + j) = τ 1 (a + j)) → qh_m17_30 (d + 1) Q (a : Int) (l : Int) (s : Int) 1 (k : Int) τ := by
        intro hln m
        induction m with
        | zero =>
          intro k hk' hall
          exact qw_m17_30 ⟨fun _ => ⟨fun c => absurd c (by decide), fun _ => ⟨by unfold mj_r; omega, hfound s (by omega) ⟨hln, fun j hj => hall j (by omega)⟩ hno⟩⟩, fun c => absurd c (by omega)⟩
        | succ m ih2 =>
          intro k hk' hall
          refine qw_m17_30 ⟨fun c => absurd c (by omega), fun _ => ⟨fun c => absurd c (by decide), fun _ => ?_⟩⟩
          rw [show ((a : Int) + (k : Int)).toNat = a + k by omega, show (8 * (s : Int) + (k : Int)).toNat = 8 * s + k by omega, show ((k : Int) + 1) = ((k + 1 : Nat) : Int) by omega]
          refine ⟨by unfold mj_r; omega, by unfold mj_r; omega, by omega, by omega, by unfold mj_r; omega, by omega, by omega, fun c => ⟨by unfold mj_r; omega, z0 (fun z => c (z.2 k (by omega))) (k + 1)⟩, fun c => ⟨by unfold mj_r; omega, ih2 (k + 1) (by omega) (fun j hj => ?_)⟩⟩
          by_cases e : j = k
          · rw [e]; exact c
          · exact hall j (by omega)
      refine qw_m17_2 ⟨fun c => absurd c (by omega), fun _ => ?_⟩
      rw [Int.toNat_natCast]
      refine ⟨by omega, by omega, fun c => ?_, fun c => ?_⟩
      · exact z0 (fun z => c z.1) 0
      · exact z1 c l 0 (by omega) (fun j hj => absurd hj (Nat.not_lt_zero j))
  exact wq_m17 (go kn 0 (by omega) (fun i hi => absurd hi (Nat.not_lt_zero i)))
/-- the reference: token -/
theorem t_m16 {d : Nat} {Q : mj_Q} {τ : mj_S} {n a e : Nat} (hn : τ 0 2 = n) (h3 : n ≤ 300) (ha : τ 0 4 = a) (hl : a ≤ n) (he : z_re (τ 1) n (n - a) = e) (hae : a < e) (hc : ∀ i, 0 ≤ τ 1 i ∧ τ 1 i ≤ 65535)
    (hdot : e = a + 1 → τ 1 a = 46 → Q (some (.inl (-1))) (mj_up τ 0 4 (e : Int)))
    (hnum : z_ad (τ 1) a e → z_ac (τ 1) a (e - a) 0 ≤ 268435455 → Q (some (.inl (z_ac (τ 1) a (e - a) 0))) (mj_up τ 0 4 (e : Int)))
    (hbad : ¬ (e = a + 1 ∧ τ 1 a = 46) → ¬ (z_ad (τ 1) a e ∧ z_ac (τ 1) a (e - a) 0 ≤ 268435455) → ¬ (¬ z_dg (τ 1 a) ∧ e ≤ a + 8 ∧ z_ag (τ 1) a e) → ∀ τ', τ' = z_sp (mj_up τ 0 4 (e : Int)) 1 → Q (some (.inl 268435456)) τ')
    (hsym : ¬ z_dg (τ 1 a) → e ≤ a + 8 → z_ag (τ 1) a e → mj_B mjm_L mjm_Ms (d + 1) 17 [.inr (.inl 0), .inl (a : Int), .inl ((e - a : Nat) : Int)] (mj_up τ 0 4 (e : Int)) (fun r τ1 => ∃ v, r = some (.inl v) ∧ Q (some (.inl v)) τ1)) : mj_B mjm_L mjm_Ms (d + 2) 16 [.inr (.inl 0)] τ Q := by
  have hle := z_re_le (τ 1) n (n - a) (by omega)
  have hin := z_re_in (τ 1) n (n - a) (by omega)
  have hat := z_re_at (τ 1) n (n - a) (by omega)
  rw [he] at hle hin hat
  have ex : ∀ v : Int, mj_up τ 0 4 v 1 = τ 1 := fun v => z_rq _ _ _ _ _ (by decide)
  have e2 : ∀ v : Int, mj_up τ 0 4 v 0 2 = n := fun v => by rw [z_rd]; simpa using hn
  have e4 : ∀ v : Int, mj_up τ 0 4 v 0 4 = v := fun v => by rw [z_rd]; simp
  -- the end: flags p (digits), g (good), value v
  have fin : ∀ (p g : Int) (v : Int), (¬ p = 0 ↔ z_ad (τ 1) a e) → (¬ g = 0 ↔ z_ag (τ 1) a e) → (¬ p = 0 → v = z_ac (τ 1) a (e - a) 0) → ¬ (e = a + 1 ∧ τ 1 a = 46) → qh_m16_147 (d + 1) Q (a : Int) p g v ((e : Int) - (a : Int)) (mj_up τ 0 4 (e : Int)) := by
    intro p g v hp hg hv hnd
    refine qw_m16_147 ⟨fun c => ⟨fun c1 => ?_, fun c1 => ⟨fun c2 => ?_, fun c2 => ?_⟩⟩, fun c => ⟨fun c1 => ?_, fun c1 => ?_⟩⟩
    · exact hbad hnd (fun z => hp.mpr z.1 c) (fun z => hg.mpr z.2.2 c1)
    · exact hbad hnd (fun z => hp.mpr z.1 c) (fun z => by have := z.2.1; omega)
    · rw [ex, Int.toNat_natCast]
      refine ⟨by omega, by omega, fun c3 => ?_, fun c3 => ?_⟩
      · rw [show (e : Int) - (a : Int) = ((e - a : Nat) : Int) by omega]
        exact hsym c3 (by omega) (hg.mp c1)
      · exact hbad hnd (fun z => hp.mpr z.1 c) (fun z => z.1 c3)
    · have hv2 : v ≤ 268435455 := by
        by_cases g : 268435455 < v
        · rw [if_pos g] at c1; omega
        · omega
      have hr := z_ac_r (τ 1) (e - a) a 0 (fun j hj => hp.mp c (a + j) (by omega) (by omega)) (by omega) (by omega)
      rw [hv c] at hv2 ⊢
      exact ⟨by unfold mj_r; omega, hnum (hp.mp c) hv2⟩
    · have hv2 : 268435455 < v := by
        by_cases g : 268435455 < v
        · exact g
        · rw [if_neg g] at c1; split at c1 <;> omega
      refine hbad hnd (fun z => ?_) (fun z => z.1 (hp.mp c a (Nat.le_refl _) hae))
      have := z.2
      rw [← hv c] at this
      omega
  have go : ∀ m i, i + m = e → a ≤ i → ∀ (p g v : Int), (¬ p = 0 ↔ z_ad (τ 1) a i) → (¬ g = 0 ↔ z_ag (τ 1) a i) → (¬ p = 0 → v = z_ac (τ 1) a (i - a) 0) → qh_m16_12 (d + 1) Q (a : Int) p g v (mj_up τ 0 4 (i : Int)) := by
    intro m
    induction m with
    | zero =>
      intro i hi hai p g v hp hg hv
      have hie : i = e := by omega
      subst hie
      have lk : ¬ (0 ≤ z_lk (mj_up τ 0 4 (i : Int)) ∧ ¬ z_er (z_lk (mj_up τ 0 4 (i : Int)))) := by
        unfold z_lk
        rw [e4, e2]
        by_cases c : (i : Int) < n
        · rw [if_pos c, ex, Int.toNat_natCast]
          exact fun z => z.2 (hat (by omega))
        · rw [if_neg c]
          exact fun z => absurd z.1 (by decide)
      refine qw_m16_12 ?_
      rw [e4, e2, ex, Int.toNat_natCast]
      refine ⟨by omega, by omega, fun _ => ⟨by unfold mj_r; omega, fun c => fin p g v hp hg hv (fun z => c (by omega)), fun c => ⟨by omega, by omega, fun c1 => fin p g v hp hg hv (fun z => c1 z.2), fun c1 => hdot (by omega) c1⟩⟩, fun c => absurd c lk⟩
    | succ m ih =>
      intro i hi hai p g v hp hg hv
      have lk : z_lk (mj_up τ 0 4 (i : Int)) = τ 1 i := by
        unfold z_lk
        rw [e4, e2, if_pos (by omega), ex, Int.toNat_natCast]
      have c0 := hc i
      have hnr : ¬ z_er (τ 1 i) := hin i (by omega) (by omega)
      -- one character on
      have nx : ∀ (p' g' v' : Int), (¬ p' = 0 ↔ z_ad (τ 1) a (i + 1)) → (¬ g' = 0 ↔ z_ag (τ 1) a (i + 1)) → (¬ p' = 0 → v' = z_ac (τ 1) a (i + 1 - a) 0) → qh_m16_107 (d + 1) Q (a : Int) p' g' v' (τ 1 i) (mj_up τ 0 4 (i : Int)) := fun p' g' v' q1 q2 q3 => by
        refine qw_m16_107 ?_
        rw [e4]
        refine ⟨by unfold mj_r; omega, fun σ1 e1 => ?_⟩
        rw [e1, z_uu, show ((i : Int) + 1) = ((i + 1 : Nat) : Int) by omega]
        exact ih (i + 1) (by omega) (by omega) p' g' v' q1 q2 q3
      have mk : ∀ (p' g' : Int), (¬ p' = 0 ↔ z_ad (τ 1) a (i + 1)) → (¬ g' = 0 ↔ z_ag (τ 1) a (i + 1)) → (¬ p' = 0 → ¬ p = 0) → qh_m16_73 (d + 1) Q (a : Int) p' g' v (τ 1 i) (mj_up τ 0 4 (i : Int)) := fun p' g' q1 q2 q3 => by
        refine qw_m16_73 ⟨fun c => nx p' g' v q1 q2 (fun z => absurd c z), fun c => ?_⟩
        have hp' := hp.mp (q3 c)
        have hr := z_ac_r (τ 1) (i - a) a 0 (fun j hj => hp' (a + j) (by omega) (by omega)) (by omega) (by omega)
        have hvv := hv (q3 c)
        rw [← hvv] at hr
        have hs := z_ac_snoc (τ 1) (i - a) a 0
        rw [← hvv, show a + (i - a) = i by omega, show i - a + 1 = i + 1 - a by omega] at hs
        refine ⟨fun c1 => ⟨by unfold mj_rl; omega, by unfold mj_rl; omega, by unfold mj_rl; omega, nx p' g' _ q1 q2 (fun _ => ?_)⟩, fun c1 => nx p' g' v q1 q2 (fun _ => ?_)⟩
        · rw [hs, if_neg]
          intro g; rw [if_pos g] at c1; omega
        · rw [hs, if_pos]
          by_cases g : 268435455 < v
          · exact g
          · rw [if_neg g] at c1; split at c1 <;> omega
      have ext : ∀ (R : Int → Prop) , (∀ j, a ≤ j → j < i + 1 → R (τ 1 j)) ↔ ((∀ j, a ≤ j → j < i → R (τ 1 j)) ∧ R (τ 1 i)) := fun R =>
        ⟨fun z => ⟨fun j h1 h2 => z j h1 (by omega), z i hai (by omega)⟩, fun z j h1 h2 => by
          by_cases e : j = i
          · rw [e]; exact z.2
          · exact z.1 j h1 (by omega)⟩
      have gd : ∀ p' : Int, (¬ p' = 0 ↔ z_ad (τ 1) a (i + 1)) → (¬ p' = 0 → ¬ p = 0) → qh_m16_47 (d + 1) Q (a : Int) p' g v (τ 1 i) (mj_up τ 0 4 (i : Int)) := fun p' q1 q3 => by
        have q2 : ∀ g' : Int, (¬ g' = 0 ↔ (¬ g = 0 ∧ (z_le (τ 1 i) ∨ z_dg (τ 1 i)))) → (¬ g' = 0 ↔ z_ag (τ 1) a (i + 1)) := fun g' z => by
          rw [z, hg]; exact (ext (fun c => z_le c ∨ z_dg c)).symm
        refine qw_m16_47 ⟨fun c => mk p' 0 q1 (q2 0 ⟨fun z => absurd rfl z, fun z => absurd c z.1⟩) q3, fun c => ⟨fun c1 => mk p' 1 q1 (q2 1 ⟨fun _ => ⟨c, Or.inl c1⟩, fun _ => by decide⟩) q3, fun c1 => ⟨fun c2 => mk p' 0 q1 (q2 0 ⟨fun z => absurd rfl z, fun z => ?_⟩) q3, fun c2 => mk p' 1 q1 (q2 1 ⟨fun _ => ⟨c, Or.inr c2⟩, fun _ => by decide⟩) q3⟩⟩⟩
        rcases z.2 with z | z
        · exact absurd z c1
        · exact absurd z c2
      have q1 : ∀ p' : Int, (¬ p' = 0 ↔ (¬ p = 0 ∧ z_dg (τ 1 i))) → (¬ p' = 0 ↔ z_ad (τ 1) a (i + 1)) := fun p' z => by
        rw [z, hp]; exact (ext z_dg).symm
      refine qw_m16_12 ?_
      rw [lk, e4, e2]
      refine ⟨by omega, by omega, fun c => absurd ⟨c0.1, hnr⟩ c, fun _ => ⟨by omega, by omega, fun c => gd 0 (q1 0 ⟨fun z => absurd rfl z, fun z => absurd c z.1⟩) (fun z => absurd rfl z), fun c => ⟨fun c1 => gd 0 (q1 0 ⟨fun z => absurd rfl z, fun z => absurd z.2 c1⟩) (fun z => absurd rfl z), fun c1 => gd 1 (q1 1 ⟨fun _ => ⟨c, c1⟩, fun _ => by decide⟩) (fun _ => c)⟩⟩⟩
  refine wq_m16 ?_
  have := go (e - a) a (by omega) (Nat.le_refl _) 1 1 0 ⟨fun _ j h1 h2 => absurd h2 (by omega), fun _ => by decide⟩ ⟨fun _ j h1 h2 => absurd h2 (by omega), fun _ => by decide⟩ (fun _ => by rw [Nat.sub_self]; rfl)
  rw [← ha, z_us] at this
  rw [ha]
  rw [ha] at this
  exact this
