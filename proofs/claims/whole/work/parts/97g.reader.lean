/-! a datum, read by both -/
def z_gv (τ τ' : mj_S) (v : Int) : Prop := ∀ (d : Nat) (Q : mj_Q), (∀ y, qh_m20_158 (d + 10) Q y v τ') → qh_m20_5 (d + 10) Q τ
def z_gh (τ τ' : mj_S) : Prop := ∀ (d : Nat) (Q : mj_Q), qh_m20_5 (d + 10) Q τ' → qh_m20_5 (d + 10) Q τ
def z_DAd (L dp : Nat) : Prop := ∀ (σ τ : mj_S) (Q : mj_Q) (n s : Nat), z_X σ τ → z_Y σ τ → z_So σ τ → σ 3 3 = n → (∃ a : Nat, σ 3 4 = a ∧ a ≤ n ∧ z_sk (σ 18) n (n - a) false = s) → (∃ b : Nat, τ 0 4 = b ∧ b ≤ n ∧ z_sk (σ 18) n (n - b) false = s) → τ 0 5 = 0 → τ 0 17 = L → (0 < L → ¬ τ 12 (L - 1) = 2) →
  (L = 0 ∨ τ 9 (L - 1) = 1 ∨ τ 12 (L - 1) = 1 ∨ (s < n → ¬ σ 18 s = 41 ∧ ¬ (σ 18 s = 46 ∧ z_re (σ 18) n (n - s) = s + 1))) → (L = 13 → ¬ τ 9 12 = 0 ∨ τ 11 12 = 268435456 ∨ ¬ τ 12 12 = 0) →
  (∀ (v : Int) (σ' τ' : mj_S), L ≤ 12 → z_F L σ τ σ' τ' → z_RD σ' τ' → τ' 0 5 = 0 → τ' 0 17 = L → σ 3 4 < σ' 3 4 → 0 ≤ v → (v < 536870912 → v < 268435456 + σ' 1 2) → z_D (σ' 11) (σ' 12) 536870912 (σ 2 8).toNat (σ' 2 8).toNat (12 - L) (σ' 2 8 - σ 2 8).toNat v → z_gv τ τ' v → Q (some (.inl v)) σ') →
  (∀ (c : Int) (σ' τ' : mj_S), z_F L σ τ σ' τ' → z_X σ' τ' → z_Y σ' τ' → τ' 0 5 = c → ((c = 1 ∨ c = 11) ∧ z_pl τ') → z_gh τ τ' → Q (some (.inl (-c))) σ') →
  mj_B mjc_L mjc_Ms dp 39 [.inr (.inl 3), .inl (L : Int)] σ Q
def z_DA (L : Nat) : Prop := ∀ d : Nat, z_DAd L (d + 3 * (13 - L) + 10)
theorem r_DA13 : z_DA 13 := by
  intro d σ τ Q n s hX hY hS hn ha hb h5 hL hd2 ctx ctx13 hv hx
  obtain ⟨b, b1, b2, b3⟩ := hb
  refine wq_c39 ⟨fun c => absurd c (by decide), fun _ => ?_⟩
  have hx1 := hX
  obtain ⟨x1, x2, x3, x4, x5⟩ := hx1
  have x2' : ∀ i, 0 ≤ τ 1 i ∧ τ 1 i ≤ 65535 := by rw [← x1]; exact x2
  rw [x1] at b3 ctx
  have hle := z_sk_le (τ 1) n (n - b) false (by omega)
  rw [b3] at hle
  have F1 : z_F 13 σ τ σ (mj_up (mj_up τ 0 4 (s : Int)) 0 5 1) := z_F_m (z_F_rf _ _ _) (fun q k c => by rw [mj_up_ne (by omega), mj_up_ne (by omega)])
  have X1 : z_X σ (mj_up (mj_up τ 0 4 (s : Int)) 0 5 1) := by
    refine ⟨?_, x2, ?_, x4, x5⟩
    · funext i; rw [mj_up_ne (by omega), mj_up_ne (by omega), x1]
    · rw [mj_up_ne (by omega), mj_up_ne (by omega)]; exact x3
  have Y1 : z_Y σ (mj_up (mj_up τ 0 4 (s : Int)) 0 5 1) := by
    obtain ⟨y1, y2, y3, y4⟩ := hY
    refine ⟨?_, y2, y3, fun i hi => ?_⟩
    · rw [mj_up_ne (by omega), mj_up_ne (by omega)]; exact y1
    · obtain ⟨q1, q2, q3, q4⟩ := y4 i hi
      refine ⟨?_, q2, q3, fun k hk => ?_⟩
      · rw [mj_up_ne (by omega), mj_up_ne (by omega)]; exact q1
      · rw [mj_up_ne (by omega), mj_up_ne (by omega)]; exact q4 k hk
  -- wherever it stops, it stops with the same state but for the place, if the dot is a row
  have main : ∀ τ', z_F 13 σ τ σ τ' → z_X σ τ' → z_Y σ τ' → τ' 0 5 = 1 → z_pl τ' → z_gh τ τ' → Q (some (.inl (-1))) σ := fun τ' f1 f2 f3 f4 f6 f5 => hx 1 σ τ' f1 f2 f3 f4 ⟨Or.inl rfl, f6⟩ f5
  by_cases c46 : s < n ∧ τ 1 s = 46
  · -- a row that begins with a dot
    obtain ⟨csn, c46⟩ := c46
    have hne : ¬ z_er (τ 1 s) := by rw [c46]; decide
    have hre := z_re_le (τ 1) n (n - s) (by omega)
    have hse : s < z_re (τ 1) n (n - s) := by
      by_cases c : s < z_re (τ 1) n (n - s)
      · exact c
      · have e : z_re (τ 1) n (n - s) = s := by omega
        have := z_re_at (τ 1) n (n - s) (by omega) (by omega)
        rw [e] at this
        exact absurd this hne
    generalize he : z_re (τ 1) n (n - s) = e at hre hse
    refine main (mj_up (mj_up τ 0 4 (e : Int)) 0 5 1) ?_ ?_ ?_ mj_up_eq (z_pl_1 (by omega) (by omega)) ?_
    · exact z_F_m (z_F_rf _ _ _) (fun q k c => by rw [mj_up_ne (by omega), mj_up_ne (by omega)])
    · refine ⟨?_, x2, ?_, x4, x5⟩
      · funext i; rw [mj_up_ne (by omega), mj_up_ne (by omega), x1]
      · rw [mj_up_ne (by omega), mj_up_ne (by omega)]; exact x3
    · obtain ⟨y1, y2, y3, y4⟩ := hY
      refine ⟨?_, y2, y3, fun i hi => ?_⟩
      · rw [mj_up_ne (by omega), mj_up_ne (by omega)]; exact y1
      · obtain ⟨q1, q2, q3, q4⟩ := y4 i hi
        refine ⟨?_, q2, q3, fun k hk => ?_⟩
        · rw [mj_up_ne (by omega), mj_up_ne (by omega)]; exact q1
        · rw [mj_up_ne (by omega), mj_up_ne (by omega)]; exact q4 k hk
    · intro d' Q' h
      refine rh (L := 13) h5 (by omega) (by omega) b1 b2 (fun i => (x2' i).1) b3 rfl hL (by omega) (fun c => absurd c (by omega)) (fun _ c => absurd (c46.symm.trans c) (by decide)) (fun _ _ _ c => absurd c (hd2 (by decide))) (fun _ _ _ _ c => absurd c46 c) (fun _ _ _ _ => ?_) (fun _ _ _ c => absurd c (by decide)) (fun _ _ _ c => absurd c (by decide)) (fun _ _ _ _ _ c => absurd c (by decide))
      have q2 : mj_up τ 0 4 (s : Int) 0 2 = n := by rw [mj_up_ne (by omega)]; omega
      have q1 : mj_up τ 0 4 (s : Int) 1 = τ 1 := z_rq _ _ _ _ _ (by decide)
      have fin : ∀ τ', (τ' = mj_up τ 0 4 (e : Int) ∨ τ' = mj_up (mj_up τ 0 4 (e : Int)) 0 5 1) → τ' 0 17 = 13 ∧ (¬ τ' 9 12 = 0 ∨ τ' 11 12 = 268435456 ∨ ¬ τ' 12 12 = 0) ∧ (∃ v, some (Sum.inl (-2 : Int) : mj_V) = some (.inl v) ∧ ∀ y, qh_m20_148 (d' + 10) Q' y v (z_sp τ' 1)) := fun τ' z => by
        have w : ∀ q k, ¬ (q = 0 ∧ (k = 4 ∨ k = 5)) → τ' q k = τ q k := fun q k c => by
          rcases z with z | z
          · rw [z, mj_up_ne (by omega)]
          · rw [z, mj_up_ne (by omega), mj_up_ne (by omega)]
        have wz : z_sp τ' 1 = mj_up (mj_up τ 0 4 (e : Int)) 0 5 1 := by
          rcases z with z | z
          · rw [z, z_sp0 (by rw [mj_up_ne (by omega)]; exact h5)]
          · rw [z]; exact if_neg (by rw [mj_up_eq]; decide)
        refine ⟨by rw [w 0 17 (by omega)]; exact hL, by rw [w 9 12 (by omega), w 11 12 (by omega), w 12 12 (by omega)]; exact ctx13 rfl, -2, rfl, fun y => by rw [wz]; exact r_neg h y⟩
      refine r_dot13 (d := d' + 8) (by rw [mj_up_eq]; omega) (by rw [q2]; omega) ?_ ?_
      · unfold z_lk
        rw [q2, mj_up_eq, q1, Int.toNat_natCast, if_pos (by omega)]
        exact c46
      · refine t_m16 (d := d' + 7) (n := n) (a := s) (e := e) q2 (by omega) mj_up_eq (by omega) (by rw [q1]; exact he) hse (by rw [q1]; exact x2') (fun _ _ => ?_) (fun z _ => ?_) (fun _ _ _ τ' e' => ?_) (fun _ _ z => ?_)
        · rw [z_uu]
          exact ⟨_, rfl, fin _ (Or.inl rfl)⟩
        · rw [q1] at z
          have := z s (Nat.le_refl _) hse
          rw [c46] at this
          exact absurd this (by decide)
        · rw [z_uu] at e'
          refine ⟨_, rfl, fin _ (Or.inr ?_)⟩
          rw [e']
          exact z_sp0 (by rw [mj_up_ne (by omega)]; exact h5)
        · rw [q1] at z
          have := z s (Nat.le_refl _) hse
          rw [c46] at this
          exact absurd this (by decide)
  · refine main _ F1 X1 Y1 mj_up_eq (z_pl_1 (by omega) (by omega)) (fun d' Q' h => ?_)
    refine rh (L := 13) h5 (by omega) (by omega) b1 b2 (fun i => (x2' i).1) b3 rfl hL (by omega) (fun c y => r_neg h y) (fun csn c41 => ?_) (fun _ _ _ c => absurd c (hd2 (by decide))) (fun _ csn c41 _ _ y => r_148 (by decide) (r_er (by rw [mj_up_eq]; decide) h y)) (fun _ csn _ c => absurd ⟨csn, c⟩ c46) (fun _ _ _ c => absurd c (by decide)) (fun _ _ _ c => absurd c (by decide)) (fun _ _ _ _ _ c => absurd c (by decide))
    refine r_closex (d := d' + 8) (L := 13) (by rw [mj_up_ne (by omega)]; exact hL) (by omega) (by rw [mj_up_ne (by omega)]; exact h5) ?_ ⟨_, rfl, fun y => r_148 (by decide) (r_er (by rw [mj_up_eq]; decide) h y)⟩
    rcases ctx with z | z | z | z
    · exact absurd z (by decide)
    · exact Or.inr (Or.inl (by rw [mj_up_ne (by omega)]; exact z))
    · exact Or.inr (Or.inr (by rw [mj_up_ne (by omega)]; exact z))
    · exact absurd c41 (z csn).1
