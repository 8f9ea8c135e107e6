/-! lists of the store: how long, which item, couples, names -/
theorem t_c23 {d : Nat} {Q : mj_Q} {σ : mj_S} {x : Int} {n : Nat} (hl : z_len (σ 12) x n) (hn : n ≤ 400) (h : Q (some (.inl (z_ln (σ 12) x n))) σ) : mj_B mjc_L mjc_Ms (d + 2) 23 [.inr (.inl 2), .inl x] σ Q := by
  have go : ∀ m i, i + m = n → qh_c23_4 (d + 1) Q x (z_nth (σ 12) x i) (i : Int) σ := by
    intro m
    induction m with
    | zero =>
      intro i hi
      have hin : i = n := by omega
      subst hin
      have h2 := hl.2
      unfold z_ln at h
      refine qw_c23_4 ⟨fun c => absurd c (by omega), fun _ => ⟨fun c => absurd c (by omega), fun _ => ⟨fun c => ?_, fun c => ?_⟩⟩⟩
      · rw [if_neg c] at h; exact h
      · rw [if_pos c] at h; exact h
    | succ m ih =>
      intro i hi
      have h1 := hl.1 i (by omega)
      refine qw_c23_4 ⟨fun c => absurd c (by omega), fun _ => ⟨fun _ => ⟨by omega, by unfold mj_r; omega, ?_⟩, fun c => absurd h1.1 c⟩⟩
      have := ih (i + 1) (by omega)
      rw [show ((i : Int) + 1) = ((i + 1 : Nat) : Int) by omega]
      exact this
  exact wq_c23 (go n 0 (by omega))
theorem t_m7 {d : Nat} {Q : mj_Q} {τ : mj_S} {x : Int} {n : Nat} (hl : z_len (τ 5) x n) (hn : n ≤ 400) (h : Q (some (.inl (z_ln (τ 5) x n))) τ) : mj_B mjm_L mjm_Ms (d + 2) 7 [.inr (.inl 0), .inl x] τ Q := by
  have go : ∀ m i, i + m = n → qh_m7_4 (d + 1) Q x (i : Int) (z_nth (τ 5) x i) τ := by
    intro m
    induction m with
    | zero =>
      intro i hi
      have hin : i = n := by omega
      subst hin
      have h2 := hl.2
      unfold z_ln at h
      refine qw_m7_4 ⟨fun _ => ⟨fun c => ?_, fun c => ?_⟩, fun c => absurd c (by omega)⟩
      · rw [if_neg c] at h; exact h
      · rw [if_pos c] at h; exact h
    | succ m ih =>
      intro i hi
      have h1 := hl.1 i (by omega)
      refine qw_m7_4 ⟨fun c => absurd h1.1 c, fun _ => ⟨by unfold mj_r; omega, by omega, ?_⟩⟩
      have := ih (i + 1) (by omega)
      rw [show ((i : Int) + 1) = ((i + 1 : Nat) : Int) by omega]
      exact this
  exact wq_m7 (go n 0 (by omega))
theorem t_c22 {d : Nat} {Q : mj_Q} {σ : mj_S} {x : Int} {k : Nat} (hk : k ≤ 400) (hd : ∀ i, i ≤ k → z_dr (z_nth (σ 12) x i)) (h : Q (some (.inl (z_el (σ 11) (σ 12) x k))) σ) : mj_B mjc_L mjc_Ms (d + 2) 22 [.inr (.inl 2), .inl x, .inl (k : Int)] σ Q := by
  have go : ∀ m i, i + m = k → qh_c22_5 (d + 1) Q x (k : Int) (z_nth (σ 12) x i) (i : Int) σ := by
    intro m
    induction m with
    | zero =>
      intro i hi
      have hin : i = k := by omega
      subst hin
      exact qw_c22_5 ⟨fun _ => ⟨hd i (Nat.le_refl _), h⟩, fun c => absurd c (by omega)⟩
    | succ m ih =>
      intro i hi
      refine qw_c22_5 ⟨fun c => absurd c (by omega), fun _ => ⟨hd i (by omega), by unfold mj_r; omega, ?_⟩⟩
      have := ih (i + 1) (by omega)
      rw [show ((i : Int) + 1) = ((i + 1 : Nat) : Int) by omega]
      exact this
  exact wq_c22 (go k 0 (by omega))
theorem t_m8 {d : Nat} {Q : mj_Q} {τ : mj_S} {x : Int} {k : Nat} (hk : k ≤ 400) (hd : ∀ i, i ≤ k → z_pr (z_nth (τ 5) x i)) (h : Q (some (.inl (z_el (τ 4) (τ 5) x k))) τ) : mj_B mjm_L mjm_Ms (d + 2) 8 [.inr (.inl 0), .inl x, .inl (k : Int)] τ Q := by
  have go : ∀ m i, i + m = k → qh_m8_5 (d + 1) Q x (k : Int) (z_nth (τ 5) x i) (i : Int) τ := by
    intro m
    induction m with
    | zero =>
      intro i hi
      have hin : i = k := by omega
      subst hin
      exact qw_m8_5 ⟨fun _ => ⟨hd i (Nat.le_refl _), h⟩, fun c => absurd c (by omega)⟩
    | succ m ih =>
      intro i hi
      refine qw_m8_5 ⟨fun c => absurd c (by omega), fun _ => ⟨hd i (by omega), by unfold mj_r; omega, ?_⟩⟩
      have := ih (i + 1) (by omega)
      rw [show ((i : Int) + 1) = ((i + 1 : Nat) : Int) by omega]
      exact this
  exact wq_m8 (go k 0 (by omega))
theorem z_ln_2 {B : Nat → Int} {x : Int} {m : Nat} (hl : z_len B x m) (n : Nat) : z_ln B x m = (n : Int) ↔ z_isl B x n := by
  unfold z_ln z_isl
  constructor
  · intro h
    by_cases c : z_nth B x m = 268435456
    · rw [if_pos c] at h
      have : m = n := by omega
      subst this
      exact ⟨hl, c⟩
    · rw [if_neg c] at h; omega
  · rintro ⟨h1, h2⟩
    have := z_len_un hl h1
    subst this
    rw [if_pos h2]
/-- each of the first n is a couple -/
def z_cpl (A B : Nat → Int) (x : Int) (n : Nat) : Prop := ∀ i, i < n → z_isl B (z_el A B x i) 2
/-- each of the first n is the list of something: its length is known -/
def z_ll (A B : Nat → Int) (x : Int) (n : Nat) : Prop := ∀ i, i < n → ∃ m, m ≤ 400 ∧ z_len B (z_el A B x i) m
theorem t_c78 {d : Nat} {Q : mj_Q} {σ : mj_S} {x : Int} {n : Nat} (hl : z_len (σ 12) x n) (hn : n ≤ 400) (hll : z_ll (σ 11) (σ 12) x n) (h1 : z_cpl (σ 11) (σ 12) x n → Q (some (.inl 1)) σ) (h0 : ¬ z_cpl (σ 11) (σ 12) x n → Q (some (.inl 0)) σ) : mj_B mjc_L mjc_Ms (d + 3) 78 [.inr (.inl 5), .inl x, .inl (n : Int)] σ Q := by
  have go : ∀ m i, i + m = n → (∀ j, j < i → z_isl (σ 12) (z_el (σ 11) (σ 12) x j) 2) → qh_c78_5 (d + 2) Q x (n : Int) (z_nth (σ 12) x i) (i : Int) σ := by
    intro m
    induction m with
    | zero =>
      intro i hi hj
      exact qw_c78_5 (d := d + 1) ⟨fun _ => h1 (fun j hj' => hj j (by omega)), fun c => absurd c (by omega)⟩
    | succ m ih =>
      intro i hi hj
      have g1 := hl.1 i (by omega)
      obtain ⟨k, g2, g3⟩ := hll i (by omega)
      refine qw_c78_5 (d := d + 1) ⟨fun c => absurd c (by omega), fun _ => ⟨by omega, t_c23 (d := d) g3 g2 ⟨_, rfl, fun c => ⟨by omega, by unfold mj_r; omega, ?_⟩, fun c => h0 (fun z => c ?_)⟩⟩⟩
      · have := ih (i + 1) (by omega) (fun j hj' => by
          by_cases e : j = i
          · rw [e]; exact (z_ln_2 g3 2).mp c
          · exact hj j (by omega))
        rw [show ((i : Int) + 1) = ((i + 1 : Nat) : Int) by omega]
        exact this
      · exact (z_ln_2 g3 2).mpr (z i (by omega))
  exact wq_c78 (d := d + 1) (go n 0 (by omega) (fun j hj => absurd hj (Nat.not_lt_zero j)))
theorem t_m30 {d : Nat} {Q : mj_Q} {τ : mj_S} {x : Int} {n : Nat} (hl : z_len (τ 5) x n) (hn : n ≤ 400) (hll : z_ll (τ 4) (τ 5) x n) (h1 : z_nth (τ 5) x n = 268435456 → z_cpl (τ 4) (τ 5) x n → Q (some (.inl 1)) τ) (h0 : ¬ (z_nth (τ 5) x n = 268435456 ∧ z_cpl (τ 4) (τ 5) x n) → Q (some (.inl 0)) τ) : mj_B mjm_L mjm_Ms (d + 4) 30 [.inr (.inl 0), .inl x] τ Q := by
  have z0 : ¬ (z_nth (τ 5) x n = 268435456 ∧ z_cpl (τ 4) (τ 5) x n) → ∀ i, i ≤ n → qh_m30_16 (d + 3) Q x 0 (z_nth (τ 5) x i) τ := fun hno i hi => by
    refine qw_m30_16 (d := d + 2) ⟨fun _ => ⟨Or.inl rfl, h0 hno⟩, fun _ => ⟨fun _ => ⟨Or.inl rfl, h0 hno⟩, fun c => absurd rfl c⟩⟩
  have go : z_nth (τ 5) x n = 268435456 → ∀ m i, i + m = n → (∀ j, j < i → z_isl (τ 5) (z_el (τ 4) (τ 5) x j) 2) → qh_m30_16 (d + 3) Q x 1 (z_nth (τ 5) x i) τ := by
    intro hnil m
    induction m with
    | zero =>
      intro i hi hj
      have hin : i = n := by omega
      subst hin
      exact qw_m30_16 (d := d + 2) ⟨fun _ => ⟨Or.inr rfl, h1 hnil hj⟩, fun c => absurd c (by omega)⟩
    | succ m ih =>
      intro i hi hj
      have g1 := hl.1 i (by omega)
      obtain ⟨k, g2, g3⟩ := hll i (by omega)
      refine qw_m30_16 (d := d + 2) ⟨fun c => absurd g1.1 c, fun _ => ⟨fun c => absurd c (by decide), fun _ => ⟨by omega, t_m7 (d := d + 1) g3 g2 ⟨_, rfl, fun c => ⟨by omega, ?_⟩, fun c => ⟨by omega, ?_⟩⟩⟩⟩⟩
      · exact z0 (fun z => c ((z_ln_2 g3 2).mpr (z.2 i (by omega)))) (i + 1) (by omega)
      · exact ih (i + 1) (by omega) (fun j hj' => by
          by_cases e : j = i
          · rw [e]; exact (z_ln_2 g3 2).mp c
          · exact hj j (by omega))
  refine wq_m30 (d := d + 2) (t_m7 (d := d + 1) hl hn ⟨_, rfl, fun c => ?_, fun c => ?_⟩)
  · refine z0 (fun z => ?_) 0 (Nat.zero_le _)
    unfold z_ln at c
    rw [if_pos z.1] at c
    omega
  · refine go ?_ n 0 (by omega) (fun j hj => absurd hj (Nat.not_lt_zero j))
    unfold z_ln at c
    by_cases e : z_nth (τ 5) x n = 268435456
    · exact e
    · rw [if_neg e] at c; omega
/-- names that may be variables, no two alike -/
def z_vs (nm : Nat → Int) (n : Nat) : Prop := ∀ i, i < n → z_va (nm i) ∧ ∀ j, j < i → ¬ nm j = nm i
theorem t_c64 {d : Nat} {Q : mj_Q} {σ : mj_S} {x b : Int} {n : Nat} (hl : z_len (σ 12) x n) (hn : n ≤ 400) (hdr : ∀ i, i < n → z_dr (z_el (σ 11) (σ 12) x i)) {nm : Nat → Int} (hnm : ∀ i, nm i = z_ni σ (z_el (σ 11) (σ 12) x i) b) (h1 : z_vs nm n → Q (some (.inl 1)) σ) (h0 : ¬ z_vs nm n → Q (some (.inl 0)) σ) : mj_B mjc_L mjc_Ms (d + 3) 64 [.inr (.inl 5), .inl x, .inl (n : Int), .inl b] σ Q := by
  have go : ∀ m i, i + m = n → (∀ j, j < i → z_va (nm j) ∧ ∀ k, k < j → ¬ nm k = nm j) → qh_c64_6 (d + 2) Q x (n : Int) b (z_nth (σ 12) x i) (i : Int) σ := by
    intro m
    induction m with
    | zero =>
      intro i hi hj
      exact qw_c64_6 ⟨fun _ => h1 (fun j hj' => hj j (by omega)), fun c => absurd c (by omega)⟩
    | succ m ih =>
      intro i hi hj
      have g1 := hl.1 i (by omega)
      have inn : z_va (nm i) → ∀ m2 k, k + m2 = i → (∀ j, j < k → ¬ nm j = nm i) → qh_c64_44 (d + 2) Q x (n : Int) b (z_nth (σ 12) x i) (i : Int) (nm i) (z_nth (σ 12) x k) (k : Int) σ := by
        intro hva m2
        induction m2 with
        | zero =>
          intro k hk hne
          refine qw_c64_44 ⟨fun _ => ⟨by omega, by unfold mj_r; omega, ?_⟩, fun c => absurd c (by omega)⟩
          have := ih (i + 1) (by omega) (fun j hj' => by
            by_cases e : j = i
            · rw [e]; exact ⟨hva, fun k' hk' => hne k' (by omega)⟩
            · exact hj j (by omega))
          rw [show ((i : Int) + 1) = ((i + 1 : Nat) : Int) by omega]
          exact this
        | succ m2 ih2 =>
          intro k hk hne
          have g2 := hl.1 k (by omega)
          refine qw_c64_44 ⟨fun c => absurd c (by omega), fun _ => ⟨by omega, hdr k (by omega), fun c => ⟨by omega, by unfold mj_r; omega, ?_⟩, fun c => h0 (fun z => ?_)⟩⟩
          · have := ih2 (k + 1) (by omega) (fun j hj' => by
              by_cases e : j = k
              · rw [e, hnm k]; exact c
              · exact hne j (by omega))
            rw [show ((k : Int) + 1) = ((k + 1 : Nat) : Int) by omega]
            exact this
          · exact (z i (by omega)).2 k (by omega) (by rw [hnm k]; exact c)
      refine qw_c64_6 ⟨fun c => absurd c (by omega), fun _ => ⟨by omega, hdr i (by omega), fun c => ?_, fun c => h0 (fun z => c ?_)⟩⟩
      · have e : z_ni σ (z_cd (σ 11) (z_nth (σ 12) x i)) b = nm i := (hnm i).symm
        rw [e] at c ⊢
        exact inn c i 0 (by omega) (fun j hj' => absurd hj' (Nat.not_lt_zero j))
      · have := (z i (by omega)).1
        rw [hnm i] at this
        exact this
  exact wq_c64 (go n 0 (by omega) (fun j hj => absurd hj (Nat.not_lt_zero j)))
/-- rests of one list are all different -/
theorem z_nth_ne {B : Nat → Int} {x : Int} {n : Nat} (hl : z_len B x n) {i j : Nat} (hij : i < j) (hj : j ≤ n) : ¬ z_nth B x i = z_nth B x j := by
  intro e
  have sh : ∀ k, z_nth B x (i + k) = z_nth B x (j + k) := by
    intro k
    induction k with
    | zero => exact e
    | succ k ih => show z_cd B (z_nth B x (i + k)) = z_cd B (z_nth B x (j + k)); rw [ih]
  have h1 := sh (n - j)
  rw [show j + (n - j) = n by omega] at h1
  have h2 := hl.1 (i + (n - j)) (by omega)
  have h3 := hl.2
  omega
theorem t_m32 {d : Nat} {Q : mj_Q} {τ : mj_S} {x : Int} {n : Nat} (hl : z_len (τ 5) x n) (hn : n ≤ 400) (hll : z_ll (τ 4) (τ 5) x n) {nm : Nat → Int} (hnm : ∀ i, nm i = z_el (τ 4) (τ 5) (z_el (τ 4) (τ 5) x i) 0)
    (h1 : z_nth (τ 5) x n = 268435456 → z_cpl (τ 4) (τ 5) x n → z_vs nm n → Q (some (.inl 1)) τ) (h0 : ¬ (z_nth (τ 5) x n = 268435456 ∧ z_cpl (τ 4) (τ 5) x n ∧ z_vs nm n) → Q (some (.inl 0)) τ) : mj_B mjm_L mjm_Ms (d + 5) 32 [.inr (.inl 0), .inl x] τ Q := by
  have z0 : ¬ (z_nth (τ 5) x n = 268435456 ∧ z_cpl (τ 4) (τ 5) x n ∧ z_vs nm n) → ∀ i, qh_m32_8 (d + 4) Q x 0 (z_nth (τ 5) x i) τ := fun hno i => by
    refine qw_m32_8 (d := d + 2) ⟨fun _ => ⟨Or.inl rfl, h0 hno⟩, fun _ => ⟨fun _ => ⟨Or.inl rfl, h0 hno⟩, fun c => absurd rfl c⟩⟩
  refine wq_m32 (d := d + 2) (t_m30 (d := d) hl hn hll (fun hnil hcp => ⟨_, rfl, ?_⟩) (fun hno => ⟨_, rfl, z0 (fun z => hno ⟨z.1, z.2.1⟩) 0⟩))
  have pr : ∀ i, i < n → z_pr (z_nth (τ 5) x i) ∧ z_pr (z_el (τ 4) (τ 5) x i) := fun i hi => by
    have g1 := hl.1 i hi
    have g2 := (hcp i hi).1.1 0 (by omega)
    exact ⟨by omega, by unfold z_nth at g2; omega⟩
  have go : ∀ m i, i + m = n → (∀ j, j < i → z_va (nm j) ∧ ∀ k, k < j → ¬ nm k = nm j) → qh_m32_8 (d + 4) Q x 1 (z_nth (τ 5) x i) τ := by
    intro m
    induction m with
    | zero =>
      intro i hi hj
      have hin : i = n := by omega
      subst hin
      have g := hl.2
      exact qw_m32_8 (d := d + 2) ⟨fun _ => ⟨Or.inr rfl, h1 hnil hcp hj⟩, fun c => absurd c (by omega)⟩
    | succ m ih =>
      intro i hi hj
      obtain ⟨p1, p2⟩ := pr i (by omega)
      have i0 : ¬ (z_va (nm i) ∧ ∀ k, k < i → ¬ nm k = nm i) → ∀ m2 k, k + m2 = i → qh_m32_36 (d + 4) Q x 0 (z_nth (τ 5) x i) (z_nth (τ 5) x k) τ := by
        intro hno m2
        induction m2 with
        | zero =>
          intro k hk
          have hki : k = i := by omega
          subst hki
          exact qw_m32_36 (d := d + 2) ⟨fun _ => ⟨p1, z0 (fun z => hno (z.2.2 k (by omega))) (k + 1)⟩, fun c => absurd rfl c⟩
        | succ m2 ih2 =>
          intro k hk
          obtain ⟨q1, q2⟩ := pr k (by omega)
          refine qw_m32_36 (d := d + 2) ⟨fun c => absurd c (z_nth_ne hl (by omega) (by omega)), fun _ => ⟨fun _ => ⟨q1, ih2 (k + 1) (by omega)⟩, fun c => absurd rfl c⟩⟩
      have i1 : z_va (nm i) → ∀ m2 k, k + m2 = i → (∀ j, j < k → ¬ nm j = nm i) → qh_m32_36 (d + 4) Q x 1 (z_nth (τ 5) x i) (z_nth (τ 5) x k) τ := by
        intro hva m2
        induction m2 with
        | zero =>
          intro k hk hne
          have hki : k = i := by omega
          subst hki
          refine qw_m32_36 (d := d + 2) ⟨fun _ => ⟨p1, ih (k + 1) (by omega) (fun j hj' => ?_)⟩, fun c => absurd rfl c⟩
          by_cases e : j = k
          · rw [e]; exact ⟨hva, hne⟩
          · exact hj j (by omega)
        | succ m2 ih2 =>
          intro k hk hne
          obtain ⟨q1, q2⟩ := pr k (by omega)
          have ek : z_cd (τ 4) (z_cd (τ 4) (z_nth (τ 5) x k)) = nm k := (hnm k).symm
          have ei : z_cd (τ 4) (z_cd (τ 4) (z_nth (τ 5) x i)) = nm i := (hnm i).symm
          refine qw_m32_36 (d := d + 2) ⟨fun c => absurd c (z_nth_ne hl (by omega) (by omega)), fun _ => ⟨fun c => absurd c (by decide), fun _ => ⟨q1, q2, p1, p2, fun c => ⟨q1, ?_⟩, fun c => ⟨q1, ?_⟩⟩⟩⟩
          · rw [ek, ei] at c
            exact i0 (fun z => z.2 k (by omega) c) m2 (k + 1) (by omega)
          · rw [ek, ei] at c
            exact ih2 (k + 1) (by omega) (fun j hj' => by
              by_cases e : j = k
              · rw [e]; exact c
              · exact hne j (by omega))
      have ei : z_cd (τ 4) (z_cd (τ 4) (z_nth (τ 5) x i)) = nm i := (hnm i).symm
      refine qw_m32_8 (d := d + 2) ⟨fun c => absurd p1.1 c, fun _ => ⟨fun c => absurd c (by decide), fun _ => ⟨p1, p2, ?_⟩⟩⟩
      rw [ei]
      by_cases hva : z_va (nm i)
      · rw [if_pos hva]
        exact i1 hva i 0 (by omega) (fun j hj' => absurd hj' (Nat.not_lt_zero j))
      · rw [if_neg hva]
        exact i0 (fun z => hva z.1) i 0 (by omega)
  exact go n 0 (by omega) (fun j hj => absurd hj (Nat.not_lt_zero j))
theorem t_m33 {d : Nat} {Q : mj_Q} {τ : mj_S} {x : Int} {n : Nat} (hl : z_len (τ 5) x n) (hn : n ≤ 400) {nm : Nat → Int} (hnm : ∀ i, nm i = z_el (τ 4) (τ 5) x i)
    (h1 : z_nth (τ 5) x n = 268435456 → n ≤ 5 → z_vs nm n → Q (some (.inl 1)) τ) (h0 : ¬ (z_nth (τ 5) x n = 268435456 ∧ n ≤ 5 ∧ z_vs nm n) → Q (some (.inl 0)) τ) : mj_B mjm_L mjm_Ms (d + 5) 33 [.inr (.inl 0), .inl x] τ Q := by
  have z0 : ¬ (z_nth (τ 5) x n = 268435456 ∧ n ≤ 5 ∧ z_vs nm n) → ∀ i, qh_m33_25 (d + 4) Q x 0 (z_nth (τ 5) x i) τ := fun hno i => by
    refine qw_m33_25 (d := d + 2) ⟨fun _ => ⟨Or.inl rfl, h0 hno⟩, fun _ => ⟨fun _ => ⟨Or.inl rfl, h0 hno⟩, fun c => absurd rfl c⟩⟩
  have pr : ∀ i, i < n → z_pr (z_nth (τ 5) x i) := fun i hi => by
    have g1 := hl.1 i hi
    omega
  have go : z_nth (τ 5) x n = 268435456 → n ≤ 5 → ∀ m i, i + m = n → (∀ j, j < i → z_va (nm j) ∧ ∀ k, k < j → ¬ nm k = nm j) → qh_m33_25 (d + 4) Q x 1 (z_nth (τ 5) x i) τ := by
    intro hnil h5 m
    induction m with
    | zero =>
      intro i hi hj
      have hin : i = n := by omega
      subst hin
      have g := hl.2
      exact qw_m33_25 (d := d + 2) ⟨fun _ => ⟨Or.inr rfl, h1 hnil h5 hj⟩, fun c => absurd c (by omega)⟩
    | succ m ih =>
      intro i hi hj
      have p1 := pr i (by omega)
      have i0 : ¬ (z_va (nm i) ∧ ∀ k, k < i → ¬ nm k = nm i) → ∀ m2 k, k + m2 = i → qh_m33_49 (d + 4) Q x 0 (z_nth (τ 5) x i) (z_nth (τ 5) x k) τ := by
        intro hno m2
        induction m2 with
        | zero =>
          intro k hk
          have hki : k = i := by omega
          subst hki
          exact qw_m33_49 (d := d + 2) ⟨fun _ => ⟨p1, z0 (fun z => hno (z.2.2 k (by omega))) (k + 1)⟩, fun c => absurd rfl c⟩
        | succ m2 ih2 =>
          intro k hk
          have q1 := pr k (by omega)
          refine qw_m33_49 (d := d + 2) ⟨fun c => absurd c (z_nth_ne hl (by omega) (by omega)), fun _ => ⟨fun _ => ⟨q1, ih2 (k + 1) (by omega)⟩, fun c => absurd rfl c⟩⟩
      have i1 : z_va (nm i) → ∀ m2 k, k + m2 = i → (∀ j, j < k → ¬ nm j = nm i) → qh_m33_49 (d + 4) Q x 1 (z_nth (τ 5) x i) (z_nth (τ 5) x k) τ := by
        intro hva m2
        induction m2 with
        | zero =>
          intro k hk hne
          have hki : k = i := by omega
          subst hki
          refine qw_m33_49 (d := d + 2) ⟨fun _ => ⟨p1, ih (k + 1) (by omega) (fun j hj' => ?_)⟩, fun c => absurd rfl c⟩
          by_cases e : j = k
          · rw [e]; exact ⟨hva, hne⟩
          · exact hj j (by omega)
        | succ m2 ih2 =>
          intro k hk hne
          have q1 := pr k (by omega)
          have ek : z_cd (τ 4) (z_nth (τ 5) x k) = nm k := (hnm k).symm
          have ei : z_cd (τ 4) (z_nth (τ 5) x i) = nm i := (hnm i).symm
          refine qw_m33_49 (d := d + 2) ⟨fun c => absurd c (z_nth_ne hl (by omega) (by omega)), fun _ => ⟨fun c => absurd c (by decide), fun _ => ⟨q1, p1, fun c => ⟨q1, ?_⟩, fun c => ⟨q1, ?_⟩⟩⟩⟩
          · rw [ek, ei] at c
            exact i0 (fun z => z.2 k (by omega) c) m2 (k + 1) (by omega)
          · rw [ek, ei] at c
            exact ih2 (k + 1) (by omega) (fun j hj' => by
              by_cases e : j = k
              · rw [e]; exact c
              · exact hne j (by omega))
      have ei : z_cd (τ 4) (z_nth (τ 5) x i) = nm i := (hnm i).symm
      refine qw_m33_25 (d := d + 2) ⟨fun c => absurd p1.1 c, fun _ => ⟨fun c => absurd c (by decide), fun _ => ⟨p1, ?_⟩⟩⟩
      rw [ei]
      by_cases hva : z_va (nm i)
      · rw [if_pos hva]
        exact i1 hva i 0 (by omega) (fun j hj' => absurd hj' (Nat.not_lt_zero j))
      · rw [if_neg hva]
        exact i0 (fun z => hva z.1) i 0 (by omega)
  refine wq_m33 (d := d + 2) (t_m7 (d := d + 2) hl hn ⟨_, rfl, fun c => ?_, fun c => t_m7 (d := d + 2) hl hn ⟨_, rfl, fun c2 => ?_, fun c2 => ?_⟩⟩)
  · refine z0 (fun z => ?_) 0
    unfold z_ln at c
    rw [if_pos z.1] at c
    omega
  · refine z0 (fun z => ?_) 0
    unfold z_ln at c2
    rw [if_pos z.1] at c2
    omega
  · have e : z_nth (τ 5) x n = 268435456 := by
      by_cases e : z_nth (τ 5) x n = 268435456
      · exact e
      · unfold z_ln at c; rw [if_neg e] at c; omega
    refine go e ?_ n 0 (by omega) (fun j hj => absurd hj (Nat.not_lt_zero j))
    unfold z_ln at c2
    rw [if_pos e] at c2
    omega
