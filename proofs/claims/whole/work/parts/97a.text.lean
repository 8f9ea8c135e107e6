/-! the text: blanks, rows -/
theorem z_uu (σ : mj_S) (q k : Nat) (x y : Int) : mj_up (mj_up σ q k x) q k y = mj_up σ q k y := by
  funext i j
  rw [z_rd, z_rd, z_rd]
  by_cases h : i = q ∧ j = k
  · rw [if_pos h, if_pos h]
  · rw [if_neg h, if_neg h, if_neg h]
theorem z_us (σ : mj_S) (q k : Nat) : mj_up σ q k (σ q k) = σ := by
  funext i j
  rw [z_rd]
  by_cases h : i = q ∧ j = k
  · rw [if_pos h, h.1, h.2]
  · rw [if_neg h]
def z_sk (t : Nat → Int) (n : Nat) : Nat → Bool → Nat
  | 0, _ => n
  | m + 1, true => if t (n - (m + 1)) = 10 then z_sk t n m false else z_sk t n m true
  | m + 1, false => if t (n - (m + 1)) = 59 then z_sk t n m true else if t (n - (m + 1)) = 32 ∨ t (n - (m + 1)) = 10 then z_sk t n m false else n - (m + 1)
theorem z_sk_le (t : Nat → Int) (n : Nat) : ∀ (m : Nat) (b : Bool), m ≤ n → n - m ≤ z_sk t n m b ∧ z_sk t n m b ≤ n
  | 0, _, _ => ⟨Nat.le_refl _, Nat.le_refl _⟩
  | m + 1, true, h => by
    have h1 := z_sk_le t n m true (by omega)
    have h2 := z_sk_le t n m false (by omega)
    unfold z_sk
    split <;> omega
  | m + 1, false, h => by
    have h1 := z_sk_le t n m true (by omega)
    have h2 := z_sk_le t n m false (by omega)
    unfold z_sk
    repeat' split
    all_goals omega
/-- where skipping stops there is no blank -/
theorem z_sk_at (t : Nat → Int) (n : Nat) : ∀ (m : Nat) (b : Bool), m ≤ n → z_sk t n m b < n → ¬ t (z_sk t n m b) = 32 ∧ ¬ t (z_sk t n m b) = 10 ∧ ¬ t (z_sk t n m b) = 59
  | 0, _, _, h => absurd h (Nat.lt_irrefl n)
  | m + 1, true, hm, h => by
    have h1 := z_sk_at t n m true (by omega)
    have h2 := z_sk_at t n m false (by omega)
    unfold z_sk at h ⊢
    by_cases c : t (n - (m + 1)) = 10
    · rw [if_pos c] at h ⊢; exact h2 h
    · rw [if_neg c] at h ⊢; exact h1 h
  | m + 1, false, hm, h => by
    have h1 := z_sk_at t n m true (by omega)
    have h2 := z_sk_at t n m false (by omega)
    unfold z_sk at h ⊢
    by_cases c : t (n - (m + 1)) = 59
    · rw [if_pos c] at h ⊢; exact h1 h
    · rw [if_neg c] at h ⊢
      by_cases c2 : t (n - (m + 1)) = 32 ∨ t (n - (m + 1)) = 10
      · rw [if_pos c2] at h ⊢; exact h2 h
      · rw [if_neg c2]; exact ⟨fun e => c2 (Or.inl e), fun e => c2 (Or.inr e), c⟩
theorem t_c48l {d : Nat} {Q : mj_Q} {σ : mj_S} {n : Nat} (hn : σ 3 3 = n) (h3 : n ≤ 300) : ∀ (m : Nat) (b : Bool), m ≤ n → Q none (mj_up σ 3 4 (z_sk (σ 18) n m b : Nat)) → lh_c48_2 d Q (if b then 1 else 0) (mj_up σ 3 4 (n - m : Nat))
  | 0, b, hm, h => by
    refine lw_c48_2 ⟨fun c => h, fun c => ?_⟩
    simp only [z_rd] at c
    simp at c
    omega
  | m + 1, b, hm, h => by
    have e3 : mj_up σ 3 4 (n - (m + 1) : Nat) 3 3 = n := by rw [z_rd]; simpa using hn
    have e4 : mj_up σ 3 4 (n - (m + 1) : Nat) 3 4 = (n - (m + 1) : Nat) := by rw [z_rd]; simp
    have e18 : mj_up σ 3 4 (n - (m + 1) : Nat) 18 = σ 18 := z_rq _ _ _ _ _ (by decide)
    have nx : ∀ b', Q none (mj_up σ 3 4 (z_sk (σ 18) n m b' : Nat)) → ∀ σ1, σ1 = mj_up (mj_up σ 3 4 (n - (m + 1) : Nat)) 3 4 (((n - (m + 1) : Nat) : Int) + 1) → lh_c48_2 d Q (if b' then 1 else 0) σ1 := fun b' hq σ1 e => by
      have := t_c48l (d := d) hn h3 m b' (by omega) hq
      rw [e, z_uu, show (((n - (m + 1) : Nat) : Int) + 1) = ((n - m : Nat) : Int) by omega]
      exact this
    have hr : mj_r (((n - (m + 1) : Nat) : Int) + 1) := by unfold mj_r; omega
    refine lw_c48_2 ?_
    rw [e3, e4, e18]
    simp only [Int.toNat_natCast]
    refine ⟨fun c => absurd c (by omega), fun c => ⟨by omega, by omega, fun c1 => ?_, fun c1 => ?_⟩⟩
    · cases b with
      | true => exact absurd c1 (by decide)
      | false =>
        unfold z_sk at h
        refine ⟨fun c2 => ?_, fun c2 => ?_⟩
        · rw [if_neg c2] at h
          refine ⟨fun c3 => ⟨hr, nx false (by rw [if_pos (Or.inl c3)] at h; exact h)⟩, fun c3 => ⟨fun c4 => ⟨hr, nx false (by rw [if_pos (Or.inr c4)] at h; exact h)⟩, fun c4 => ?_⟩⟩
          rw [if_neg (by rintro (c | c); exact c3 c; exact c4 c)] at h
          exact h
        · rw [if_pos c2] at h
          exact ⟨hr, nx true h⟩
    · cases b with
      | false => exact absurd rfl c1
      | true =>
        unfold z_sk at h
        refine ⟨fun c2 => ?_, fun c2 => ?_⟩
        · rw [if_pos c2] at h
          exact ⟨hr, nx false h⟩
        · rw [if_neg c2] at h
          exact ⟨hr, nx true h⟩
/-- the program: skipBlanks -/
theorem t_c48 {d : Nat} {Q : mj_Q} {σ : mj_S} {n a : Nat} (hn : σ 3 3 = n) (h3 : n ≤ 300) (ha : σ 3 4 = a) (hl : a ≤ n) (h : ∀ σ', σ' = mj_up σ 3 4 (z_sk (σ 18) n (n - a) false : Nat) → Q none σ') : mj_B mjc_L mjc_Ms (d + 1) 48 [.inr (.inl 3)] σ Q := by
  refine wp_c48 ?_
  have := t_c48l (d := d) (Q := Q) hn h3 (n - a) false (by omega) (h _ rfl)
  rw [show n - (n - a) = a by omega, ← ha, z_us] at this
  exact this
theorem t_m12l {d : Nat} {Q : mj_Q} {τ : mj_S} {n : Nat} (hn : τ 0 2 = n) (h3 : n ≤ 300) (hc : ∀ i, 0 ≤ τ 1 i) : ∀ m, m ≤ n → (Q none (mj_up τ 0 4 (z_sk (τ 1) n m false : Nat)) → qh_m12_2 (d + 1) Q 1 (mj_up τ 0 4 (n - m : Nat))) ∧ (Q none (mj_up τ 0 4 (z_sk (τ 1) n m true : Nat)) → qh_m12_48 (d + 1) Q 1 (mj_up τ 0 4 (n - m : Nat)))
  | 0, hm => by
    have e2 : mj_up τ 0 4 (n - 0 : Nat) 0 2 = n := by rw [z_rd]; simpa using hn
    have e4 : mj_up τ 0 4 (n - 0 : Nat) 0 4 = n := by rw [z_rd]; simp
    have el : z_lk (mj_up τ 0 4 (n - 0 : Nat)) = -1 := by
      unfold z_lk
      rw [if_neg (by rw [e2, e4]; omega)]
    have hmain : Q none (mj_up τ 0 4 (n : Nat)) → qh_m12_2 (d + 1) Q 1 (mj_up τ 0 4 (n - 0 : Nat)) := fun h => by
      refine qw_m12_2 ⟨fun c => absurd c (by decide), fun _ => ?_⟩
      rw [el, e2, e4]
      refine ⟨by omega, by omega, fun c => absurd c (by decide), fun _ => ⟨by omega, by omega, fun c => absurd c (by decide), fun _ => ⟨by omega, by omega, fun _ => ⟨by omega, by omega, fun _ => ?_, fun c => absurd c (by decide)⟩, fun c => absurd c (by decide)⟩⟩⟩
      exact qw_m12_2 ⟨fun _ => h, fun c => absurd rfl c⟩
    refine ⟨hmain, fun h => qw_m12_48 ?_⟩
    rw [el, e2, e4]
    exact ⟨by omega, by omega, fun _ => hmain h, fun c => absurd c (by decide)⟩
  | m + 1, hm => by
    obtain ⟨ih1, ih2⟩ := t_m12l (d := d) (Q := Q) hn h3 hc m (by omega)
    have e2 : mj_up τ 0 4 (n - (m + 1) : Nat) 0 2 = n := by rw [z_rd]; simpa using hn
    have e4 : mj_up τ 0 4 (n - (m + 1) : Nat) 0 4 = (n - (m + 1) : Nat) := by rw [z_rd]; simp
    have e1 : mj_up τ 0 4 (n - (m + 1) : Nat) 1 = τ 1 := z_rq _ _ _ _ _ (by decide)
    have el : z_lk (mj_up τ 0 4 (n - (m + 1) : Nat)) = τ 1 (n - (m + 1)) := by
      unfold z_lk
      rw [if_pos (by rw [e2, e4]; omega), e4, e1]; rfl
    have hr : mj_r (((n - (m + 1) : Nat) : Int) + 1) := by unfold mj_r; omega
    have eu : mj_up (mj_up τ 0 4 (n - (m + 1) : Nat)) 0 4 (((n - (m + 1) : Nat) : Int) + 1) = mj_up τ 0 4 (n - m : Nat) := by
      rw [z_uu, show (((n - (m + 1) : Nat) : Int) + 1) = ((n - m : Nat) : Int) by omega]
    have h59 : ¬ τ 1 (n - (m + 1)) = 59 → Q none (mj_up τ 0 4 (z_sk (τ 1) n (m + 1) false : Nat)) → qh_m12_2 (d + 1) Q 1 (mj_up τ 0 4 (n - (m + 1) : Nat)) := fun c9 h => by
      unfold z_sk at h
      rw [if_neg c9] at h
      refine qw_m12_2 ⟨fun c => absurd c (by decide), fun _ => ?_⟩
      rw [el, e2, e4]
      refine ⟨by omega, by omega, fun c => ?_, fun c => ⟨by omega, by omega, fun c' => ?_, fun c' => ?_⟩⟩
      · rw [if_pos (Or.inl c)] at h
        exact ⟨by omega, by omega, fun _ => ⟨hr, fun σ1 e => by rw [e, eu]; exact ih1 h⟩, fun z => absurd z c9⟩
      · rw [if_pos (Or.inr c')] at h
        exact ⟨by omega, by omega, fun _ => ⟨hr, fun σ1 e => by rw [e, eu]; exact ih1 h⟩, fun z => absurd z c9⟩
      · rw [if_neg (by rintro (z | z); exact c z; exact c' z)] at h
        exact ⟨by omega, by omega, fun _ => ⟨by omega, by omega, fun _ => qw_m12_2 ⟨fun _ => h, fun z => absurd rfl z⟩, fun z => absurd z c9⟩, fun z => absurd z c9⟩
    have hin : Q none (mj_up τ 0 4 (z_sk (τ 1) n (m + 1) true : Nat)) → qh_m12_48 (d + 1) Q 1 (mj_up τ 0 4 (n - (m + 1) : Nat)) := fun h => by
      unfold z_sk at h
      refine qw_m12_48 ?_
      rw [el, e2, e4]
      refine ⟨by omega, by omega, fun c => absurd c (by have := hc (n - (m + 1)); omega), fun c => ⟨by omega, by omega, fun c1 => ?_, fun c1 => ?_⟩⟩
      · rw [if_pos c1] at h
        refine h59 (by omega) ?_
        unfold z_sk
        rw [if_neg (by omega), if_pos (Or.inr c1)]
        exact h
      · rw [if_neg c1] at h
        exact ⟨hr, fun σ1 e => by rw [e, eu]; exact ih2 h⟩
    refine ⟨fun h => ?_, hin⟩
    by_cases c9 : τ 1 (n - (m + 1)) = 59
    · have h' : Q none (mj_up τ 0 4 (z_sk (τ 1) n (m + 1) true : Nat)) := by
        unfold z_sk at h ⊢
        rw [if_pos c9] at h
        rw [if_neg (by omega)]
        exact h
      refine qw_m12_2 ⟨fun c => absurd c (by decide), fun _ => ?_⟩
      rw [el, e2, e4]
      refine ⟨by omega, by omega, fun c => absurd c (by omega), fun c => ⟨by omega, by omega, fun c' => absurd c' (by omega), fun c' => ⟨by omega, by omega, fun z => absurd c9 z, fun _ => ⟨by omega, by omega, fun z => absurd c9 z, fun _ => hin h'⟩⟩⟩⟩
    · exact h59 c9 h
/-- the reference: skip -/
theorem t_m12 {d : Nat} {Q : mj_Q} {τ : mj_S} {n a : Nat} (hn : τ 0 2 = n) (h3 : n ≤ 300) (ha : τ 0 4 = a) (hl : a ≤ n) (hc : ∀ i, 0 ≤ τ 1 i) (h : ∀ τ', τ' = mj_up τ 0 4 (z_sk (τ 1) n (n - a) false : Nat) → Q none τ') : mj_B mjm_L mjm_Ms (d + 2) 12 [.inr (.inl 0)] τ Q := by
  refine wq_m12 ?_
  have := (t_m12l (d := d) (Q := Q) hn h3 hc (n - a) (by omega)).1 (h _ rfl)
  rw [show n - (n - a) = a by omega, ← ha, z_us] at this
  exact this
