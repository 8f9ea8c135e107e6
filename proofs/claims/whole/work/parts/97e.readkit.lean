/-! rows for reading: what one step of both leaves alike -/
theorem z_RD_co {σ τ τ' : mj_S} (h : z_RD σ τ) (h1 : ∀ q k, 1 ≤ q → q ≤ 5 → τ' q k = τ q k) (h2 : τ' 0 2 = τ 0 2) (h4 : τ' 0 4 = τ 0 4) (h6 : τ' 0 6 = τ 0 6) (h11 : τ' 0 11 = τ 0 11) : z_RD σ τ' := by
  obtain ⟨⟨x1, x2, x3, x4, x5⟩, ⟨y1, y2, y3, y4⟩, ⟨s1, s2, s3, s4⟩, ⟨t1, t2, t3⟩⟩ := h
  refine ⟨⟨?_, x2, by rw [h2]; exact x3, x4, x5⟩, ⟨by rw [h6]; exact y1, y2, y3, fun i hi => ?_⟩, ⟨by rw [h11]; exact s1, s2, s3, fun i hi => ?_⟩, ⟨by rw [h4]; exact t1, t2, t3⟩⟩
  · funext i; rw [h1 1 i (by omega) (by omega), x1]
  · obtain ⟨q1, q2, q3, q4⟩ := y4 i hi
    refine ⟨by rw [h1 3 i (by omega) (by omega)]; exact q1, q2, q3, fun k hk => ?_⟩
    rw [h1 2 _ (by omega) (by omega)]
    exact q4 k hk
  · rw [h1 4 i (by omega) (by omega), h1 5 i (by omega) (by omega)]
    exact s4 i hi
theorem z_F_m {l : Nat} {σ0 τ0 σ τ τ' : mj_S} (h : z_F l σ0 τ0 σ τ) (g : ∀ q k, ¬ ((q = 0 ∧ (k = 17 ∨ k = 4 ∨ k = 5)) ∨ (9 ≤ q ∧ q ≤ 12 ∧ l ≤ k)) → τ' q k = τ q k) : z_F l σ0 τ0 σ τ' := by
  refine z_F_tr (Nat.le_refl _) h ⟨fun _ _ _ => rfl, fun q k c => g q k (by omega), fun i _ => ⟨rfl, rfl, g 4 i (by omega), g 5 i (by omega)⟩, fun j hj => ⟨g 9 j (by omega), g 10 j (by omega), g 11 j (by omega), g 12 j (by omega)⟩, Int.le_refl _, Int.le_refl _, Int.le_refl _⟩
/-- one pair more in the store -/
def z_s1 (σ : mj_S) (p : Nat) (a b : Int) : mj_S := mj_up (mj_up (mj_up σ 11 p a) 12 p b) 2 8 ((p : Int) + 1)
def z_s2 (τ : mj_S) (p : Nat) (a b : Int) : mj_S := mj_up (mj_up (mj_up τ 4 p a) 5 p b) 0 11 ((p : Int) + 1)
theorem z_sto_1 {σ : mj_S} {p : Nat} {a b : Int} (h : σ 2 8 = p) (hp : p < 400) : z_sto σ a b = z_s1 σ p a b := by
  unfold z_sto z_s1
  rw [if_pos (by omega), h, Int.toNat_natCast]
theorem z_sr_1 {τ : mj_S} {p : Nat} {a b : Int} (h : τ 0 11 = p) (hp : p < 400) : z_sr τ a b = z_s2 τ p a b := by
  unfold z_sr z_s2
  rw [if_neg (by omega), h, Int.toNat_natCast]
theorem z_s1_o {σ : mj_S} {p : Nat} {a b : Int} {q k : Nat} (h : ¬ ((q = 11 ∧ k = p) ∨ (q = 12 ∧ k = p) ∨ (q = 2 ∧ k = 8))) : z_s1 σ p a b q k = σ q k := by
  unfold z_s1
  rw [mj_up_ne (by omega), mj_up_ne (by omega), mj_up_ne (by omega)]
theorem z_s2_o {τ : mj_S} {p : Nat} {a b : Int} {q k : Nat} (h : ¬ ((q = 4 ∧ k = p) ∨ (q = 5 ∧ k = p) ∨ (q = 0 ∧ k = 11))) : z_s2 τ p a b q k = τ q k := by
  unfold z_s2
  rw [mj_up_ne (by omega), mj_up_ne (by omega), mj_up_ne (by omega)]
theorem z_s1_v {σ : mj_S} {p : Nat} {a b : Int} : z_s1 σ p a b 11 p = a ∧ z_s1 σ p a b 12 p = b ∧ z_s1 σ p a b 2 8 = (p : Int) + 1 := by
  unfold z_s1
  refine ⟨?_, ?_, mj_up_eq⟩
  · rw [mj_up_ne (by omega), mj_up_ne (by omega), mj_up_eq]
  · rw [mj_up_ne (by omega), mj_up_eq]
theorem z_s2_v {τ : mj_S} {p : Nat} {a b : Int} : z_s2 τ p a b 4 p = a ∧ z_s2 τ p a b 5 p = b ∧ z_s2 τ p a b 0 11 = (p : Int) + 1 := by
  unfold z_s2
  refine ⟨?_, ?_, mj_up_eq⟩
  · rw [mj_up_ne (by omega), mj_up_ne (by omega), mj_up_eq]
  · rw [mj_up_ne (by omega), mj_up_eq]
theorem z_F_s {l : Nat} {σ τ : mj_S} {p : Nat} {a b : Int} (h : σ 2 8 = p) (hp : p < 400) : z_F l σ τ (z_s1 σ p a b) (z_s2 τ p a b) := by
  refine ⟨fun q k c => z_s1_o (by omega), fun q k c => z_s2_o (by omega), fun i hi => ⟨z_s1_o (by omega), z_s1_o (by omega), z_s2_o (by omega), z_s2_o (by omega)⟩, fun j _ => ⟨z_s2_o (by omega), z_s2_o (by omega), z_s2_o (by omega), z_s2_o (by omega)⟩, ?_, ?_, ?_⟩
  · rw [z_s1_o (by omega)]; exact Int.le_refl _
  · rw [z_s1_v.2.2]; omega
  · rw [z_s1_o (by omega)]; exact Int.le_refl _
theorem z_RD_s {σ τ : mj_S} {p : Nat} {a b : Int} (R : z_RD σ τ) (h : σ 2 8 = p) (hp : p < 400) (ha : a < 536870912 → a < 268435456 + σ 1 2) (hb : b < 536870912 → b < 268435456 + σ 1 2) : z_RD (z_s1 σ p a b) (z_s2 τ p a b) := by
  obtain ⟨⟨x1, x2, x3, x4, x5⟩, ⟨y1, y2, y3, y4⟩, ⟨s1, s2, s3, s4⟩, ⟨t1, t2, t3⟩⟩ := R
  obtain ⟨v1, v2, v3⟩ := @z_s1_v σ p a b
  obtain ⟨w1, w2, w3⟩ := @z_s2_v τ p a b
  refine ⟨⟨?_, fun i => ?_, ?_, ?_, ?_⟩, ⟨?_, ?_, ?_, fun i hi => ?_⟩, ⟨?_, ?_, ?_, fun i hi => ?_⟩, ⟨?_, ?_, ?_⟩⟩
  · funext i; rw [z_s1_o (by omega), z_s2_o (by omega), x1]
  · rw [z_s1_o (by omega)]; exact x2 i
  · rw [z_s1_o (by omega), z_s2_o (by omega)]; exact x3
  · rw [z_s1_o (by omega)]; exact x4
  · rw [z_s1_o (by omega)]; exact x5
  · rw [z_s1_o (by omega), z_s2_o (by omega)]; exact y1
  · rw [z_s1_o (by omega)]; exact y2
  · rw [z_s1_o (by omega)]; exact y3
  · rw [z_s1_o (by omega)] at hi
    rw [z_s1_o (by omega), z_s2_o (by omega)]
    obtain ⟨q1, q2, q3, q4⟩ := y4 i hi
    refine ⟨q1, q2, q3, fun k hk => ?_⟩
    rw [z_s1_o (by omega), z_s2_o (by omega)]
    exact q4 k hk
  · rw [v3, w3]
  · rw [v3]; omega
  · rw [v3]; omega
  · rw [v3] at hi
    have e12 : z_s1 σ p a b 1 2 = σ 1 2 := z_s1_o (by omega)
    rw [e12]
    by_cases c : i = p
    · rw [c, v1, v2, w1, w2]
      exact ⟨rfl, rfl, ha, hb⟩
    · rw [z_s1_o (by omega), z_s1_o (by omega), z_s2_o (by omega), z_s2_o (by omega)]
      exact s4 i (by omega)
  · rw [z_s1_o (by omega), z_s2_o (by omega)]; exact t1
  · rw [z_s1_o (by omega)]; exact t2
  · rw [z_s1_o (by omega), z_s1_o (by omega)]; exact t3
/-- the rest of a pair is set -/
theorem z_RD_ew {σ τ : mj_S} {p : Nat} {y : Int} (R : z_RD σ τ) (hy : y < 536870912 → y < 268435456 + σ 1 2) : z_RD (mj_up σ 12 p y) (mj_up τ 5 p y) := by
  obtain ⟨⟨x1, x2, x3, x4, x5⟩, ⟨y1, y2, y3, y4⟩, ⟨s1, s2, s3, s4⟩, ⟨t1, t2, t3⟩⟩ := R
  refine ⟨⟨?_, fun i => ?_, ?_, ?_, ?_⟩, ⟨?_, ?_, ?_, fun i hi => ?_⟩, ⟨?_, ?_, ?_, fun i hi => ?_⟩, ⟨?_, ?_, ?_⟩⟩
  · funext i; rw [mj_up_ne (by omega), mj_up_ne (by omega), x1]
  · rw [mj_up_ne (by omega)]; exact x2 i
  · rw [mj_up_ne (by omega), mj_up_ne (by omega)]; exact x3
  · rw [mj_up_ne (by omega)]; exact x4
  · rw [mj_up_ne (by omega)]; exact x5
  · rw [mj_up_ne (by omega), mj_up_ne (by omega)]; exact y1
  · rw [mj_up_ne (by omega)]; exact y2
  · rw [mj_up_ne (by omega)]; exact y3
  · rw [mj_up_ne (by omega)] at hi
    rw [mj_up_ne (by omega), mj_up_ne (by omega)]
    obtain ⟨q1, q2, q3, q4⟩ := y4 i hi
    refine ⟨q1, q2, q3, fun k hk => ?_⟩
    rw [mj_up_ne (by omega), mj_up_ne (by omega)]
    exact q4 k hk
  · rw [mj_up_ne (by omega), mj_up_ne (by omega)]; exact s1
  · rw [mj_up_ne (by omega)]; exact s2
  · rw [mj_up_ne (by omega)]; exact s3
  · rw [mj_up_ne (by omega)] at hi
    have e12 : mj_up σ 12 p y 1 2 = σ 1 2 := mj_up_ne (by omega)
    have e11 : mj_up σ 12 p y 11 i = σ 11 i := mj_up_ne (by omega)
    have e4 : mj_up τ 5 p y 4 i = τ 4 i := mj_up_ne (by omega)
    rw [e12, e11, e4]
    obtain ⟨q1, q2, q3, q4⟩ := s4 i hi
    by_cases c : i = p
    · rw [c, mj_up_eq, mj_up_eq]
      rw [c] at q1 q3
      exact ⟨q1, rfl, q3, hy⟩
    · rw [mj_up_ne (by omega), mj_up_ne (by omega)]
      exact ⟨q1, q2, q3, q4⟩
  · rw [mj_up_ne (by omega), mj_up_ne (by omega)]; exact t1
  · rw [mj_up_ne (by omega)]; exact t2
  · rw [mj_up_ne (by omega), mj_up_ne (by omega)]; exact t3
theorem z_F_ew {l : Nat} {σ0 τ0 σ τ : mj_S} {p : Nat} {y : Int} (h : z_F l σ0 τ0 σ τ) (h0 : σ0 2 8 ≤ p) (hp : p < 400) : z_F l σ0 τ0 (mj_up σ 12 p y) (mj_up τ 5 p y) := by
  obtain ⟨h1, h2, h3, h4, h5, h6, h7⟩ := h
  refine ⟨fun q k c => by rw [mj_up_ne (by omega)]; exact h1 q k c, fun q k c => by rw [mj_up_ne (by omega)]; exact h2 q k c, fun i hi => ?_, fun j hj => ?_, ?_, ?_, ?_⟩
  · rw [mj_up_ne (by omega), mj_up_ne (by omega), mj_up_ne (by omega), mj_up_ne (by omega)]
    exact h3 i hi
  · rw [mj_up_ne (by omega), mj_up_ne (by omega), mj_up_ne (by omega), mj_up_ne (by omega)]
    exact h4 j hj
  · rw [mj_up_ne (by omega)]; exact h5
  · rw [mj_up_ne (by omega)]; exact h6
  · rw [mj_up_ne (by omega)]; exact h7
theorem z_sk_id (t : Nat → Int) (n m : Nat) (b : Bool) (hm : m ≤ n) : z_sk t n (n - z_sk t n m b) false = z_sk t n m b := by
  have h1 := z_sk_le t n m b hm
  have h2 := z_sk_at t n m b hm
  generalize z_sk t n m b = s at h1 h2
  by_cases c : s = n
  · rw [c, Nat.sub_self]; rfl
  · obtain ⟨q1, q2, q3⟩ := h2 (by omega)
    obtain ⟨k, hk⟩ : ∃ k, n - s = k + 1 := ⟨n - s - 1, by omega⟩
    rw [hk]
    unfold z_sk
    rw [show n - (k + 1) = s by omega, if_neg q3, if_neg (by rintro (z | z); exact q1 z; exact q2 z)]
/-! the reference's reading loop, one turn of it -/
theorem rh {d : Nat} {Q : mj_Q} {τ τ1 : mj_S} {n b s : Nat} (h5 : τ 0 5 = 0) (hn : τ 0 2 = n) (h3 : n ≤ 300) (hb : τ 0 4 = b) (hbn : b ≤ n) (hc : ∀ i, 0 ≤ τ 1 i) (hs : z_sk (τ 1) n (n - b) false = s) (e1 : τ1 = mj_up τ 0 4 (s : Int)) {L : Nat} (hL : τ 0 17 = L) (hL13 : L ≤ 13)
    (Hend : n ≤ s → ∀ y, qh_m20_148 (d + 10) Q y (-2) (mj_up τ1 0 5 1))
    (Hclose : s < n → τ 1 s = 41 → mj_B mjm_L mjm_Ms (d + 10) 22 [.inr (.inl 0)] τ1 (fun r τ' => ∃ v, r = some (.inl v) ∧ ∀ y, qh_m20_148 (d + 10) Q y v τ'))
    (Hd2 : s < n → ¬ τ 1 s = 41 → 0 < L → τ 12 (L - 1) = 2 → ∀ y, qh_m20_148 (d + 10) Q y (-2) (mj_up τ1 0 5 1))
    (Hdeep : (0 < L → ¬ τ 12 (L - 1) = 2) → s < n → ¬ τ 1 s = 41 → 12 < L → ¬ τ 1 s = 46 → ∀ y, qh_m20_148 (d + 10) Q y 268435456 (mj_up τ1 0 5 1))
    (Hdot : (0 < L → ¬ τ 12 (L - 1) = 2) → s < n → 12 < L → τ 1 s = 46 → mj_B mjm_L mjm_Ms (d + 10) 21 [.inr (.inl 0)] τ1 (fun r τ' => ∃ v, r = some (.inl v) ∧ ∀ y, qh_m20_148 (d + 10) Q y v τ'))
    (H40 : (0 < L → ¬ τ 12 (L - 1) = 2) → s < n → τ 1 s = 40 → L ≤ 12 → mj_B mjm_L mjm_Ms (d + 10) 19 [.inr (.inl 0), .inl 0] τ1 (fun r τ' => r = none ∧ ∀ y, qh_m20_148 (d + 10) Q y (-2) τ'))
    (H39 : (0 < L → ¬ τ 12 (L - 1) = 2) → s < n → τ 1 s = 39 → L ≤ 12 → mj_B mjm_L mjm_Ms (d + 10) 19 [.inr (.inl 0), .inl 1] τ1 (fun r τ' => r = none ∧ ∀ y, qh_m20_148 (d + 10) Q y (-2) τ'))
    (Htok : (0 < L → ¬ τ 12 (L - 1) = 2) → s < n → ¬ τ 1 s = 41 → ¬ τ 1 s = 40 → ¬ τ 1 s = 39 → L ≤ 12 → mj_B mjm_L mjm_Ms (d + 10) 16 [.inr (.inl 0)] τ1 (fun r τ' => ∃ v, r = some (.inl v) ∧ ∀ y, qh_m20_148 (d + 10) Q y v τ')) : qh_m20_5 (d + 10) Q τ := by
  have hle := z_sk_le (τ 1) n (n - b) false (by omega)
  rw [hs] at hle
  have a2 : τ1 0 2 = n := by rw [e1, mj_up_ne (by omega)]; exact hn
  have a4 : τ1 0 4 = s := by rw [e1, mj_up_eq]
  have a5 : τ1 0 5 = 0 := by rw [e1, mj_up_ne (by omega)]; exact h5
  have a17 : τ1 0 17 = L := by rw [e1, mj_up_ne (by omega)]; exact hL
  have a1 : τ1 1 = τ 1 := by rw [e1]; exact z_rq _ _ _ _ _ (by decide)
  have a12 : τ1 12 = τ 12 := by rw [e1]; exact z_rq _ _ _ _ _ (by decide)
  have lk : (s < n → z_lk τ1 = τ 1 s) ∧ (n ≤ s → z_lk τ1 = -1) := by
    unfold z_lk
    rw [a4, a2, a1, Int.toNat_natCast]
    exact ⟨fun c => if_pos (by omega), fun c => if_neg (by omega)⟩
  have mo : ∀ {k : Nat} {as : List mj_V} (y : Int), mj_B mjm_L mjm_Ms (d + 10) k as τ1 (fun r τ' => ∃ v, r = some (.inl v) ∧ ∀ y, qh_m20_148 (d + 10) Q y v τ') → mj_B mjm_L mjm_Ms (d + 10) k as τ1 (fun r τ' => ∃ v, r = some (.inl v) ∧ qh_m20_148 (d + 10) Q y v τ') := fun y h => mj_B_mono _ _ _ _ _ _ (fun r τ' ⟨v, q1, q2⟩ => ⟨v, q1, q2 y⟩) h
  have mn : ∀ {k : Nat} {as : List mj_V} (y : Int), mj_B mjm_L mjm_Ms (d + 10) k as τ1 (fun r τ' => r = none ∧ ∀ y, qh_m20_148 (d + 10) Q y (-2) τ') → mj_B mjm_L mjm_Ms (d + 10) k as τ1 (fun r τ' => r = none ∧ qh_m20_148 (d + 10) Q y (-2) τ') := fun y h => mj_B_mono _ _ _ _ _ _ (fun r τ' ⟨q1, q2⟩ => ⟨q1, q2 y⟩) h
  refine qw_m20_5 (d := d + 9) ⟨fun c => absurd h5 c, fun _ => t_m12 (d := d + 8) hn h3 hb hbn hc (fun τ' e' => ⟨rfl, ?_⟩)⟩
  have e'' : τ' = τ1 := by rw [e', e1, hs]
  rw [e'', a2, a4, a17, a12]
  refine ⟨by omega, by omega, fun c0 => ?_, fun c0 σ23 e23 => ?_⟩
  · have hsn : s < n := by
      by_cases c : s < n
      · exact c
      · rw [lk.2 (by omega)] at c0; omega
    rw [lk.1 hsn]
    have body : (0 < L → ¬ τ 12 (L - 1) = 2) → ¬ τ 1 s = 41 → ((L : Int) ≤ 12 → (τ 1 s = 40 → (¬ τ 1 s = 40 → mj_B mjm_L mjm_Ms (d + 10) 19 [.inr (.inl 0), .inl 1] τ1 (fun r σ2 => r = none ∧ qh_m20_148 (d + 10) Q (τ 1 s) (-2) σ2)) ∧ (τ 1 s = 40 → mj_B mjm_L mjm_Ms (d + 10) 19 [.inr (.inl 0), .inl 0] τ1 (fun r σ3 => r = none ∧ qh_m20_148 (d + 10) Q (τ 1 s) (-2) σ3))) ∧ (¬ τ 1 s = 40 → (¬ τ 1 s = 39 → mj_B mjm_L mjm_Ms (d + 10) 16 [.inr (.inl 0)] τ1 (fun r σ4 => ∃ v5, r = some (.inl v5) ∧ qh_m20_148 (d + 10) Q (τ 1 s) v5 σ4)) ∧ (τ 1 s = 39 → (¬ τ 1 s = 40 → mj_B mjm_L mjm_Ms (d + 10) 19 [.inr (.inl 0), .inl 1] τ1 (fun r σ6 => r = none ∧ qh_m20_148 (d + 10) Q (τ 1 s) (-2) σ6)) ∧ (τ 1 s = 40 → mj_B mjm_L mjm_Ms (d + 10) 19 [.inr (.inl 0), .inl 0] τ1 (fun r σ7 => r = none ∧ qh_m20_148 (d + 10) Q (τ 1 s) (-2) σ7))))) ∧ (12 < (L : Int) → (¬ τ 1 s = 46 → ∀ σ8, σ8 = z_sp τ1 1 → qh_m20_148 (d + 10) Q (τ 1 s) 268435456 σ8) ∧ (τ 1 s = 46 → mj_B mjm_L mjm_Ms (d + 10) 21 [.inr (.inl 0)] τ1 (fun r σ9 => ∃ v10, r = some (.inl v10) ∧ qh_m20_148 (d + 10) Q (τ 1 s) v10 σ9))) := fun hd h41 => by
      refine ⟨fun c => ⟨fun c1 => ⟨fun z => absurd c1 z, fun _ => mn _ (H40 hd hsn c1 (by omega))⟩, fun c1 => ⟨fun c2 => mo _ (Htok hd hsn h41 c1 c2 (by omega)), fun c2 => ⟨fun _ => mn _ (H39 hd hsn c2 (by omega)), fun z => absurd z c1⟩⟩⟩, fun c => ⟨fun c1 σ8 e8 => ?_, fun c1 => mo _ (Hdot hd hsn (by omega) c1)⟩⟩
      rw [e8, z_sp0 a5]
      exact Hdeep hd hsn h41 (by omega) c1 _
    refine ⟨fun h41 => ⟨fun cz => body (fun z => absurd z (by omega)) h41, fun c => ⟨by unfold mj_r; omega, by omega, by omega, fun cz => body (fun _ => by rw [show ((L : Int) - 1).toNat = L - 1 by omega] at cz; exact cz) h41, fun c2 σ20 e20 => ?_⟩⟩, fun h41 => mo _ (Hclose hsn h41)⟩
    rw [show ((L : Int) - 1).toNat = L - 1 by omega] at c2
    rw [e20, z_sp0 a5]
    exact Hd2 hsn h41 (by omega) c2 _
  · have hsn : n ≤ s := by
      by_cases c : s < n
      · rw [lk.1 c] at c0; have := hc s; omega
      · omega
    rw [e23, z_sp0 a5]
    exact Hend hsn _
/-- back to the loop's head -/
theorem r_neg {d : Nat} {Q : mj_Q} {τ : mj_S} (h : qh_m20_5 (d + 10) Q τ) (y : Int) : qh_m20_148 (d + 10) Q y (-2) τ :=
  qw_m20_148 (d := d + 9) ⟨fun _ => qw_m20_158 (d := d + 9) ⟨fun _ => h, fun c => absurd c (by decide)⟩, fun c => absurd c (by decide)⟩
theorem r_er {d : Nat} {Q : mj_Q} {τ : mj_S} {v : Int} (h5 : ¬ τ 0 5 = 0) (h : qh_m20_5 (d + 10) Q τ) (y : Int) : qh_m20_158 (d + 10) Q y v τ :=
  qw_m20_158 (d := d + 9) ⟨fun _ => h, fun _ => ⟨fun _ => h, fun c => absurd c h5⟩⟩
theorem r_148 {d : Nat} {Q : mj_Q} {τ : mj_S} {v y : Int} (hv : 0 ≤ v) (h : qh_m20_158 (d + 10) Q y v τ) : qh_m20_148 (d + 10) Q y v τ :=
  qw_m20_148 (d := d + 9) ⟨fun _ => h, fun c => absurd c (by omega)⟩
