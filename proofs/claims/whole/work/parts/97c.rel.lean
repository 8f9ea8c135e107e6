/-! what is alike in both: text, symbols, store; and what reading leaves alone -/
def z_X (σ τ : mj_S) : Prop := σ 18 = τ 1 ∧ (∀ i, 0 ≤ σ 18 i ∧ σ 18 i ≤ 65535) ∧ σ 3 3 = τ 0 2 ∧ 0 ≤ σ 3 3 ∧ σ 3 3 ≤ 300
def z_Y (σ τ : mj_S) : Prop := σ 1 2 = τ 0 6 ∧ 21 ≤ σ 1 2 ∧ σ 1 2 ≤ 60 ∧ ∀ i : Nat, (i : Int) < σ 1 2 → σ 10 i = τ 3 i ∧ 1 ≤ σ 10 i ∧ σ 10 i ≤ 8 ∧ ∀ k : Nat, (k : Int) < σ 10 i → σ 9 (8 * i + k) = τ 2 (8 * i + k) ∧ 0 ≤ σ 9 (8 * i + k) ∧ σ 9 (8 * i + k) ≤ 65535
def z_So (σ τ : mj_S) : Prop := σ 2 8 = τ 0 11 ∧ 0 ≤ σ 2 8 ∧ σ 2 8 ≤ 400 ∧ ∀ i : Nat, (i : Int) < σ 2 8 → σ 11 i = τ 4 i ∧ σ 12 i = τ 5 i ∧ (σ 11 i < 536870912 → σ 11 i < 268435456 + σ 1 2) ∧ (σ 12 i < 536870912 → σ 12 i < 268435456 + σ 1 2)
def z_At (σ τ : mj_S) : Prop := σ 3 4 = τ 0 4 ∧ 0 ≤ σ 3 4 ∧ σ 3 4 ≤ σ 3 3
def z_RD (σ τ : mj_S) : Prop := z_X σ τ ∧ z_Y σ τ ∧ z_So σ τ ∧ z_At σ τ
/-- the reference's place lies in the text -/
abbrev z_pl (τ : mj_S) : Prop := 0 ≤ τ 0 4 ∧ τ 0 4 ≤ τ 0 2
theorem z_pl_1 {τ : mj_S} {x e : Int} (h0 : 0 ≤ x) (h1 : x ≤ τ 0 2) : z_pl (mj_up (mj_up τ 0 4 x) 0 5 e) := by
  refine ⟨?_, ?_⟩
  · rw [mj_up_ne (by omega), mj_up_eq]; exact h0
  · rw [mj_up_ne (by omega), mj_up_eq, mj_up_ne (by omega), mj_up_ne (by omega)]; exact h1
theorem z_pl_fr {τ τ' : mj_S} (h : z_pl τ) (h4 : τ' 0 4 = τ 0 4) (h2 : τ' 0 2 = τ 0 2) : z_pl τ' := by
  refine ⟨?_, ?_⟩
  · rw [h4]; exact h.1
  · rw [h4, h2]; exact h.2
theorem z_pl_R {σ τ : mj_S} (h : z_RD σ τ) : z_pl τ := by
  obtain ⟨hX, _, _, t1, t2, t3⟩ := h
  have := hX.2.2.1
  exact ⟨by omega, by omega⟩
abbrev z_rc (q k : Nat) : Prop := (q = 3 ∧ k = 4) ∨ (q = 1 ∧ k = 2) ∨ q = 9 ∨ q = 10 ∨ (q = 2 ∧ k = 8) ∨ q = 11 ∨ q = 12
abbrev z_rm' (q k : Nat) : Prop := (q = 0 ∧ (k = 4 ∨ k = 5 ∨ k = 6 ∨ k = 11 ∨ k = 17)) ∨ q = 2 ∨ q = 3 ∨ q = 4 ∨ q = 5 ∨ (9 ≤ q ∧ q ≤ 12)
def z_F (l : Nat) (σ τ σ' τ' : mj_S) : Prop := (∀ q k, ¬ z_rc q k → σ' q k = σ q k) ∧ (∀ q k, ¬ z_rm' q k → τ' q k = τ q k) ∧
  (∀ i : Nat, ((i : Int) < σ 2 8 ∨ 400 ≤ i) → σ' 11 i = σ 11 i ∧ σ' 12 i = σ 12 i ∧ τ' 4 i = τ 4 i ∧ τ' 5 i = τ 5 i) ∧ (∀ j, j < l → τ' 9 j = τ 9 j ∧ τ' 10 j = τ 10 j ∧ τ' 11 j = τ 11 j ∧ τ' 12 j = τ 12 j) ∧ σ 1 2 ≤ σ' 1 2 ∧ σ 2 8 ≤ σ' 2 8 ∧ σ 3 4 ≤ σ' 3 4
theorem z_F_rf (l : Nat) (σ τ : mj_S) : z_F l σ τ σ τ := ⟨fun _ _ _ => rfl, fun _ _ _ => rfl, fun _ _ => ⟨rfl, rfl, rfl, rfl⟩, fun _ _ => ⟨rfl, rfl, rfl, rfl⟩, Int.le_refl _, Int.le_refl _, Int.le_refl _⟩
theorem z_F_tr {l l' : Nat} {σ τ σ' τ' σ2 τ2 : mj_S} (hl : l ≤ l') (h : z_F l σ τ σ' τ') (g : z_F l' σ' τ' σ2 τ2) : z_F l σ τ σ2 τ2 := by
  obtain ⟨h1, h2, h3, h4, h5, h6, h7⟩ := h
  obtain ⟨g1, g2, g3, g4, g5, g6, g7⟩ := g
  refine ⟨fun q k c => by rw [g1 q k c, h1 q k c], fun q k c => by rw [g2 q k c, h2 q k c], fun i hi => ?_, fun j hj => ?_, by omega, by omega, by omega⟩
  · obtain ⟨a1, a2, a3, a4⟩ := h3 i hi
    obtain ⟨b1, b2, b3, b4⟩ := g3 i (by omega)
    exact ⟨by rw [b1, a1], by rw [b2, a2], by rw [b3, a3], by rw [b4, a4]⟩
  · obtain ⟨a1, a2, a3, a4⟩ := h4 j hj
    obtain ⟨b1, b2, b3, b4⟩ := g4 j (by omega)
    exact ⟨by rw [b1, a1], by rw [b2, a2], by rw [b3, a3], by rw [b4, a4]⟩
theorem z_F_mo {l l' : Nat} {σ τ σ' τ' : mj_S} (hl : l ≤ l') (h : z_F l' σ τ σ' τ') : z_F l σ τ σ' τ' := z_F_tr hl (z_F_rf l σ τ) h
/-- a step on in the text, on both sides -/
theorem z_F_at {l : Nat} {σ τ : mj_S} {x y : Int} (hx : σ 3 4 ≤ x) : z_F l σ τ (mj_up σ 3 4 x) (mj_up τ 0 4 y) := by
  refine ⟨fun q k c => mj_up_ne (by omega), fun q k c => mj_up_ne (by omega), fun i _ => ⟨mj_up_ne (by omega), mj_up_ne (by omega), mj_up_ne (by omega), mj_up_ne (by omega)⟩, fun j _ => ⟨mj_up_ne (by omega), mj_up_ne (by omega), mj_up_ne (by omega), mj_up_ne (by omega)⟩, ?_, ?_, ?_⟩
  · rw [mj_up_ne (by omega)]; exact Int.le_refl _
  · rw [mj_up_ne (by omega)]; exact Int.le_refl _
  · rw [mj_up_eq]; exact hx
theorem z_RD_at {σ τ : mj_S} {x : Int} (h : z_RD σ τ) (h0 : 0 ≤ x) (h1 : x ≤ σ 3 3) : z_RD (mj_up σ 3 4 x) (mj_up τ 0 4 x) := by
  obtain ⟨hX, hY, hS, hA⟩ := h
  refine ⟨?_, ?_, ?_, ?_⟩
  · unfold z_X at *
    simp only [z_rq _ _ _ _ 18 (show 18 ≠ 3 by decide), z_rq _ _ _ _ 1 (show 1 ≠ 0 by decide)]
    rw [mj_up_ne (by omega), mj_up_ne (by omega)]
    exact hX
  · unfold z_Y at *
    simp only [z_rq _ _ _ _ 1 (show 1 ≠ 3 by decide), z_rq _ _ _ _ 9 (show 9 ≠ 3 by decide), z_rq _ _ _ _ 10 (show 10 ≠ 3 by decide), z_rq _ _ _ _ 2 (show 2 ≠ 0 by decide), z_rq _ _ _ _ 3 (show 3 ≠ 0 by decide)]
    rw [mj_up_ne (by omega)]
    exact hY
  · unfold z_So at *
    simp only [z_rq _ _ _ _ 1 (show 1 ≠ 3 by decide), z_rq _ _ _ _ 2 (show 2 ≠ 3 by decide), z_rq _ _ _ _ 11 (show 11 ≠ 3 by decide), z_rq _ _ _ _ 12 (show 12 ≠ 3 by decide), z_rq _ _ _ _ 4 (show 4 ≠ 0 by decide), z_rq _ _ _ _ 5 (show 5 ≠ 0 by decide)]
    rw [mj_up_ne (by omega)]
    exact hS
  · refine ⟨by rw [mj_up_eq, mj_up_eq], by rw [mj_up_eq]; exact h0, ?_⟩
    rw [mj_up_eq, mj_up_ne (by omega)]
    exact h1
theorem z_mt_eq {σ τ : mj_S} (hX : z_X σ τ) (hY : z_Y σ τ) {i a l : Nat} (hi : (i : Int) < σ 1 2) : z_mt (σ 9) (σ 10) (σ 18) i a l ↔ z_mt (τ 2) (τ 3) (τ 1) i a l := by
  obtain ⟨_, _, _, h⟩ := hY
  obtain ⟨h1, h2, h3, h4⟩ := h i hi
  unfold z_mt
  rw [hX.1, ← h1]
  refine ⟨fun z => ⟨z.1, fun k hk => ?_⟩, fun z => ⟨z.1, fun k hk => ?_⟩⟩
  · rw [← (h4 k (by rw [z.1]; omega)).1]; exact z.2 k hk
  · rw [(h4 k (by rw [z.1]; omega)).1]; exact z.2 k hk
/-- only the error, and what is not looked at here, changed -/
theorem z_XY_er {σ τ : mj_S} {e : Int} (hX : z_X σ τ) (hY : z_Y σ τ) (hS : z_So σ τ) : z_X σ (mj_up τ 0 5 e) ∧ z_Y σ (mj_up τ 0 5 e) ∧ z_So σ (mj_up τ 0 5 e) := by
  refine ⟨?_, ?_, ?_⟩
  · unfold z_X at *
    simp only [z_rq _ _ _ _ 1 (show 1 ≠ 0 by decide)]
    rw [mj_up_ne (by omega)]
    exact hX
  · unfold z_Y at *
    simp only [z_rq _ _ _ _ 2 (show 2 ≠ 0 by decide), z_rq _ _ _ _ 3 (show 3 ≠ 0 by decide)]
    rw [mj_up_ne (by omega)]
    exact hY
  · unfold z_So at *
    simp only [z_rq _ _ _ _ 4 (show 4 ≠ 0 by decide), z_rq _ _ _ _ 5 (show 5 ≠ 0 by decide)]
    rw [mj_up_ne (by omega)]
    exact hS
theorem z_F_er {l : Nat} {σ τ : mj_S} {e : Int} : z_F l σ τ σ (mj_up τ 0 5 e) :=
  ⟨fun _ _ _ => rfl, fun q k c => mj_up_ne (by omega), fun i _ => ⟨rfl, rfl, mj_up_ne (by omega), mj_up_ne (by omega)⟩, fun j _ => ⟨mj_up_ne (by omega), mj_up_ne (by omega), mj_up_ne (by omega), mj_up_ne (by omega)⟩, Int.le_refl _, Int.le_refl _, Int.le_refl _⟩
theorem z_sp0 {τ : mj_S} {e : Int} (h : τ 0 5 = 0) : z_sp τ e = mj_up τ 0 5 e := if_pos h
/-- a symbol more, on both sides -/
def z_nsc (σ : mj_S) (kn a l : Nat) : mj_S := mj_up (mj_up (mj_cp σ 9 18 a (8 * kn) l) 10 kn (l : Int)) 1 2 ((kn : Int) + 1)
def z_nsm (τ : mj_S) (kn a l : Nat) : mj_S := mj_up (mj_up (mj_cp τ 2 1 a (8 * kn) l) 3 kn (l : Int)) 0 6 ((kn : Int) + 1)
theorem z_cp_ne {σ : mj_S} {q1 q0 sp dp n i j : Nat} (h : i ≠ q1) : mj_cp σ q1 q0 sp dp n i j = σ i j := by rw [z_cp_q _ _ _ _ _ _ _ h]
theorem z_F_ns {m : Nat} {σ τ : mj_S} {kn a l : Nat} (hk : σ 1 2 = kn) : z_F m σ τ (z_nsc σ kn a l) (z_nsm τ kn a l) := by
  unfold z_nsc z_nsm
  have hc : ∀ q k, ¬ z_rc q k → mj_up (mj_up (mj_cp σ 9 18 a (8 * kn) l) 10 kn (l : Int)) 1 2 ((kn : Int) + 1) q k = σ q k := fun q k c => by
    rw [mj_up_ne (by omega), mj_up_ne (by omega), z_cp_ne (by omega)]
  have hm : ∀ q k, ¬ (q = 2 ∨ q = 3 ∨ (q = 0 ∧ k = 6)) → mj_up (mj_up (mj_cp τ 2 1 a (8 * kn) l) 3 kn (l : Int)) 0 6 ((kn : Int) + 1) q k = τ q k := fun q k c => by
    rw [mj_up_ne (by omega), mj_up_ne (by omega), z_cp_ne (by omega)]
  have hcc : ∀ q k, q = 2 ∨ q = 3 ∨ q = 11 ∨ q = 12 → mj_up (mj_up (mj_cp σ 9 18 a (8 * kn) l) 10 kn (l : Int)) 1 2 ((kn : Int) + 1) q k = σ q k := fun q k c => by
    rw [mj_up_ne (by omega), mj_up_ne (by omega), z_cp_ne (by omega)]
  refine ⟨hc, fun q k c => hm q k (by omega), fun i _ => ⟨hcc 11 i (by omega), hcc 12 i (by omega), hm 4 i (by omega), hm 5 i (by omega)⟩, fun j _ => ⟨hm 9 j (by omega), hm 10 j (by omega), hm 11 j (by omega), hm 12 j (by omega)⟩, ?_, ?_, ?_⟩
  · rw [mj_up_eq]; omega
  · rw [hcc 2 8 (by omega)]; exact Int.le_refl _
  · rw [hcc 3 4 (by omega)]; exact Int.le_refl _
theorem z_RD_ns {σ τ : mj_S} {kn a l : Nat} (h : z_RD σ τ) (hk : σ 1 2 = kn) (hk6 : kn < 60) (h1 : 1 ≤ l) (h8 : l ≤ 8) : z_RD (z_nsc σ kn a l) (z_nsm τ kn a l) := by
  obtain ⟨hX, hY, hS, hA⟩ := h
  unfold z_nsc z_nsm
  have hm : ∀ q k, ¬ (q = 2 ∨ q = 3 ∨ (q = 0 ∧ k = 6)) → mj_up (mj_up (mj_cp τ 2 1 a (8 * kn) l) 3 kn (l : Int)) 0 6 ((kn : Int) + 1) q k = τ q k := fun q k c => by
    rw [mj_up_ne (by omega), mj_up_ne (by omega), z_cp_ne (by omega)]
  have hcc : ∀ q k, ¬ (q = 9 ∨ q = 10 ∨ (q = 1 ∧ k = 2)) → mj_up (mj_up (mj_cp σ 9 18 a (8 * kn) l) 10 kn (l : Int)) 1 2 ((kn : Int) + 1) q k = σ q k := fun q k c => by
    rw [mj_up_ne (by omega), mj_up_ne (by omega), z_cp_ne (by omega)]
  have e12 : mj_up (mj_up (mj_cp σ 9 18 a (8 * kn) l) 10 kn (l : Int)) 1 2 ((kn : Int) + 1) 1 2 = (kn : Int) + 1 := mj_up_eq
  have e06 : mj_up (mj_up (mj_cp τ 2 1 a (8 * kn) l) 3 kn (l : Int)) 0 6 ((kn : Int) + 1) 0 6 = (kn : Int) + 1 := mj_up_eq
  have e9 : ∀ i, mj_up (mj_up (mj_cp σ 9 18 a (8 * kn) l) 10 kn (l : Int)) 1 2 ((kn : Int) + 1) 9 i = (if 8 * kn ≤ i ∧ i < 8 * kn + l then σ 18 (a + (i - 8 * kn)) else σ 9 i) := fun i => by
    rw [mj_up_ne (by omega), mj_up_ne (by omega)]; unfold mj_cp; rw [if_pos rfl]
  have e2 : ∀ i, mj_up (mj_up (mj_cp τ 2 1 a (8 * kn) l) 3 kn (l : Int)) 0 6 ((kn : Int) + 1) 2 i = (if 8 * kn ≤ i ∧ i < 8 * kn + l then τ 1 (a + (i - 8 * kn)) else τ 2 i) := fun i => by
    rw [mj_up_ne (by omega), mj_up_ne (by omega)]; unfold mj_cp; rw [if_pos rfl]
  have e10 : ∀ i, mj_up (mj_up (mj_cp σ 9 18 a (8 * kn) l) 10 kn (l : Int)) 1 2 ((kn : Int) + 1) 10 i = (if i = kn then (l : Int) else σ 10 i) := fun i => by
    rw [mj_up_ne (by omega), z_rd]
    by_cases c : i = kn
    · rw [if_pos ⟨rfl, c⟩, if_pos c]
    · rw [if_neg (fun z => c z.2), if_neg c, z_cp_ne (by decide)]
  have e3 : ∀ i, mj_up (mj_up (mj_cp τ 2 1 a (8 * kn) l) 3 kn (l : Int)) 0 6 ((kn : Int) + 1) 3 i = (if i = kn then (l : Int) else τ 3 i) := fun i => by
    rw [mj_up_ne (by omega), z_rd]
    by_cases c : i = kn
    · rw [if_pos ⟨rfl, c⟩, if_pos c]
    · rw [if_neg (fun z => c z.2), if_neg c, z_cp_ne (by decide)]
  obtain ⟨x1, x2, x3, x4, x5⟩ := hX
  obtain ⟨y1, y2, y3, y4⟩ := hY
  obtain ⟨s1, s2, s3, s4⟩ := hS
  obtain ⟨t1, t2, t3⟩ := hA
  refine ⟨⟨?_, fun i => ?_, ?_, ?_, ?_⟩, ⟨?_, ?_, ?_, fun i hi => ?_⟩, ⟨?_, ?_, ?_, fun i hi => ?_⟩, ⟨?_, ?_, ?_⟩⟩
  · funext i; rw [hcc 18 i (by omega), hm 1 i (by omega), x1]
  · rw [hcc 18 i (by omega)]; exact x2 i
  · rw [hcc 3 3 (by omega), hm 0 2 (by omega)]; exact x3
  · rw [hcc 3 3 (by omega)]; exact x4
  · rw [hcc 3 3 (by omega)]; exact x5
  · rw [e12, e06]
  · rw [e12]; omega
  · rw [e12]; omega
  · rw [e12] at hi
    rw [e10, e3]
    by_cases c : i = kn
    · rw [if_pos c, if_pos c]
      refine ⟨rfl, by omega, by omega, fun k hk' => ?_⟩
      rw [e9, e2, if_pos (by omega), if_pos (by omega), x1]
      have := x2 (a + (8 * i + k - 8 * kn))
      rw [x1] at this
      exact ⟨rfl, this⟩
    · rw [if_neg c, if_neg c]
      obtain ⟨q1, q2, q3, q4⟩ := y4 i (by omega)
      refine ⟨q1, q2, q3, fun k hk' => ?_⟩
      rw [e9, e2, if_neg (by omega), if_neg (by omega)]
      exact q4 k hk'
  · rw [hcc 2 8 (by omega), hm 0 11 (by omega)]; exact s1
  · rw [hcc 2 8 (by omega)]; exact s2
  · rw [hcc 2 8 (by omega)]; exact s3
  · rw [hcc 2 8 (by omega)] at hi
    rw [hcc 11 i (by omega), hcc 12 i (by omega), hm 4 i (by omega), hm 5 i (by omega), e12]
    obtain ⟨q1, q2, q3, q4⟩ := s4 i hi
    exact ⟨q1, q2, fun z => by have := q3 z; omega, fun z => by have := q4 z; omega⟩
  · rw [hcc 3 4 (by omega), hm 0 4 (by omega)]; exact t1
  · rw [hcc 3 4 (by omega)]; exact t2
  · rw [hcc 3 4 (by omega), hcc 3 3 (by omega)]; exact t3
