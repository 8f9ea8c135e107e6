/-! values of a run: pairs that were made have other numbers in the reference -/
/-- atoms lie below this: symbols that are known -/
def z_bw (A : Nat → Int) : Int := if A 1000 < 268435477 then 268435477 else if 536870912 < A 1000 then 536870912 else A 1000
theorem z_bw_r (A : Nat → Int) : 268435477 ≤ z_bw A ∧ z_bw A ≤ 536870912 := by
  unfold z_bw
  split
  · omega
  · split <;> omega
theorem z_bw_le (A : Nat → Int) : z_bw A ≤ 536870912 := (z_bw_r A).2
/-- x in the program is y in the reference; G: cells of the room that hold something of this run, be: their numbers there -/
def z_vl (A B : Nat → Int) (st : Nat) (be : Nat → Nat) (G : Nat → Bool) (x y : Int) : Prop := (x = y ∧ ∃ s : Nat, z_D A B (z_bw A) 0 st 12 s x) ∨ ∃ j : Nat, j < 200 ∧ G j = true ∧ x = 536871312 + (j : Int) ∧ y = 536871312 + (be j : Int)
theorem z_vl_r {A B : Nat → Int} {st : Nat} {be : Nat → Nat} {G : Nat → Bool} {x y : Int} (hb : ∀ j, G j = true → be j < 200) (h : z_vl A B st be G x y) : 0 ≤ x ∧ x < 536871512 ∧ 0 ≤ y ∧ y < 536871512 ∧ (536870912 ≤ x ↔ 536870912 ≤ y) ∧ (x < 536870912 → x = y) := by
  rcases h with ⟨e, s, hd⟩ | ⟨j, h1, h2, h3, h4⟩
  · have := z_D_r (z_bw_le A) hd
    omega
  · have := hb j h2
    omega
/-- two values are the same where their counterparts are -/
theorem z_vl_eq {A B : Nat → Int} {st : Nat} {be : Nat → Nat} {G : Nat → Bool} {x y x' y' : Int} (hi : ∀ i j, G i = true → G j = true → be i = be j → i = j) (h : z_vl A B st be G x y) (h' : z_vl A B st be G x' y') : x = x' ↔ y = y' := by
  rcases h with ⟨e, s, hd⟩ | ⟨j, h1, h2, h3, h4⟩
  · have r := z_D_r (z_bw_le A) hd
    rcases h' with ⟨e', _⟩ | ⟨j', h1', h2', h3', h4'⟩
    · omega
    · omega
  · rcases h' with ⟨e', s, hd⟩ | ⟨j', h1', h2', h3', h4'⟩
    · have r := z_D_r (z_bw_le A) hd
      omega
    · constructor
      · intro e
        have : j = j' := by omega
        rw [h4, h4', this]
      · intro e
        have := hi j j' h2 h2' (by omega)
        rw [h3, h3', this]
/-- what the cells hold; tm: when they were made -/
def z_gc (A B Ac Bc Am Bm : Nat → Int) (st : Nat) (be : Nat → Nat) (G : Nat → Bool) (tm : Nat → Nat) : Prop := ∀ j, j < 200 → G j = true → z_vl A B st be G (Ac (400 + j)) (Am (400 + be j)) ∧ z_vl A B st be G (Bc (400 + j)) (Bm (400 + be j)) ∧ ∀ i, i < 200 → G i = true → (Ac (400 + j) = 536871312 + (i : Int) ∨ Bc (400 + j) = 536871312 + (i : Int)) → tm i < tm j
/-- how deep the firsts of a value go -/
def z_rk (A B : Nat → Int) (st : Nat) (G : Nat → Bool) (tm : Nat → Nat) (x : Int) (r : Nat) : Prop := (x < 536870912) ∨ (∃ k s : Nat, k ≤ r ∧ k ≤ 12 ∧ z_D A B (z_bw A) 0 st k s x) ∨ ∃ j : Nat, j < 200 ∧ G j = true ∧ x = 536871312 + (j : Int) ∧ 13 + z_cnt (fun i => G i && decide (tm i < tm j)) 200 ≤ r
theorem z_rk_mono {A B : Nat → Int} {st : Nat} {G : Nat → Bool} {tm : Nat → Nat} {x : Int} {r r' : Nat} (hr : r ≤ r') (h : z_rk A B st G tm x r) : z_rk A B st G tm x r' := by
  rcases h with h | ⟨k, s, h1, h2, h3⟩ | ⟨j, h1, h2, h3, h4⟩
  · exact Or.inl h
  · exact Or.inr (Or.inl ⟨k, s, by omega, h2, h3⟩)
  · exact Or.inr (Or.inr ⟨j, h1, h2, h3, by omega⟩)
theorem z_rk_vl {A B : Nat → Int} {st : Nat} {be : Nat → Nat} {G : Nat → Bool} {tm : Nat → Nat} {x y : Int} (h : z_vl A B st be G x y) : z_rk A B st G tm x 213 := by
  rcases h with ⟨e, s, hd⟩ | ⟨j, h1, h2, h3, h4⟩
  · exact Or.inr (Or.inl ⟨12, s, by omega, by omega, hd⟩)
  · have := z_cnt_le (fun i => G i && decide (tm i < tm j)) 200
    exact Or.inr (Or.inr ⟨j, h1, h2, h3, by omega⟩)
/-- the store beside the room -/
def z_sa (A B Ac Bc Am Bm : Nat → Int) (st : Nat) : Prop := ∀ i, i < st → i < 400 → Ac i = A i ∧ Bc i = B i ∧ Am i = A i ∧ Bm i = B i
theorem z_cd_m {B : Nat → Int} {j : Nat} (h : j < 200) : z_cd B (536871312 + (j : Int)) = B (400 + j) := by
  have := z_cd_p (B := B) (p := 400 + j) (by omega)
  rw [show (536870912 + ((400 + j : Nat) : Int)) = 536871312 + (j : Int) by omega] at this
  exact this
/-- parts of a pair -/
theorem z_vl_p {A B Ac Bc Am Bm : Nat → Int} {st : Nat} {be : Nat → Nat} {G : Nat → Bool} {tm : Nat → Nat} (hb : ∀ j, G j = true → be j < 200) (hs : z_sa A B Ac Bc Am Bm st) (hg : z_gc A B Ac Bc Am Bm st be G tm) {x y : Int} (h : z_vl A B st be G x y) (hx : 536870912 ≤ x) :
    z_vl A B st be G (z_cd Ac x) (z_cd Am y) ∧ z_vl A B st be G (z_cd Bc x) (z_cd Bm y) ∧ ∀ r, z_rk A B st G tm x r → ∃ r', r = r' + 1 ∧ z_rk A B st G tm (z_cd Ac x) r' ∧ z_rk A B st G tm (z_cd Bc x) r := by
  rcases h with ⟨e, s, hd⟩ | ⟨j, h1, h2, h3, h4⟩
  · obtain ⟨k', p, s1, s2, g1, g2, g3, g4, g5, g6, g7⟩ := z_D_p (z_bw_le A) hd hx
    obtain ⟨a1, a2, a3, a4⟩ := hs p g3 g4
    have cA : z_cd Ac x = z_cd A x := by rw [g2, z_cd_p (by omega), z_cd_p (by omega), a1]
    have cB : z_cd Bc x = z_cd B x := by rw [g2, z_cd_p (by omega), z_cd_p (by omega), a2]
    have mA : z_cd Am y = z_cd A x := by rw [← e, g2, z_cd_p (by omega), z_cd_p (by omega), a3]
    have mB : z_cd Bm y = z_cd B x := by rw [← e, g2, z_cd_p (by omega), z_cd_p (by omega), a4]
    rw [cA, cB, mA, mB]
    refine ⟨Or.inl ⟨rfl, s1, z_D_mono (Int.le_refl _) (Nat.le_refl _) (by omega) (by omega) g6⟩, Or.inl ⟨rfl, s2, g7⟩, fun r hr => ?_⟩
    rcases hr with hr | ⟨k2, s3, r1, r2, r3⟩ | ⟨j, r1, r2, r3, r4⟩
    · omega
    · obtain ⟨k3, p3, s4, s5, q1, q2, q3, q4, q5, q6, q7⟩ := z_D_p (z_bw_le A) r3 hx
      exact ⟨r - 1, by omega, Or.inr (Or.inl ⟨k3, s4, by omega, by omega, z_D_mono (Int.le_refl _) (Nat.le_refl _) (by omega) (Nat.le_refl _) q6⟩), Or.inr (Or.inl ⟨k2, s5, r1, r2, q7⟩)⟩
    · omega
  · obtain ⟨g1, g2, g3⟩ := hg j h1 h2
    have hbj := hb j h2
    rw [h3, h4, z_cd_m h1, z_cd_m h1, z_cd_m hbj, z_cd_m hbj]
    refine ⟨g1, g2, fun r hr => ?_⟩
    have hr' : 13 + z_cnt (fun i => G i && decide (tm i < tm j)) 200 ≤ r := by
      rcases hr with hr | ⟨k2, s3, r1, r2, r3⟩ | ⟨j', r1, r2, r3, r4⟩
      · omega
      · have := z_D_r (z_bw_le A) r3; omega
      · have : j' = j := by omega
        rw [this] at r4; exact r4
    -- a part that was made was made earlier
    have part : ∀ u v : Int, z_vl A B st be G u v → (∀ i, i < 200 → G i = true → u = 536871312 + (i : Int) → tm i < tm j) → z_rk A B st G tm u (r - 1) := fun u v hu ht => by
      rcases hu with ⟨e, s, hd⟩ | ⟨i, i1, i2, i3, i4⟩
      · exact Or.inr (Or.inl ⟨12, s, by omega, by omega, hd⟩)
      · have lt := ht i i1 i2 i3
        have : z_cnt (fun t => G t && decide (tm t < tm i)) 200 < z_cnt (fun t => G t && decide (tm t < tm j)) 200 := by
          refine z_cnt_lt i1 (by simp) (by simp [i2, lt]) (fun t _ ht' => ?_)
          simp only [Bool.and_eq_true, decide_eq_true_eq] at ht' ⊢
          exact ⟨ht'.1, by omega⟩
        exact Or.inr (Or.inr ⟨i, i1, i2, i3, by omega⟩)
    exact ⟨r - 1, by omega, part _ _ g1 (fun i i1 i2 i3 => g3 i i1 i2 (Or.inl i3)), z_rk_mono (by omega) (part _ _ g2 (fun i i1 i2 i3 => g3 i i1 i2 (Or.inr i3)))⟩
/-! comparing two values, with steps -/
def z_gs (y1 y2 y3 : Int) (n n' : Int) (τ τ' : mj_S) : Prop := ∀ (d : Nat) (Q : mj_Q), qh_m36_17 (d + 2) Q y1 y2 y3 n' τ' → qh_m36_17 (d + 2) Q y1 y2 y3 n τ
set_option maxHeartbeats 2000000 in
theorem t_same {A B : Nat → Int} {st : Nat} {be : Nat → Nat} {G : Nat → Bool} {tm : Nat → Nat} (hb : ∀ j, G j = true → be j < 200) (hi : ∀ i j, G i = true → G j = true → be i = be j → i = j) {σ0 τ0 : mj_S} {d : Nat} {Q : mj_Q} {a1 a2 b1 b2 : Int} {S fuel : Nat} (hSf : S ≤ fuel) (hf : fuel ≤ 20000) (hs : z_sa A B (σ0 11) (σ0 12) (τ0 4) (τ0 5) st) (hg : z_gc A B (σ0 11) (σ0 12) (τ0 4) (τ0 5) st be G tm) (h5 : τ0 0 5 = 0) (h40 : τ0 0 40 = fuel)
    (hend : ∀ (v : Int) (σ τ : mj_S) (K : Nat), (∀ q k, ¬ (q = 16 ∨ q = 17 ∨ (q = 2 ∧ k = 11)) → σ q k = σ0 q k) → (∀ q k, ¬ (q = 8 ∨ (q = 0 ∧ k = 41)) → τ q k = τ0 q k) → σ 2 11 = K → τ 0 41 = ((S + K : Nat) : Int) → S + K ≤ fuel → (v = 0 ∨ v = 1) → (∀ (d' : Nat) (Q' : mj_Q), Q' (some (.inl (1 - v))) τ → qh_m36_17 (d' + 2) Q' b1 b2 1 2 τ0) → Q (some (.inl v)) σ)
    (hout : ∀ (σ τ : mj_S), (∀ q k, ¬ (q = 16 ∨ q = 17 ∨ (q = 2 ∧ k = 11)) → σ q k = σ0 q k) → (∀ q k, ¬ (q = 8 ∨ (q = 0 ∧ (k = 41 ∨ k = 5))) → τ q k = τ0 q k) → σ 2 11 = ((fuel - S : Nat) : Int) → τ 0 41 = fuel → τ 0 5 = 5 → (∀ (d' : Nat) (Q' : mj_Q), Q' (some (.inl 0)) τ → qh_m36_17 (d' + 2) Q' b1 b2 1 2 τ0) → Q (some (.inl 2)) σ) :
    ∀ (N : Nat) (σ τ : mj_S) (c n K : Nat), 2 * (fuel - S - K) + c = N → (∀ q k, ¬ (q = 16 ∨ q = 17 ∨ (q = 2 ∧ k = 11)) → σ q k = σ0 q k) → (∀ q k, ¬ (q = 8 ∨ (q = 0 ∧ k = 41)) → τ q k = τ0 q k) → σ 2 11 = K → τ 0 41 = ((S + K : Nat) : Int) → S + K ≤ fuel → n + c = 2 * K + 1 → c ≤ 214 → (∀ i, i < c → z_vl A B st be G (σ 16 i) (τ 8 (2 * i)) ∧ z_vl A B st be G (σ 17 i) (τ 8 (2 * i + 1)) ∧ z_rk A B st G tm (σ 16 i) (213 - i)) → (∀ (d' : Nat) (Q' : mj_Q), qh_m36_17 (d' + 2) Q' b1 b2 1 ((2 * c : Nat) : Int) τ → qh_m36_17 (d' + 2) Q' b1 b2 1 2 τ0) → qh_c32_25 (d + 1) Q a1 a2 ((fuel - S : Nat) : Int) (c : Int) (n : Int) σ := by
  intro N
  induction N using Nat.strongRecOn with
  | ind N ihN =>
    intro σ τ c n K hN fc fm h2 h41 hK hnc hc hst gs
    refine qw_c32_25 ⟨fun q => absurd q (by omega), fun _ => ⟨fun q => ?_, fun q => ?_⟩⟩
    · refine hend 0 σ τ K fc fm h2 h41 hK (Or.inl rfl) (fun d' Q' hq => gs d' Q' (qw_m36_17 ⟨fun _ => hq, fun q2 => absurd q2 (by omega)⟩))
    obtain ⟨e, rfl⟩ : ∃ e, c = e + 1 := ⟨c - 1, by omega⟩
    obtain ⟨v1, v2, v3⟩ := hst e (by omega)
    have r1 := z_vl_r hb v1
    have r2 := z_vl_r hb v2
    have eqq := z_vl_eq hi v1 v2
    rw [show ((e + 1 : Nat) : Int) + (-1) = (e : Int) by omega, Int.toNat_natCast]
    -- the reference one entry on
    have ref : ∀ (d' : Nat) (Q' : mj_Q), (¬ (536870912 ≤ σ 16 e ∧ 536870912 ≤ σ 17 e) → σ 16 e = σ 17 e → qh_m36_17 (d' + 2) Q' b1 b2 1 ((2 * e : Nat) : Int) τ) → (¬ (536870912 ≤ σ 16 e ∧ 536870912 ≤ σ 17 e) → ¬ σ 16 e = σ 17 e → Q' (some (.inl 0)) τ) →
        (536870912 ≤ σ 16 e → 536870912 ≤ σ 17 e → ¬ τ 0 41 = τ 0 40 → qh_m36_17 (d' + 2) Q' b1 b2 1 ((2 * e + 4 : Nat) : Int) (mj_up (mj_up (mj_up (mj_up (mj_up τ 0 41 (τ 0 41 + 1)) 8 (2 * e) (z_cd (τ 5) (τ 8 (2 * e)))) 8 (2 * e + 1) (z_cd (τ 5) (τ 8 (2 * e + 1)))) 8 (2 * e + 2) (z_cd (τ 4) (τ 8 (2 * e)))) 8 (2 * e + 3) (z_cd (τ 4) (τ 8 (2 * e + 1))))) →
        (536870912 ≤ σ 16 e → 536870912 ≤ σ 17 e → τ 0 41 = τ 0 40 → Q' (some (.inl 0)) (mj_up τ 0 5 5)) → qh_m36_17 (d' + 2) Q' b1 b2 1 ((2 * (e + 1) : Nat) : Int) τ := fun d' Q' k1 k2 k3 k4 => by
      have t5 : τ 0 5 = 0 := by rw [fm 0 5 (by omega)]; exact h5
      refine qw_m36_17 ⟨fun q2 => absurd q2 (by omega), fun _ => ?_⟩
      rw [show ((2 * (e + 1) : Nat) : Int) + (-2) = ((2 * e : Nat) : Int) by omega, show ((2 * e : Nat) : Int) + 1 = ((2 * e + 1 : Nat) : Int) by omega, show ((2 * e : Nat) : Int) + 2 = ((2 * e + 2 : Nat) : Int) by omega, show ((2 * e : Nat) : Int) + 3 = ((2 * e + 3 : Nat) : Int) by omega, show ((2 * e : Nat) : Int) + 4 = ((2 * e + 4 : Nat) : Int) by omega, Int.toNat_natCast, Int.toNat_natCast, Int.toNat_natCast, Int.toNat_natCast]
      refine ⟨by unfold mj_r; omega, by omega, by omega, by unfold mj_r; omega, by omega, by omega, fun p1 => ⟨fun p2 => k1 (by omega) (by omega), fun p2 => k2 (by omega) (by omega)⟩, fun p1 => ⟨fun p2 => ⟨fun p3 => k1 (by omega) (by omega), fun p3 => k2 (by omega) (by omega)⟩, fun p2 => ⟨fun p3 => absurd p3 (by decide), fun _ => ⟨by rw [h41]; unfold mj_r; omega, fun σ5 e5 => ⟨fun p3 => ?_, fun p3 => ?_⟩⟩⟩⟩⟩
      · have e5' : σ5 = mj_up τ 0 41 (τ 0 41 + 1) := by rw [e5]; exact if_neg p3
        have w5 : σ5 5 = τ 5 := by rw [e5']; exact z_rq _ _ _ _ _ (by decide)
        have w4 : σ5 4 = τ 4 := by rw [e5']; exact z_rq _ _ _ _ _ (by decide)
        refine ⟨by omega, by omega, by omega, fun σ6 e6 => ⟨by unfold mj_r; omega, by omega, by omega, by omega, fun σ7 e7 => ⟨by unfold mj_r; omega, by omega, by omega, by omega, fun σ8 e8 => ⟨by unfold mj_r; omega, by omega, by omega, by omega, fun σ9 e9 => ⟨by unfold mj_r; omega, ?_⟩⟩⟩⟩⟩
        have w65 : σ6 5 = τ 5 := by rw [e6, z_rq _ _ _ _ _ (by decide)]; exact w5
        have w74 : σ7 4 = τ 4 := by rw [e7, z_rq _ _ _ _ _ (by decide), e6, z_rq _ _ _ _ _ (by decide)]; exact w4
        have w84 : σ8 4 = τ 4 := by rw [e8, z_rq _ _ _ _ _ (by decide)]; exact w74
        have := k3 (by omega) (by omega) p3
        rw [e9, w84, e8, w74, e7, w65, e6, w5, e5']
        exact this
      · have p3' : τ 0 41 = τ 0 40 := by
          by_cases z : τ 0 41 = τ 0 40
          · exact z
          · exact absurd z p3
        have e5' : σ5 = mj_up τ 0 5 5 := by rw [e5]; unfold z_se; rw [if_pos p3', z_sp0 t5]
        rw [e5']
        exact k4 (by omega) (by omega) p3'
    have diff : ¬ (536870912 ≤ σ 16 e ∧ 536870912 ≤ σ 17 e) → ¬ σ 16 e = σ 17 e → Q (some (.inl 1)) σ := fun p1 p2 => hend 1 σ τ K fc fm h2 h41 hK (Or.inr rfl) (fun d' Q' hq => gs d' Q' (ref d' Q' (fun _ z => absurd z p2) (fun _ _ => hq) (fun z1 z2 => absurd ⟨z1, z2⟩ p1) (fun z1 z2 => absurd ⟨z1, z2⟩ p1)))
    have same : ¬ (536870912 ≤ σ 16 e ∧ 536870912 ≤ σ 17 e) → σ 16 e = σ 17 e → mj_r ((n : Int) + 1) ∧ qh_c32_25 (d + 1) Q a1 a2 ((fuel - S : Nat) : Int) (e : Int) ((n : Int) + 1) σ := fun p1 p2 => by
      refine ⟨by unfold mj_r; omega, ?_⟩
      rw [show ((n : Int) + 1) = ((n + 1 : Nat) : Int) by omega]
      exact ihN (2 * (fuel - S - K) + e) (by omega) σ τ e (n + 1) K rfl fc fm h2 h41 hK (by omega) (by omega) (fun i hi => hst i (by omega)) (fun d' Q' hq => gs d' Q' (ref d' Q' (fun _ _ => hq) (fun _ z => absurd p2 z) (fun z1 z2 => absurd ⟨z1, z2⟩ p1) (fun z1 z2 => absurd ⟨z1, z2⟩ p1)))
    refine ⟨by unfold mj_r; omega, by omega, by omega, by omega, by omega, fun p1 => ⟨fun p2 => same (by omega) p2, fun p2 => diff (by omega) p2⟩, fun p1 => ⟨fun p2 => ⟨fun p3 => same (by omega) p3, fun p3 => diff (by omega) p3⟩, fun p2 => ⟨fun p3 => ?_, fun p3 => ?_⟩⟩⟩
    · -- out of steps
      have hKf : S + K = fuel := by omega
      refine hout σ (mj_up τ 0 5 5) fc (fun q k z => by rw [mj_up_ne (by omega)]; exact fm q k (by omega)) (by omega) (by rw [mj_up_ne (by omega)]; omega) mj_up_eq (fun d' Q' hq => gs d' Q' (ref d' Q' (fun z => absurd ⟨p1, p2⟩ z) (fun z => absurd ⟨p1, p2⟩ z) (fun _ _ z => absurd (by rw [h41, fm 0 40 (by omega), h40, hKf]) z) (fun _ _ _ => hq)))
    · -- two pairs
      have sa : z_sa A B (σ 11) (σ 12) (τ 4) (τ 5) st := fun i hi hi4 => by rw [fc 11 i (by omega), fc 12 i (by omega), fm 4 i (by omega), fm 5 i (by omega)]; exact hs i hi hi4
      have gc : z_gc A B (σ 11) (σ 12) (τ 4) (τ 5) st be G tm := fun j j1 j2 => by rw [fc 11 _ (by omega), fc 12 _ (by omega), fm 4 _ (by omega), fm 5 _ (by omega)]; exact hg j j1 j2
      obtain ⟨u1, u2, u3⟩ := z_vl_p hb sa gc v1 p1
      obtain ⟨w1, w2, _⟩ := z_vl_p hb sa gc v2 p2
      obtain ⟨r', y1, y2, y3⟩ := u3 _ v3
      refine ⟨by unfold mj_r; omega, fun _ => ⟨by rw [h2]; unfold mj_r; omega, fun σ1 e1 => ⟨by omega, by omega, fun σ2 e2 => ⟨by unfold mj_r; omega, by omega, by omega, fun σ3 e3 => ⟨by unfold mj_r; omega, by unfold mj_r; omega, ?_⟩⟩⟩⟩, fun z => absurd z (by omega)⟩
      have a12 : σ1 12 = σ 12 := by rw [e1]; exact z_rq _ _ _ _ _ (by decide)
      have e2' : σ2 = mj_up (mj_up σ1 16 e (z_cd (σ 12) (σ 16 e))) 17 e (z_cd (σ 12) (σ 17 e)) := by rw [e2, a12]; unfold z_aw; rw [if_pos (by omega), Int.toNat_natCast]
      have a11 : σ2 11 = σ 11 := by rw [e2', z_rq _ _ _ _ _ (by decide), z_rq _ _ _ _ _ (by decide), e1, z_rq _ _ _ _ _ (by decide)]
      have e3' : σ3 = mj_up (mj_up σ2 16 (e + 1) (z_cd (σ 11) (σ 16 e))) 17 (e + 1) (z_cd (σ 11) (σ 17 e)) := by rw [e3, a11]; unfold z_aw; rw [if_pos (by omega), show ((e : Int) + 1).toNat = e + 1 by omega]
      have o3 : ∀ q k, ¬ ((q = 16 ∨ q = 17) ∧ (k = e ∨ k = e + 1)) → ¬ (q = 2 ∧ k = 11) → σ3 q k = σ q k := fun q k z1 z2 => by rw [e3', mj_up_ne (by omega), mj_up_ne (by omega), e2', mj_up_ne (by omega), mj_up_ne (by omega), e1, mj_up_ne (by omega)]
      have k0 : σ3 16 e = z_cd (σ 12) (σ 16 e) ∧ σ3 17 e = z_cd (σ 12) (σ 17 e) := by
        rw [e3']
        refine ⟨?_, ?_⟩
        · rw [mj_up_ne (by omega), mj_up_ne (by omega), e2', mj_up_ne (by omega), mj_up_eq]
        · rw [mj_up_ne (by omega), mj_up_ne (by omega), e2', mj_up_eq]
      have k1 : σ3 16 (e + 1) = z_cd (σ 11) (σ 16 e) ∧ σ3 17 (e + 1) = z_cd (σ 11) (σ 17 e) := by
        rw [e3']
        refine ⟨?_, mj_up_eq⟩
        rw [mj_up_ne (by omega), mj_up_eq]
      rw [show ((e : Int) + 2) = ((e + 2 : Nat) : Int) by omega, show ((n : Int) + 1) = ((n + 1 : Nat) : Int) by omega]
      refine ihN (2 * (fuel - S - (K + 1)) + (e + 2)) (by omega) σ3 (mj_up (mj_up (mj_up (mj_up (mj_up τ 0 41 (τ 0 41 + 1)) 8 (2 * e) (z_cd (τ 5) (τ 8 (2 * e)))) 8 (2 * e + 1) (z_cd (τ 5) (τ 8 (2 * e + 1)))) 8 (2 * e + 2) (z_cd (τ 4) (τ 8 (2 * e)))) 8 (2 * e + 3) (z_cd (τ 4) (τ 8 (2 * e + 1)))) (e + 2) (n + 1) (K + 1) rfl (fun q k z => ?_) (fun q k z => ?_) ?_ ?_ (by omega) (by omega) (by omega) (fun i hi' => ?_) (fun d' Q' hq => gs d' Q' (ref d' Q' (fun z => absurd ⟨p1, p2⟩ z) (fun z => absurd ⟨p1, p2⟩ z) (fun _ _ _ => hq) (fun _ _ z => absurd z ?_)))
      · rw [o3 q k (by omega) (by omega)]; exact fc q k z
      · rw [mj_up_ne (by omega), mj_up_ne (by omega), mj_up_ne (by omega), mj_up_ne (by omega), mj_up_ne (by omega)]; exact fm q k z
      · rw [e3', mj_up_ne (by omega), mj_up_ne (by omega), e2', mj_up_ne (by omega), mj_up_ne (by omega), e1, mj_up_eq]; omega
      · rw [mj_up_ne (by omega), mj_up_ne (by omega), mj_up_ne (by omega), mj_up_ne (by omega), mj_up_eq]; omega
      · by_cases c1 : i = e + 1
        · rw [c1, k1.1, k1.2, show 2 * (e + 1) = 2 * e + 2 by omega, show 2 * e + 2 + 1 = 2 * e + 3 by omega, mj_up_eq, mj_up_ne (by omega), mj_up_eq]
          exact ⟨u1, w1, z_rk_mono (by omega) y2⟩
        · by_cases c2 : i = e
          · rw [c2, k0.1, k0.2, mj_up_ne (by omega), mj_up_ne (by omega), mj_up_ne (by omega), mj_up_eq, mj_up_ne (by omega), mj_up_ne (by omega), mj_up_eq]
            exact ⟨u2, w2, y3⟩
          · rw [o3 16 i (by omega) (by omega), o3 17 i (by omega) (by omega)]
            rw [mj_up_ne (by omega), mj_up_ne (by omega), mj_up_ne (by omega), mj_up_ne (by omega), mj_up_ne (by omega), mj_up_ne (by omega), mj_up_ne (by omega), mj_up_ne (by omega), mj_up_ne (by omega), mj_up_ne (by omega)]
            exact hst i (by omega)
      · rw [h41, fm 0 40 (by omega), h40]; omega
