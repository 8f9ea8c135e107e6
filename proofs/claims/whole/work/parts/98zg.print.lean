/-! a value is printed by both -/
theorem z_pcs_a (σ : mj_S) (l : List Int) (c : Int) : z_pcs σ (l ++ [c]) = z_pp (z_pcs σ l) c := by
  unfold z_pcs
  rw [List.foldl_append]
  rfl
theorem z_pms_a (τ : mj_S) (l : List Int) (c : Int) : z_pms τ (l ++ [c]) = z_pt (z_pms τ l) c := by
  unfold z_pms
  rw [List.foldl_append]
  rfl
theorem z_pa_1 {σ : mj_S} {c : Nat} {v : Int} (h : σ 8 5 = c) (hc : c < 602) : z_pa σ v = mj_up (mj_up σ 34 c v) 8 5 ((c : Int) + 1) := by
  unfold z_pa
  rw [h, if_pos (by omega), Int.toNat_natCast]
/-- rests of lists that wait -/
def z_wt (A B : Nat → Int) (st : Nat) (be : Nat → Nat) (G : Nat → Bool) (σ τ : mj_S) (c : Nat) : Prop := ∀ i, i < c → ∃ X, σ 34 i = -1 - X ∧ z_vl A B st be G X (τ 8 i)
theorem z_wt_fr {A B : Nat → Int} {st : Nat} {be : Nat → Nat} {G : Nat → Bool} {σ τ σ' τ' : mj_S} {c : Nat} (h : z_wt A B st be G σ τ c) (hσ : ∀ i, i < c → σ' 34 i = σ 34 i) (hτ : ∀ i, i < c → τ' 8 i = τ 8 i) : z_wt A B st be G σ' τ' c := fun i hi => by
  obtain ⟨X, h1, h2⟩ := h i hi
  exact ⟨X, by rw [hσ i hi]; exact h1, by rw [hτ i hi]; exact h2⟩
abbrev z_fc (σ0 σ : mj_S) : Prop := ∀ q k, ¬ (q = 33 ∨ q = 34 ∨ (q = 8 ∧ (k = 4 ∨ k = 5))) → σ q k = σ0 q k
abbrev z_fm (τ0 τ : mj_S) : Prop := ∀ q k, ¬ (q = 24 ∨ q = 8 ∨ (q = 0 ∧ k = 44)) → τ q k = τ0 q k
/-- what the program does with a pair -/
theorem c_parts {σ : mj_S} {X : Int} {c : Nat} (hX : 536870912 ≤ X ∧ X < 536871512) (hcd : 0 ≤ z_cd (σ 12) X ∧ z_cd (σ 12) X < 536871512) (h5 : σ 8 5 = c) (hc : c + 1 < 602) {d : Nat} {Q : mj_Q}
    (hq : Q none (mj_up (mj_up (mj_up (mj_up σ 34 c (-1 - z_cd (σ 12) X)) 8 5 ((c : Int) + 1)) 34 (c + 1) (z_cd (σ 11) X)) 8 5 ((c : Int) + 2))) : mj_B mjc_L mjc_Ms (d + 2) 119 [.inr (.inl 8), .inl X] σ Q := by
  refine wq_c119 ⟨by omega, by unfold mj_r; omega, by omega, fun σ1 e1 => ?_⟩
  rw [z_pa_1 h5 (by omega)] at e1
  have i5 : σ1 8 5 = ((c + 1 : Nat) : Int) := by rw [e1, mj_up_eq]; omega
  have i11 : σ1 11 = σ 11 := by rw [e1]; funext k; rw [mj_up_ne (by omega), mj_up_ne (by omega)]
  refine ⟨by omega, by omega, fun σ2 e2 => ?_⟩
  rw [z_pa_1 i5 (by omega), i11] at e2
  rw [e2, e1, show ((c + 1 : Nat) : Int) + 1 = (c : Int) + 2 by omega]
  exact hq
theorem pr_loop {A B : Nat → Int} {st : Nat} {be : Nat → Nat} {G : Nat → Bool} {tm : Nat → Nat} (hb : ∀ j, G j = true → be j < 200) {σ0 τ0 : mj_S} (hs : z_sa A B (σ0 11) (σ0 12) (τ0 4) (τ0 5) st) (hg : z_gc A B (σ0 11) (σ0 12) (τ0 4) (τ0 5) st be G tm) (hY : z_Y σ0 τ0) (hw : z_bw A ≤ 268435456 + σ0 1 2) {d : Nat} {Q : mj_Q} {y : Int} {GO : Nat → mj_Q → Prop}
    (hend : ∀ σ' τ' : mj_S, z_P σ' τ' → z_fc σ0 σ' → z_fm τ0 τ' → (∀ (d' : Nat) (R : mj_Q), R none τ' → GO d' R) → Q none (z_pp σ' 10)) :
    ∀ (N : Nat) (σ τ : mj_S) (c n : Nat), σ 8 4 + (N : Int) = 400 → (c : Int) ≤ σ 8 4 → (n : Int) ≤ σ 8 4 → z_P σ τ → z_fc σ0 σ → z_fm τ0 τ → z_wt A B st be G σ τ c →
      (σ 8 5 = c → (∀ (d' : Nat) (R : mj_Q), ∃ y1, qh_m57_11 (d' + 4) R y1 (c : Int) (if c = 0 then 0 else 1) τ → GO d' R) → qh_c115_12 (d + 4) Q y (n : Int) σ) ∧
      (∀ X Y : Int, z_vl A B st be G X Y → σ 8 5 = (c : Int) + 1 → σ 34 c = X → (∀ (d' : Nat) (R : mj_Q), ∃ y1 y2 y3 y4 y5, qh_m58_5 (d' + 3) (fun r σ1 => ∃ v2, r = some (.inl v2) ∧ qh_m57_136 (d' + 4) R y1 v2 y3 y4 σ1) y2 y5 (c : Int) Y τ → GO d' R) → qh_c115_12 (d + 4) Q y (n : Int) σ) := by
  have atoms : ∀ {X Y : Int}, z_vl A B st be G X Y → X < 536870912 → X = Y ∧ 0 ≤ X ∧ X < 268435456 + σ0 1 2 := by
    intro X Y h hX
    rcases h with ⟨e, s, hd⟩ | ⟨j, j1, j2, j3, j4⟩
    · have := z_D_a hd hX
      exact ⟨e, by omega, by omega⟩
    · omega
  intro N
  induction N using Nat.strongRecOn with
  | ind N ih =>
  intro σ τ c n hN hc hn hP fc fm wt
  have hsP := hP
  obtain ⟨p1, p2, p3, p4⟩ := hsP
  have sa : z_sa A B (σ 11) (σ 12) (τ 4) (τ 5) st := fun i i1 i2 => by rw [fc 11 i (by omega), fc 12 i (by omega), fm 4 i (by omega), fm 5 i (by omega)]; exact hs i i1 i2
  have gc : z_gc A B (σ 11) (σ 12) (τ 4) (τ 5) st be G tm := fun j j1 j2 => by rw [fc 11 _ (by omega), fc 12 _ (by omega), fm 4 _ (by omega), fm 5 _ (by omega)]; exact hg j j1 j2
  by_cases h400 : σ 8 4 = 400
  · -- the paper is full
    have refE : ∀ (d' : Nat) (R : mj_Q) (y1 v b : Int), R none τ → qh_m57_11 (d' + 4) R y1 v b τ := fun d' R y1 v b hR => qw_m57_11 (d := d' + 3) ⟨fun _ => hR, fun _ => ⟨fun _ => hR, fun z => absurd z (by omega)⟩⟩
    have refE2 : ∀ (d' : Nat) (R : mj_Q) (y1 v b x : Int), R none τ → qh_m57_136 (d' + 4) R y1 v b x τ := fun d' R y1 v b x hR => qw_m57_136 (d := d' + 3) ⟨fun _ => refE d' R y1 v 0 hR, fun _ => refE d' R y1 v 1 hR⟩
    have clE : (∀ (d' : Nat) (R : mj_Q), R none τ → GO d' R) → qh_c115_12 (d + 4) Q y (n : Int) σ := fun go =>
      qw_c115_12 (d := d + 3) ⟨fun z => absurd z (by omega), fun _ => ⟨fun _ => ⟨p2, by constructor <;> decide, fun σ2 e2 => by rw [e2]; exact hend σ τ hP fc fm go⟩, fun _ => ⟨fun _ => ⟨p2, by constructor <;> decide, fun σ2 e2 => by rw [e2]; exact hend σ τ hP fc fm go⟩, fun z => absurd z (by omega)⟩⟩⟩
    refine ⟨fun _ go => clE (fun d' R hR => ?_), fun X Y hv _ _ go => clE (fun d' R hR => ?_)⟩
    · obtain ⟨y1, g⟩ := go d' R
      exact g (refE d' R _ _ _ hR)
    · obtain ⟨y1, y2, y3, y4, y5, g⟩ := go d' R
      have r := z_vl_r hb hv
      by_cases hX : 536870912 ≤ Y
      · exact g (qw_m58_5 (d := d' + 2) ⟨fun z => absurd hX z, fun _ => ⟨fun _ => ⟨fun _ => ⟨_, rfl, refE2 d' R _ _ _ _ hR⟩, fun z => absurd hX z⟩, fun z => absurd z (by omega)⟩⟩)
      · obtain ⟨a1, a2, a3⟩ := atoms hv (by omega)
        obtain ⟨l, l1, l2, l3, l4⟩ := t_atom hY a2 a3
        refine g (qw_m58_5 (d := d' + 2) ⟨fun _ => ⟨fun z => absurd z hX, fun _ => ?_⟩, fun z => absurd z hX⟩)
        rw [← a1]
        refine l4 d' _ τ (fun q k z => fm q k (by omega)) (by omega) (by omega) ⟨rfl, _, rfl, ?_⟩
        rw [z_pms_f (by omega)]
        exact refE2 d' R _ _ _ _ hR
  · have hlt : σ 8 4 < 400 := by omega
    -- a step on
    have next : ∀ (l : List Int) (σ4 σ' τ' : mj_S) (c' : Nat), ¬ l = [] → (∀ x, x ∈ l → 0 ≤ x ∧ x ≤ 65535) → (∀ q k, ¬ (q = 34 ∨ (q = 8 ∧ k = 5)) → σ4 q k = σ q k) → (∀ q k, ¬ (q = 34 ∨ (q = 8 ∧ k = 5)) → σ' q k = z_pcs σ4 l q k) → (∀ q k, ¬ q = 8 → τ' q k = z_pms τ l q k) → (c' : Int) ≤ σ 8 4 + 1 → z_wt A B st be G σ' τ' c' →
        (σ' 8 5 = c' → (∀ (d' : Nat) (R : mj_Q), ∃ y1, qh_m57_11 (d' + 4) R y1 (c' : Int) (if c' = 0 then 0 else 1) τ' → GO d' R) → mj_r ((n : Int) + 1) ∧ qh_c115_12 (d + 4) Q y ((n : Int) + 1) σ') ∧
        (∀ X Y : Int, z_vl A B st be G X Y → σ' 8 5 = (c' : Int) + 1 → σ' 34 c' = X → (∀ (d' : Nat) (R : mj_Q), ∃ y1 y2 y3 y4 y5, qh_m58_5 (d' + 3) (fun r σ1 => ∃ v2, r = some (.inl v2) ∧ qh_m57_136 (d' + 4) R y1 v2 y3 y4 σ1) y2 y5 (c' : Int) Y τ' → GO d' R) → mj_r ((n : Int) + 1) ∧ qh_c115_12 (d + 4) Q y ((n : Int) + 1) σ') := by
      intro l σ4 σ' τ' c' ln lr e4 es et hc' wt'
      have hP4 : z_P σ4 τ := ⟨by rw [e4 8 4 (by omega)]; exact p1, by rw [e4 8 4 (by omega)]; exact p2, by rw [e4 8 4 (by omega)]; exact p3, fun i hi => by rw [e4 33 i (by omega)]; exact p4 i (by rw [e4 8 4 (by omega)] at hi; exact hi)⟩
      obtain ⟨b1, b2, b3⟩ := z_P_l (l := l) hP4 lr
      have b4 := b3 ln (by rw [e4 8 4 (by omega)]; exact hlt)
      rw [e4 8 4 (by omega)] at b4
      obtain ⟨k1, k2, k3, k4⟩ := b1
      have e84 : σ' 8 4 = z_pcs σ4 l 8 4 := es 8 4 (by omega)
      have hP' : z_P σ' τ' := ⟨by rw [e84, et 0 44 (by omega)]; exact k1, by rw [e84]; exact k2, by rw [e84]; exact k3, fun i hi => by rw [es 33 i (by omega), et 24 i (by omega)]; exact k4 i (by rw [← e84]; exact hi)⟩
      have h4' : σ' 8 4 ≤ 400 := hP'.2.2.1
      obtain ⟨N', hN'⟩ : ∃ N' : Nat, σ' 8 4 + (N' : Int) = 400 := ⟨(400 - σ' 8 4).toNat, by omega⟩
      have res := ih N' (by omega) σ' τ' c' (n + 1) hN' (by omega) (by omega) hP' (fun q k z => by rw [es q k (by omega), z_pcs_o (by omega), e4 q k (by omega)]; exact fc q k z) (fun q k z => by rw [et q k (by omega), z_pms_o (by omega)]; exact fm q k z) wt'
      rw [show ((n : Int) + 1) = ((n + 1 : Nat) : Int) by omega]
      exact ⟨fun a b => ⟨by unfold mj_r; omega, res.1 a b⟩, fun X Y a b c0 d0 => ⟨by unfold mj_r; omega, res.2 X Y a b c0 d0⟩⟩
    have b136 : ∀ (d' : Nat) (R : mj_Q) (y1 y3 y4 : Int) (v : Nat) (τ' : mj_S), qh_m57_11 (d' + 4) R y1 (v : Int) (if v = 0 then 0 else 1) τ' → qh_m57_136 (d' + 4) R y1 (v : Int) y3 y4 τ' := fun d' R y1 y3 y4 v τ' h =>
      qw_m57_136 (d := d' + 3) ⟨fun z => by rw [if_pos (by omega)] at h; exact h, fun z => by rw [if_neg (by omega)] at h; exact h⟩
    refine ⟨fun h5 go => ?_, fun X Y hv h5 h34 go => ?_⟩
    · cases c with
      | zero =>
        refine qw_c115_12 (d := d + 3) ⟨fun z => absurd z (by omega), fun _ => ⟨fun _ => ⟨p2, by constructor <;> decide, fun σ2 e2 => ?_⟩, fun z => absurd z (by omega)⟩⟩
        rw [e2]
        refine hend σ τ hP fc fm (fun d' R hR => ?_)
        obtain ⟨y1, g⟩ := go d' R
        exact g (qw_m57_11 (d := d' + 3) ⟨fun _ => hR, fun z => absurd z (by omega)⟩)
      | succ e =>
        obtain ⟨X, x1, x2⟩ := wt e (by omega)
        have r := z_vl_r hb x2
        have go' : ∀ (d' : Nat) (R : mj_Q), ∃ y1, qh_m57_11 (d' + 4) R y1 ((e + 1 : Nat) : Int) 1 τ → GO d' R := fun d' R => by
          obtain ⟨y1, g⟩ := go d' R
          rw [if_neg (by omega)] at g
          exact ⟨y1, g⟩
        refine qw_c115_12 (d := d + 3) ⟨fun z => absurd z (by omega), fun _ => ⟨fun z => absurd z (by omega), fun _ => ⟨fun z => absurd z (by omega), fun _ => ⟨by rw [h5]; unfold mj_r; omega, fun σ4 e4 => ?_⟩⟩⟩⟩
        rw [h5, show ((e + 1 : Nat) : Int) - 1 = (e : Int) by omega] at e4
        have o4 : ∀ q k, ¬ (q = 34 ∨ (q = 8 ∧ k = 5)) → σ4 q k = σ q k := fun q k z => by rw [e4, mj_up_ne (by omega)]
        have o34 : ∀ k, σ4 34 k = σ 34 k := fun k => by rw [e4, mj_up_ne (by omega)]
        have i5 : σ4 8 5 = e := by rw [e4, mj_up_eq]
        rw [i5, Int.toNat_natCast, o34, x1, show -1 - (-1 - X) = X by omega]
        refine ⟨by omega, by omega, fun _ => ⟨by unfold mj_r; omega, ?_⟩, fun z => absurd z (by omega)⟩
        have h84 : 0 ≤ σ4 8 4 := by rw [o4 8 4 (by omega)]; exact p2
        have wt4 : z_wt A B st be G σ τ e := fun i hi => wt i (by omega)
        by_cases hX : 536870912 ≤ X
        · -- a pair: goes on
          have hYp : z_pr (τ 8 e) := by omega
          obtain ⟨u1, u2, _⟩ := z_vl_p hb sa gc x2 hX
          have ru := z_vl_r hb u2
          have o12 : z_pp σ4 32 12 = σ 12 := by funext k; rw [z_pp_o (by omega), o4 12 k (by omega)]
          have o11 : z_pp σ4 32 11 = σ 11 := by funext k; rw [z_pp_o (by omega), o4 11 k (by omega)]
          have j5 : z_pp σ4 32 8 5 = e := by rw [z_pp_o (by omega)]; exact i5
          refine wq_c118 (d := d + 2) ⟨fun z => absurd hX z, fun _ => ⟨h84, by constructor <;> decide, fun σ7 e7 => ?_⟩⟩
          rw [e7]
          refine c_parts (d := d + 1) (c := e) (by omega) (by rw [o12]; omega) j5 (by omega) ⟨rfl, ⟨rfl, ?_⟩⟩
          rw [o12, o11]
          have tr : ∀ (d' : Nat) (R : mj_Q) (y1 : Int), qh_m58_5 (d' + 3) (fun r σ1 => ∃ v2, r = some (.inl v2) ∧ qh_m57_136 (d' + 4) R y1 v2 1 (τ 8 e) σ1) (z_cd (τ 4) (τ 8 e)) ((e + 1 : Nat) : Int) ((e + 1 : Nat) : Int) (z_cd (τ 4) (τ 8 e)) (mj_up (z_pt τ 32) 8 e (z_cd (τ 5) (τ 8 e))) → qh_m57_11 (d' + 4) R y1 ((e + 1 : Nat) : Int) 1 τ := fun d' R y1 h => by
            refine qw_m57_11 (d := d' + 3) ⟨fun z => absurd z (by omega), fun _ => ⟨fun z => absurd z (by omega), fun _ => ?_⟩⟩
            rw [show ((e + 1 : Nat) : Int) + (-1) = (e : Int) by omega, Int.toNat_natCast]
            refine ⟨by unfold mj_r; omega, by omega, by omega, fun z => absurd z (by decide), fun _ => ⟨fun z => absurd (by omega) z, fun _ => ⟨by omega, by omega, fun σ17 e17 => ⟨hYp, by omega, by omega, fun σ18 e18 => ?_⟩⟩⟩⟩
            have a5 : σ17 5 = τ 5 := by rw [e17]; funext k; exact z_pt_o (by omega)
            have a4 : σ18 4 = τ 4 := by rw [e18, e17]; funext k; rw [mj_up_ne (by omega), z_pt_o (by omega)]
            rw [a4, show (e : Int) + 1 = ((e + 1 : Nat) : Int) by omega]
            refine ⟨by unfold mj_r; omega, hYp, wq_m58 (d := d' + 2) ?_⟩
            rw [e18, a5, e17]
            exact h
          refine (next [32] σ4 (mj_up (mj_up (mj_up (mj_up (z_pp σ4 32) 34 e (-1 - z_cd (σ 12) X)) 8 5 ((e : Int) + 1)) 34 (e + 1) (z_cd (σ 11) X)) 8 5 ((e : Int) + 2)) (mj_up (z_pt τ 32) 8 e (z_cd (τ 5) (τ 8 e))) (e + 1) (by simp) (fun x hx => by simp at hx; omega) o4 (fun q k z => ?_) (fun q k z => ?_) (by omega) ?_).2 (z_cd (σ 11) X) (z_cd (τ 4) (τ 8 e)) u1 ?_ ?_ (fun d' R => ?_)
          · rw [mj_up_ne (by omega), mj_up_ne (by omega), mj_up_ne (by omega), mj_up_ne (by omega)]; rfl
          · rw [mj_up_ne (by omega)]; rfl
          · intro i hi
            by_cases ei : i = e
            · subst ei
              exact ⟨z_cd (σ 12) X, by rw [mj_up_ne (by omega), mj_up_ne (by omega), mj_up_ne (by omega), mj_up_eq], by rw [mj_up_eq]; exact u2⟩
            · obtain ⟨X', q1, q2⟩ := wt4 i (by omega)
              exact ⟨X', by rw [mj_up_ne (by omega), mj_up_ne (by omega), mj_up_ne (by omega), mj_up_ne (by omega), z_pp_o (by omega), o34]; exact q1, by rw [mj_up_ne (by omega), z_pt_o (by omega)]; exact q2⟩
          · rw [mj_up_eq]; omega
          · rw [mj_up_ne (by omega), mj_up_eq]
          · obtain ⟨y1, g⟩ := go' d' R
            exact ⟨y1, _, 1, τ 8 e, _, fun h => g (tr d' R y1 h)⟩
        · -- the end of a list
          obtain ⟨a1, a2, a3⟩ := atoms x2 (by omega)
          by_cases hnil : X = 268435456
          · refine wq_c118 (d := d + 2) ⟨fun _ => ⟨fun _ => ⟨h84, by constructor <;> decide, fun σ1 e1 => ⟨rfl, ?_⟩⟩, fun z => absurd hnil z⟩, fun z => absurd z hX⟩
            have tr : ∀ (d' : Nat) (R : mj_Q) (y1 : Int), qh_m57_11 (d' + 4) R y1 (e : Int) (if e = 0 then 0 else 1) (z_pt τ 41) → qh_m57_11 (d' + 4) R y1 ((e + 1 : Nat) : Int) 1 τ := fun d' R y1 h => by
              refine qw_m57_11 (d := d' + 3) ⟨fun z => absurd z (by omega), fun _ => ⟨fun z => absurd z (by omega), fun _ => ?_⟩⟩
              rw [show ((e + 1 : Nat) : Int) + (-1) = (e : Int) by omega, Int.toNat_natCast]
              refine ⟨by unfold mj_r; omega, by omega, by omega, fun z => absurd z (by decide), fun _ => ⟨fun _ => ⟨fun z => absurd z (by decide), fun _ => ⟨fun _ => ⟨by omega, by omega, fun σ11 e11 => ?_⟩, fun z => absurd (by omega) z⟩⟩, fun z => absurd z (by omega)⟩⟩
              rw [e11]
              exact b136 d' R _ _ _ e _ h
            rw [e1]
            refine (next [41] σ4 (z_pp σ4 41) (z_pt τ 41) e (by simp) (fun x hx => by simp at hx; omega) o4 (fun _ _ _ => rfl) (fun _ _ _ => rfl) (by omega) (z_wt_fr wt4 (fun i _ => by rw [z_pp_o (by omega)]; exact o34 i) (fun i _ => z_pt_o (by omega)))).1 (by rw [z_pp_o (by omega)]; exact i5) (fun d' R => ?_)
            obtain ⟨y1, g⟩ := go' d' R
            exact ⟨y1, fun h => g (tr d' R y1 h)⟩
          · obtain ⟨l, l1, l2, l3, l4⟩ := t_atom hY a2 a3
            have ec : z_pp (z_pcs (z_pp (z_pp (z_pp σ4 32) 46) 32) l) 41 = z_pcs σ4 (32 :: 46 :: 32 :: (l ++ [41])) := by
              show _ = z_pcs (z_pp (z_pp (z_pp σ4 32) 46) 32) (l ++ [41])
              rw [z_pcs_a]
            have et : z_pt (z_pms (z_pt (z_pt (z_pt τ 32) 46) 32) l) 41 = z_pms τ (32 :: 46 :: 32 :: (l ++ [41])) := by
              show _ = z_pms (z_pt (z_pt (z_pt τ 32) 46) 32) (l ++ [41])
              rw [z_pms_a]
            have ge : ∀ (σ : mj_S) (c : Int), 0 ≤ σ 8 4 → 0 ≤ z_pp σ c 8 4 := fun σ c h => by
              unfold z_pp
              split
              · rw [mj_up_eq]; omega
              · exact h
            have gm : ∀ (τ : mj_S) (c : Int), 0 ≤ τ 0 44 ∧ τ 0 44 ≤ 400 → 0 ≤ z_pt τ c 0 44 ∧ z_pt τ c 0 44 ≤ 400 := fun τ c h => by
              unfold z_pt
              split
              · exact h
              · rw [mj_up_eq]; omega
            have geL : ∀ (l : List Int) (σ : mj_S), 0 ≤ σ 8 4 → 0 ≤ z_pcs σ l 8 4 := by
              intro l
              induction l with
              | nil => exact fun σ h => h
              | cons c l ihl => exact fun σ h => ihl (z_pp σ c) (ge σ c h)
            have gmL : ∀ (l : List Int) (τ : mj_S), 0 ≤ τ 0 44 ∧ τ 0 44 ≤ 400 → 0 ≤ z_pms τ l 0 44 ∧ z_pms τ l 0 44 ≤ 400 := by
              intro l
              induction l with
              | nil => exact fun τ h => h
              | cons c l ihl => exact fun τ h => ihl (z_pt τ c) (gm τ c h)
            have m0 : 0 ≤ τ 0 44 ∧ τ 0 44 ≤ 400 := by omega
            refine wq_c118 (d := d + 2) ⟨fun _ => ⟨fun z => absurd z hnil, fun _ => ⟨h84, by constructor <;> decide, fun σ1 e1 => ⟨by rw [e1]; exact ge _ _ h84, by constructor <;> decide, fun σ2 e2 => ⟨by rw [e2, e1]; exact ge _ _ (ge _ _ h84), by constructor <;> decide, fun σ3 e3 => ?_⟩⟩⟩⟩, fun z => absurd z hX⟩
            have e3' : σ3 = z_pp (z_pp (z_pp σ4 32) 46) 32 := by rw [e3, e2, e1]
            have h3 : 0 ≤ σ3 8 4 := by rw [e3']; exact ge _ _ (ge _ _ (ge _ _ h84))
            refine l3 d _ σ3 (fun q k z => by rw [e3', z_pp_o (by omega), z_pp_o (by omega), z_pp_o (by omega), o4 q k (by omega)]; exact fc q k (by omega)) h3 ⟨rfl, geL l σ3 h3, by constructor <;> decide, fun σ6 e6 => ⟨rfl, ?_⟩⟩
            rw [e6, e3', ec]
            have tr : ∀ (d' : Nat) (R : mj_Q) (y1 : Int), qh_m57_11 (d' + 4) R y1 (e : Int) (if e = 0 then 0 else 1) (z_pms τ (32 :: 46 :: 32 :: (l ++ [41]))) → qh_m57_11 (d' + 4) R y1 ((e + 1 : Nat) : Int) 1 τ := fun d' R y1 h => by
              refine qw_m57_11 (d := d' + 3) ⟨fun z => absurd z (by omega), fun _ => ⟨fun z => absurd z (by omega), fun _ => ?_⟩⟩
              rw [show ((e + 1 : Nat) : Int) + (-1) = (e : Int) by omega, Int.toNat_natCast]
              refine ⟨by unfold mj_r; omega, by omega, by omega, fun z => absurd z (by decide), fun _ => ⟨fun _ => ⟨fun z => absurd z (by decide), fun _ => ⟨fun z => absurd z (by omega), fun _ => ⟨m0.1, m0.2, fun τ1 f1 => ?_⟩⟩⟩, fun z => absurd z (by omega)⟩⟩
              have n1 := gm τ 32 m0
              rw [← f1] at n1
              refine ⟨n1.1, n1.2, fun τ2 f2 => ?_⟩
              have n2 := gm τ1 46 n1
              rw [← f2] at n2
              refine ⟨n2.1, n2.2, fun τ3 f3 => ?_⟩
              have n3 := gm τ2 32 n2
              rw [← f3] at n3
              rw [← a1]
              have n4 := gmL l τ3 n3
              refine l4 (d' + 1) _ τ3 (fun q k z => by rw [f3, z_pt_o (by omega), f2, z_pt_o (by omega), f1, z_pt_o (by omega)]; exact fm q k (by omega)) n3.1 n3.2 ⟨rfl, n4.1, n4.2, fun τ8 f8 => ?_⟩
              rw [f8, f3, f2, f1, et]
              exact b136 d' R _ _ _ e _ h
            refine (next (32 :: 46 :: 32 :: (l ++ [41])) σ4 _ (z_pms τ (32 :: 46 :: 32 :: (l ++ [41]))) e (by simp) (fun x hx => ?_) o4 (fun _ _ _ => rfl) (fun _ _ _ => rfl) (by omega) (z_wt_fr wt4 (fun i _ => by rw [z_pcs_o (by omega)]; exact o34 i) (fun i _ => z_pms_o (by omega) _ _))).1 (by rw [z_pcs_o (by omega)]; exact i5) (fun d' R => ?_)
            · simp at hx
              rcases hx with hx | hx | hx | hx | hx
              · omega
              · omega
              · omega
              · exact l2 x hx
              · omega
            · obtain ⟨y1, g⟩ := go' d' R
              exact ⟨y1, fun h => g (tr d' R y1 h)⟩
    · -- a datum on top
      have r := z_vl_r hb hv
      refine qw_c115_12 (d := d + 3) ⟨fun z => absurd z (by omega), fun _ => ⟨fun z => absurd z (by omega), fun _ => ⟨fun z => absurd z (by omega), fun _ => ⟨by rw [h5]; unfold mj_r; omega, fun σ4 e4 => ?_⟩⟩⟩⟩
      rw [h5, show (c : Int) + 1 - 1 = (c : Int) by omega] at e4
      have o4 : ∀ q k, ¬ (q = 34 ∨ (q = 8 ∧ k = 5)) → σ4 q k = σ q k := fun q k z => by rw [e4, mj_up_ne (by omega)]
      have o34 : ∀ k, σ4 34 k = σ 34 k := fun k => by rw [e4, mj_up_ne (by omega)]
      have i5 : σ4 8 5 = c := by rw [e4, mj_up_eq]
      rw [i5, Int.toNat_natCast, o34, h34]
      refine ⟨by omega, by omega, fun z => absurd z (by omega), fun _ => ?_⟩
      have h84 : 0 ≤ σ4 8 4 := by rw [o4 8 4 (by omega)]; exact p2
      by_cases hX : 536870912 ≤ X
      · have hYp : z_pr Y := by omega
        obtain ⟨u1, u2, _⟩ := z_vl_p hb sa gc hv hX
        have ru := z_vl_r hb u2
        have o12 : z_pp σ4 40 12 = σ 12 := by funext k; rw [z_pp_o (by omega), o4 12 k (by omega)]
        have o11 : z_pp σ4 40 11 = σ 11 := by funext k; rw [z_pp_o (by omega), o4 11 k (by omega)]
        have j5 : z_pp σ4 40 8 5 = c := by rw [z_pp_o (by omega)]; exact i5
        refine wq_c117 (d := d + 2) ⟨fun z => absurd hX z, fun _ => ⟨h84, by constructor <;> decide, fun σ7 e7 => ?_⟩⟩
        rw [e7]
        refine c_parts (d := d + 1) (c := c) (by omega) (by rw [o12]; omega) j5 (by omega) ⟨rfl, ⟨rfl, ?_⟩⟩
        rw [o12, o11]
        refine (next [40] σ4 (mj_up (mj_up (mj_up (mj_up (z_pp σ4 40) 34 c (-1 - z_cd (σ 12) X)) 8 5 ((c : Int) + 1)) 34 (c + 1) (z_cd (σ 11) X)) 8 5 ((c : Int) + 2)) (mj_up (z_pt τ 40) 8 c (z_cd (τ 5) Y)) (c + 1) (by simp) (fun x hx => by simp at hx; omega) o4 (fun q k z => ?_) (fun q k z => ?_) (by omega) ?_).2 (z_cd (σ 11) X) (z_cd (τ 4) Y) u1 ?_ ?_ (fun d' R => ?_)
        · rw [mj_up_ne (by omega), mj_up_ne (by omega), mj_up_ne (by omega), mj_up_ne (by omega)]; rfl
        · rw [mj_up_ne (by omega)]; rfl
        · intro i hi
          by_cases ei : i = c
          · subst ei
            exact ⟨z_cd (σ 12) X, by rw [mj_up_ne (by omega), mj_up_ne (by omega), mj_up_ne (by omega), mj_up_eq], by rw [mj_up_eq]; exact u2⟩
          · obtain ⟨X', q1, q2⟩ := wt i (by omega)
            exact ⟨X', by rw [mj_up_ne (by omega), mj_up_ne (by omega), mj_up_ne (by omega), mj_up_ne (by omega), z_pp_o (by omega), o34]; exact q1, by rw [mj_up_ne (by omega), z_pt_o (by omega)]; exact q2⟩
        · rw [mj_up_eq]; omega
        · rw [mj_up_ne (by omega), mj_up_eq]
        · obtain ⟨y1, y2, y3, y4, y5, g⟩ := go d' R
          refine ⟨y1, y2, y3, y4, y5, fun h => g ?_⟩
          refine qw_m58_5 (d := d' + 2) ⟨fun z => absurd hYp.1 z, fun _ => ⟨fun z => absurd z (by omega), fun _ => ⟨by omega, by omega, fun σ3 e3 => ⟨hYp, by omega, by omega, fun σ5 e5 => ⟨by unfold mj_r; omega, hYp, ?_⟩⟩⟩⟩⟩
          have a5 : σ3 5 = τ 5 := by rw [e3]; funext k; exact z_pt_o (by omega)
          have a4 : σ5 4 = τ 4 := by rw [e5, e3]; funext k; rw [mj_up_ne (by omega), z_pt_o (by omega)]
          rw [a4, e5, a5, e3, Int.toNat_natCast, show (c : Int) + 1 = ((c + 1 : Nat) : Int) by omega]
          exact h
      · obtain ⟨a1, a2, a3⟩ := atoms hv (by omega)
        obtain ⟨l, l1, l2, l3, l4⟩ := t_atom hY a2 a3
        refine wq_c117 (d := d + 2) ⟨fun _ => l3 d _ σ4 (fun q k z => by rw [o4 q k (by omega)]; exact fc q k (by omega)) h84 ⟨rfl, ⟨rfl, ?_⟩⟩, fun z => absurd z hX⟩
        refine (next l σ4 (z_pcs σ4 l) (z_pms τ l) c l1 l2 o4 (fun _ _ _ => rfl) (fun _ _ _ => rfl) (by omega) (z_wt_fr wt (fun i _ => by rw [z_pcs_o (by omega)]; exact o34 i) (fun i _ => z_pms_o (by omega) _ _))).1 (by rw [z_pcs_o (by omega)]; exact i5) (fun d' R => ?_)
        obtain ⟨y1, y2, y3, y4, y5, g⟩ := go d' R
        refine ⟨y1, fun h => g ?_⟩
        refine qw_m58_5 (d := d' + 2) ⟨fun _ => ⟨fun z => absurd z (by omega), fun _ => ?_⟩, fun z => absurd z (by omega)⟩
        rw [← a1]
        exact l4 d' _ τ (fun q k z => fm q k (by omega)) (by omega) (by omega) ⟨rfl, _, rfl, b136 d' R _ _ _ c _ h⟩
theorem t_print {A B : Nat → Int} {st : Nat} {be : Nat → Nat} {G : Nat → Bool} {σ τ : mj_S} (H : z_H A B st σ τ be G) (hY : z_Y σ τ) (hw : z_bw A ≤ 268435456 + σ 1 2) (hP : z_P σ τ) {X Y : Int} (hv : z_vl A B st be G X Y) {d : Nat} {Q : mj_Q}
    (hend : ∀ σ' τ' : mj_S, z_P σ' τ' → z_fc σ σ' → z_fm τ τ' → (∀ (d' : Nat) (R : mj_Q), R none τ' → mj_B mjm_L mjm_Ms (d' + 5) 57 [.inr (.inl 0), .inl Y] τ R) → Q none (z_pp σ' 10)) : mj_B mjc_L mjc_Ms (d + 5) 115 [.inr (.inl 8), .inl X] σ Q := by
  have hb := z_H_b H
  obtain ⟨sa, sz, fo, ga, U, tm, ck, HP, hGU, gc, hrest⟩ := H
  have hP0 := hP
  obtain ⟨p1, p2, p3, p4⟩ := hP0
  refine wq_c115 (d := d + 3) (fun σ1 e1 => ?_)
  have i5 : σ1 8 5 = ((0 : Nat) : Int) := by rw [e1, mj_up_eq]; rfl
  refine ⟨by omega, fun σ2 e2 => ?_⟩
  rw [z_pa_1 i5 (by decide)] at e2
  have o2 : ∀ q k, ¬ (q = 34 ∨ (q = 8 ∧ k = 5)) → σ2 q k = σ q k := fun q k z => by rw [e2, mj_up_ne (by omega), mj_up_ne (by omega), e1, mj_up_ne (by omega)]
  have j5 : σ2 8 5 = ((0 : Nat) : Int) + 1 := by rw [e2, mj_up_eq]
  have j34 : σ2 34 0 = X := by rw [e2, mj_up_ne (by omega), mj_up_eq]
  have ot : ∀ q k, ¬ q = 8 → mj_up τ 8 0 Y q k = τ q k := fun q k z => mj_up_ne (by omega)
  have hP2 : z_P σ2 (mj_up τ 8 0 Y) := ⟨by rw [o2 8 4 (by omega), ot 0 44 (by omega)]; exact p1, by rw [o2 8 4 (by omega)]; exact p2, by rw [o2 8 4 (by omega)]; exact p3, fun i hi => by rw [o2 33 i (by omega), ot 24 i (by omega)]; exact p4 i (by rw [o2 8 4 (by omega)] at hi; exact hi)⟩
  have f2 : z_fc σ σ2 := fun q k z => o2 q k (by omega)
  have g2 : z_fm τ (mj_up τ 8 0 Y) := fun q k z => ot q k (by omega)
  have start : ∀ (d' : Nat) (R : mj_Q), qh_m57_11 (d' + 4) R Y 1 0 (mj_up τ 8 0 Y) → mj_B mjm_L mjm_Ms (d' + 5) 57 [.inr (.inl 0), .inl Y] τ R := fun d' R h => wq_m57 (d := d' + 3) ⟨by decide, by decide, fun σ1 e1 => by rw [e1]; exact h⟩
  have m44 : mj_up τ 8 0 Y 0 44 = τ 0 44 := ot 0 44 (by omega)
  by_cases h400 : σ 8 4 = 400
  · have fin := hend σ2 _ hP2 f2 g2 (fun d' R hR => start d' R (qw_m57_11 (d := d' + 3) ⟨fun _ => hR, fun _ => ⟨fun _ => hR, fun z => absurd z (by omega)⟩⟩))
    have q4 : 0 ≤ σ2 8 4 := hP2.2.1
    refine qw_c115_12 (d := d + 3) ⟨fun z => absurd z (by decide), fun _ => ⟨fun z => absurd z (by omega), fun _ => ⟨fun _ => ⟨q4, by constructor <;> decide, fun σ3 e3 => by rw [e3]; exact fin⟩, fun z => absurd z (by rw [o2 8 4 (by omega)]; omega)⟩⟩⟩
  · obtain ⟨N, hN⟩ : ∃ N : Nat, σ2 8 4 + (N : Int) = 400 := ⟨(400 - σ2 8 4).toNat, by rw [o2 8 4 (by omega)]; omega⟩
    refine (pr_loop (y := X) (GO := fun d' R => mj_B mjm_L mjm_Ms (d' + 5) 57 [.inr (.inl 0), .inl Y] τ R) hb sa gc hY hw hend N σ2 (mj_up τ 8 0 Y) 0 0 hN (by rw [o2 8 4 (by omega)]; omega) (by rw [o2 8 4 (by omega)]; omega) hP2 f2 g2 (fun i hi => absurd hi (Nat.not_lt_zero i))).2 X Y hv j5 j34 (fun d' R => ⟨Y, Y, 0, Y, 0, fun h => start d' R ?_⟩)
    refine qw_m57_11 (d := d' + 3) ⟨fun z => absurd z (by decide), fun _ => ⟨fun z => absurd z (by omega), fun _ => ?_⟩⟩
    have e0 : ((1 : Int) + (-1)).toNat = 0 := rfl
    have e8 : mj_up τ 8 0 Y 8 0 = Y := mj_up_eq
    rw [e0, e8]
    exact ⟨by unfold mj_r; omega, by decide, by decide, fun _ => ⟨fun _ => wq_m58 (d := d' + 2) h, fun z => absurd rfl z⟩, fun z => absurd rfl z⟩
