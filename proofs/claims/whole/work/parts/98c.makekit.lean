/-! making code, and looking at forms: rows for both -/
abbrev z_mc (q k : Nat) : Prop := (q = 4 ∧ k = 3) ∨ (q = 5 ∧ k = 4) ∨ (19 ≤ q ∧ q ≤ 23)
abbrev z_mm (q k : Nat) : Prop := (q = 0 ∧ (k = 26 ∨ k = 5 ∨ k = 33)) ∨ (16 ≤ q ∧ q ≤ 19) ∨ q = 21 ∨ q = 22
def z_Kc (σ : mj_S) : z_K := (σ 19, σ 20, σ 21)
def z_Fc (len n : Nat) (σ σ' : mj_S) : Prop := (∀ q k, ¬ z_mc q k → σ' q k = σ q k) ∧ (∀ i, i < len → σ' 19 i = σ 19 i ∧ σ' 20 i = σ 20 i ∧ σ' 21 i = σ 21 i) ∧ (∀ i, i < n → σ' 22 i = σ 22 i ∧ σ' 23 i = σ 23 i)
def z_Fm (m n : Nat) (τ τ' : mj_S) : Prop := (∀ q k, ¬ z_mm q k → τ' q k = τ q k) ∧ (∀ i, i < m → τ' 16 i = τ 16 i ∧ τ' 17 i = τ 17 i ∧ τ' 18 i = τ 18 i ∧ τ' 19 i = τ 19 i) ∧ (∀ i, i < n → τ' 21 i = τ 21 i ∧ τ' 22 i = τ 22 i)
theorem z_Fc_rf (len n : Nat) (σ : mj_S) : z_Fc len n σ σ := ⟨fun _ _ _ => rfl, fun _ _ => ⟨rfl, rfl, rfl⟩, fun _ _ => ⟨rfl, rfl⟩⟩
theorem z_Fm_rf (m n : Nat) (τ : mj_S) : z_Fm m n τ τ := ⟨fun _ _ _ => rfl, fun _ _ => ⟨rfl, rfl, rfl, rfl⟩, fun _ _ => ⟨rfl, rfl⟩⟩
theorem z_Fc_tr {len len' n n' : Nat} {σ σ' σ2 : mj_S} (hl : len ≤ len') (hn : n ≤ n') (h : z_Fc len n σ σ') (g : z_Fc len' n' σ' σ2) : z_Fc len n σ σ2 := by
  refine ⟨fun q k c => by rw [g.1 q k c, h.1 q k c], fun i hi => ?_, fun i hi => ?_⟩
  · obtain ⟨a1, a2, a3⟩ := h.2.1 i hi
    obtain ⟨b1, b2, b3⟩ := g.2.1 i (by omega)
    exact ⟨by rw [b1, a1], by rw [b2, a2], by rw [b3, a3]⟩
  · obtain ⟨a1, a2⟩ := h.2.2 i hi
    obtain ⟨b1, b2⟩ := g.2.2 i (by omega)
    exact ⟨by rw [b1, a1], by rw [b2, a2]⟩
theorem z_Fm_tr {m m' n n' : Nat} {τ τ' τ2 : mj_S} (hl : m ≤ m') (hn : n ≤ n') (h : z_Fm m n τ τ') (g : z_Fm m' n' τ' τ2) : z_Fm m n τ τ2 := by
  refine ⟨fun q k c => by rw [g.1 q k c, h.1 q k c], fun i hi => ?_, fun i hi => ?_⟩
  · obtain ⟨a1, a2, a3, a4⟩ := h.2.1 i hi
    obtain ⟨b1, b2, b3, b4⟩ := g.2.1 i (by omega)
    exact ⟨by rw [b1, a1], by rw [b2, a2], by rw [b3, a3], by rw [b4, a4]⟩
  · obtain ⟨a1, a2⟩ := h.2.2 i hi
    obtain ⟨b1, b2⟩ := g.2.2 i (by omega)
    exact ⟨by rw [b1, a1], by rw [b2, a2]⟩
/-- one instruction more -/
def z_p1 (σ : mj_S) (len : Nat) (a b n : Int) : mj_S := mj_up (mj_up (mj_up (mj_up σ 19 len a) 20 len b) 21 len n) 4 3 ((len : Int) + 1)
theorem z_put_1 {σ : mj_S} {len : Nat} {a b n : Int} (h : σ 4 3 = len) (hl : len < 2400) : z_put σ a b n = z_p1 σ len a b n := by
  unfold z_put z_p1
  rw [if_pos (by omega), h, Int.toNat_natCast]
theorem z_p1_o {σ : mj_S} {len : Nat} {a b n : Int} {q k : Nat} (h : ¬ ((19 ≤ q ∧ q ≤ 21 ∧ k = len) ∨ (q = 4 ∧ k = 3))) : z_p1 σ len a b n q k = σ q k := by
  unfold z_p1
  rw [mj_up_ne (by omega), mj_up_ne (by omega), mj_up_ne (by omega), mj_up_ne (by omega)]
theorem z_p1_v {σ : mj_S} {len : Nat} {a b n : Int} : z_in (z_Kc (z_p1 σ len a b n)) len a b n ∧ z_p1 σ len a b n 4 3 = ((len + 1 : Nat) : Int) := by
  unfold z_p1
  refine ⟨⟨?_, ?_, ?_⟩, by rw [mj_up_eq]; omega⟩
  · unfold z_Kc
    dsimp only
    rw [mj_up_ne (by omega), mj_up_ne (by omega), mj_up_ne (by omega), mj_up_eq]
  · unfold z_Kc
    dsimp only
    rw [mj_up_ne (by omega), mj_up_ne (by omega), mj_up_eq]
  · unfold z_Kc
    dsimp only
    rw [mj_up_ne (by omega), mj_up_eq]
theorem z_Fc_p {len n : Nat} {σ : mj_S} {a b c : Int} : z_Fc len n σ (z_p1 σ len a b c) :=
  ⟨fun q k h => z_p1_o (by omega), fun i hi => ⟨z_p1_o (by omega), z_p1_o (by omega), z_p1_o (by omega)⟩, fun i hi => ⟨z_p1_o (by omega), z_p1_o (by omega)⟩⟩
/-- whatever the room: what is below stays -/
theorem z_Fc_put {len n : Nat} {σ : mj_S} {a b c : Int} (h : (len : Int) ≤ σ 4 3) (h2 : σ 4 3 ≤ 2400) : z_Fc len n σ (z_put σ a b c) ∧ (len : Int) ≤ z_put σ a b c 4 3 ∧ z_put σ a b c 4 3 ≤ 2400 := by
  obtain ⟨l, hl⟩ : ∃ l : Nat, σ 4 3 = l := ⟨(σ 4 3).toNat, by omega⟩
  by_cases c1 : l < 2400
  · rw [z_put_1 hl c1, z_p1_v.2]
    refine ⟨z_Fc_tr (by omega) (Nat.le_refl _) (z_Fc_rf _ _ _) (z_Fc_p (len := l)), by omega, by omega⟩
  · have e : z_put σ a b c = σ := if_neg (by omega)
    rw [e]
    exact ⟨z_Fc_rf _ _ _, h, h2⟩
/-- instructions of jumps that wait: each tells the one before it -/
def z_chn (P : Nat → Int) : List Nat → Int → Prop
  | [], h => h = -1
  | j :: js, h => h = (j : Int) ∧ (∀ i, i ∈ js → i < j) ∧ z_chn P js (P j)
theorem z_chn_frame {P P' : Nat → Int} : ∀ {js : List Nat} {h : Int}, (∀ i, i ∈ js → P' i = P i) → z_chn P js h → z_chn P' js h
  | [], _, _, h => h
  | j :: js, h, hf, ⟨h1, h2, h3⟩ => ⟨h1, h2, by rw [hf j List.mem_cons_self]; exact z_chn_frame (fun i hi => hf i (List.mem_cons_of_mem _ hi)) h3⟩
theorem t_c61l {d : Nat} {Q : mj_Q} {y : Int} {len : Nat} (hl2 : len ≤ 2400) : ∀ (js : List Nat) (σ : mj_S) (h : Int) (n : Nat), σ 4 3 = len → (∀ i, i ∈ js → i < len) → n + js.length ≤ 2400 → z_chn (σ 20) js h →
    (∀ σ', (∀ q k, ¬ (q = 20 ∧ k ∈ js) → σ' q k = σ q k) → (∀ i, i ∈ js → σ' 20 i = (len : Int)) → Q none σ') → qh_c61_4 d Q y h (n : Int) σ
  | [], σ, h, n, h1, h2, h3, h4, k => by
    have h4' : h = -1 := h4
    exact qw_c61_4 ⟨fun _ => k σ (fun _ _ _ => rfl) (fun i hi => absurd hi (by simp)), fun _ => ⟨fun _ => k σ (fun _ _ _ => rfl) (fun i hi => absurd hi (by simp)), fun c => absurd c (by omega)⟩⟩
  | j :: js, σ, h, n, h1, h2, h3, ⟨h4, h5, h6⟩, k => by
    have hj := h2 j List.mem_cons_self
    rw [List.length_cons] at h3
    refine qw_c61_4 ⟨fun c => absurd c (by omega), fun _ => ⟨fun c => absurd c (by omega), fun _ => ⟨fun c => absurd c (by omega), fun _ => ⟨by omega, by omega, by omega, by omega, fun σ1 e1 => ⟨by unfold mj_r; omega, ?_⟩⟩⟩⟩⟩
    rw [h4, Int.toNat_natCast] at e1 ⊢
    rw [h1] at e1
    have hne : ∀ i, i ∈ js → i ≠ j := fun i hi e => by have := h5 i hi; omega
    rw [show ((n : Int) + 1) = ((n + 1 : Nat) : Int) by omega]
    refine t_c61l hl2 js σ1 (σ 20 j) (n + 1) (by rw [e1, mj_up_ne (by omega)]; exact h1) (fun i hi => h2 i (List.mem_cons_of_mem _ hi)) (by omega) (z_chn_frame (fun i hi => by rw [e1, mj_up_ne (by have := hne i hi; omega)]) h6) (fun σ' g1 g2 => k σ' (fun q x c => ?_) (fun i hi => ?_))
    · have c1 : ¬ (q = 20 ∧ x ∈ js) := fun z => c ⟨z.1, List.mem_cons_of_mem _ z.2⟩
      have c2 : ¬ (q = 20 ∧ x = j) := fun z => c ⟨z.1, by rw [z.2]; exact List.mem_cons_self⟩
      rw [g1 q x c1, e1, mj_up_ne c2]
    · rcases List.mem_cons.mp hi with e | e
      · have c1 : ¬ (20 = 20 ∧ j ∈ js) := fun z => hne j z.2 rfl
        rw [e, g1 20 j c1, e1, mj_up_eq]
      · exact g2 i e
theorem t_c61 {d : Nat} {Q : mj_Q} {σ : mj_S} {h : Int} {len : Nat} {js : List Nat} (hl2 : len ≤ 2400) (h1 : σ 4 3 = len) (h2 : ∀ i, i ∈ js → i < len) (h3 : js.length ≤ 2400) (h4 : z_chn (σ 20) js h)
    (k : ∀ σ', (∀ q k, ¬ (q = 20 ∧ k ∈ js) → σ' q k = σ q k) → (∀ i, i ∈ js → σ' 20 i = (len : Int)) → Q none σ') : mj_B mjc_L mjc_Ms (d + 1) 61 [.inr (.inl 4), .inl h] σ Q :=
  wq_c61 (t_c61l hl2 js σ h 0 h1 h2 (by omega) h4 k)
/-- a variable: its place is loaded, or it is unknown -/
theorem t_c69 {d : Nat} {Q : mj_Q} {σ : mj_S} {x : Int} {E : List (Int × Int)} {n len : Nat} (hn : σ 5 4 = n) (hn4 : n ≤ 400) (hev : z_ev (σ 22) (σ 23) 0 0 E n) (hl : σ 4 3 = len) (hl2 : len < 2400)
    (h1 : ∀ p, z_lu E x = some p → Q (some (.inl 0)) (z_p1 σ len 3 p 0)) (h0 : z_lu E x = none → Q (some (.inl 2)) σ) : mj_B mjc_L mjc_Ms (d + 3) 69 [.inr (.inl 5), .inl x] σ Q := by
  refine wq_c69 ?_
  rw [hn]
  refine ⟨by unfold mj_r; omega, ?_⟩
  rcases z_ev_lu x hev with ⟨i, p, g1, g2, g3, g4, g5, g6⟩ | ⟨g1, g2⟩
  · have go : ∀ m j, j + m + 1 = n → i ≤ j → qh_c69_7 (d + 2) Q x (j : Int) σ → qh_c69_7 (d + 2) Q x ((n : Int) - 1) σ := by
      intro m
      induction m with
      | zero =>
        intro j hj hij h
        rw [show (n : Int) - 1 = j by omega]; exact h
      | succ m ih =>
        intro j hj hij h
        refine ih (j + 1) (by omega) (by omega) (qw_c69_7 ⟨fun c => absurd c (by omega), fun _ => ⟨fun c => absurd c (by omega), fun _ => ?_⟩⟩)
        rw [show ((j + 1 : Nat) : Int).toNat = j + 1 by omega]
        refine ⟨by omega, by omega, fun _ => ⟨by unfold mj_r; omega, ?_⟩, fun c => absurd c (g6 (j + 1) (by omega) (by omega))⟩
        rw [show ((j + 1 : Nat) : Int) + (-1) = j by omega]; exact h
    refine go (n - 1 - i) i (by omega) (Nat.le_refl _) (qw_c69_7 ⟨fun c => absurd c (by omega), fun _ => ⟨fun c => absurd c (by omega), fun _ => ?_⟩⟩)
    rw [Int.toNat_natCast]
    refine ⟨by omega, by omega, fun c => absurd g4 c, fun _ => ⟨by omega, by omega, by omega, fun σ1 e1 => ?_⟩⟩
    rw [e1, g5, z_put_1 hl hl2, show ((0 : Nat) : Int) + p = p by omega]
    exact h1 p g1
  · have go : ∀ j : Nat, j ≤ n → qh_c69_7 (d + 2) Q x ((j : Int) - 1) σ := by
      intro j
      induction j with
      | zero => exact fun _ => qw_c69_7 ⟨fun _ => h0 g1, fun c => absurd c (by omega)⟩
      | succ j ih =>
        intro hj
        refine qw_c69_7 ⟨fun c => absurd c (by omega), fun _ => ⟨fun c => absurd c (by omega), fun _ => ?_⟩⟩
        rw [show (((j + 1 : Nat) : Int) - 1).toNat = j by omega]
        refine ⟨by omega, by omega, fun _ => ⟨by unfold mj_r; omega, ?_⟩, fun c => absurd c (g2 j (by omega) (by omega))⟩
        rw [show ((j + 1 : Nat) : Int) - 1 + (-1) = (j : Int) - 1 by omega]
        exact ih (by omega)
    exact go n (Nat.le_refl _)
/-- the reference finds the same -/
theorem t_m26 {d : Nat} {Q : mj_Q} {τ : mj_S} {x : Int} {E : List (Int × Int)} {base bg v : Nat} (hv : τ 0 33 = v) (hb : τ 0 36 = bg) (hv4 : v ≤ 400) (hev : z_ev (τ 21) (τ 22) base bg E v)
    (h1 : ∀ p, z_lu E x = some p → Q (some (.inl ((base : Int) + p))) τ) (h0 : z_lu E x = none → Q (some (.inl (-1))) τ) : mj_B mjm_L mjm_Ms (d + 1) 26 [.inr (.inl 0), .inl x] τ Q := by
  refine wq_m26 ?_
  have hlen := z_ev_len hev
  rw [hv]
  refine ⟨by unfold mj_r; omega, ?_⟩
  rcases z_ev_lu x hev with ⟨i, p, g1, g2, g3, g4, g5, g6⟩ | ⟨g1, g2⟩
  · have go : ∀ m j, j + m + 1 = v → i ≤ j → qh_m26_7 d Q x (j : Int) τ → qh_m26_7 d Q x ((v : Int) - 1) τ := by
      intro m
      induction m with
      | zero =>
        intro j hj hij h
        rw [show (v : Int) - 1 = j by omega]; exact h
      | succ m ih =>
        intro j hj hij h
        refine ih (j + 1) (by omega) (by omega) (qw_m26_7 ⟨fun c => absurd c (by omega), fun _ => ?_⟩)
        rw [show ((j + 1 : Nat) : Int).toNat = j + 1 by omega]
        refine ⟨by omega, by omega, fun _ => ⟨by unfold mj_r; omega, ?_⟩, fun c => absurd c (g6 (j + 1) (by omega) (by omega))⟩
        rw [show ((j + 1 : Nat) : Int) + (-1) = j by omega]; exact h
    refine go (v - 1 - i) i (by omega) (Nat.le_refl _) (qw_m26_7 ⟨fun c => absurd c (by omega), fun _ => ?_⟩)
    rw [Int.toNat_natCast]
    refine ⟨by omega, by omega, fun c => absurd g4 c, fun _ => ⟨by omega, by omega, ?_⟩⟩
    rw [g5]
    exact h1 p g1
  · have go : ∀ j : Nat, bg + j ≤ v → qh_m26_7 d Q x (((bg + j : Nat) : Int) - 1) τ := by
      intro j
      induction j with
      | zero => exact fun _ => qw_m26_7 ⟨fun _ => h0 g1, fun c => absurd c (by omega)⟩
      | succ j ih =>
        intro hj
        refine qw_m26_7 ⟨fun c => absurd c (by omega), fun _ => ?_⟩
        rw [show (((bg + (j + 1) : Nat) : Int) - 1).toNat = bg + j by omega]
        refine ⟨by omega, by omega, fun _ => ⟨by unfold mj_r; omega, ?_⟩, fun c => absurd c (g2 (bg + j) (by omega) (by omega))⟩
        rw [show ((bg + (j + 1) : Nat) : Int) - 1 + (-1) = ((bg + j : Nat) : Int) - 1 by omega]
        exact ih (by omega)
    have := go (v - bg) (by omega)
    rw [show bg + (v - bg) = v by omega] at this
    exact this
