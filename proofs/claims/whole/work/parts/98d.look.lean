/-! the reference looks at a form: one turn of its loop -/
def z_gl (τ τ' : mj_S) : Prop := ∀ (d : Nat) (Q : mj_Q) (y : Int), qh_m27_14 (d + 20) Q y τ' → qh_m27_14 (d + 20) Q y τ
theorem z_gl_tr {τ τ' τ2 : mj_S} (h : z_gl τ τ') (g : z_gl τ' τ2) : z_gl τ τ2 := fun d Q y q => h d Q y (g d Q y q)
def z_l1 (τ : mj_S) (m : Nat) (w x n t : Int) : mj_S := mj_up (mj_up (mj_up (mj_up (mj_up τ 16 m w) 17 m x) 18 m n) 19 m t) 0 26 ((m : Int) + 1)
theorem z_la_1 {τ : mj_S} {m : Nat} {w x n t : Int} (h : τ 0 26 = m) : z_la τ w x n t = z_l1 τ m w x n t := by
  unfold z_la z_l1
  rw [h, Int.toNat_natCast]
theorem z_l1_o {τ : mj_S} {m : Nat} {w x n t : Int} {q k : Nat} (h : ¬ ((16 ≤ q ∧ q ≤ 19 ∧ k = m) ∨ (q = 0 ∧ k = 26))) : z_l1 τ m w x n t q k = τ q k := by
  unfold z_l1
  rw [mj_up_ne (by omega), mj_up_ne (by omega), mj_up_ne (by omega), mj_up_ne (by omega), mj_up_ne (by omega)]
theorem z_l1_v {τ : mj_S} {m : Nat} {w x n t : Int} : z_l1 τ m w x n t 16 m = w ∧ z_l1 τ m w x n t 17 m = x ∧ z_l1 τ m w x n t 18 m = n ∧ z_l1 τ m w x n t 19 m = t ∧ z_l1 τ m w x n t 0 26 = ((m + 1 : Nat) : Int) := by
  unfold z_l1
  refine ⟨?_, ?_, ?_, ?_, by rw [mj_up_eq]; omega⟩
  · rw [mj_up_ne (by omega), mj_up_ne (by omega), mj_up_ne (by omega), mj_up_ne (by omega), mj_up_eq]
  · rw [mj_up_ne (by omega), mj_up_ne (by omega), mj_up_ne (by omega), mj_up_eq]
  · rw [mj_up_ne (by omega), mj_up_ne (by omega), mj_up_eq]
  · rw [mj_up_ne (by omega), mj_up_eq]
/-- the turn's beginning -/
theorem l_go {τ : mj_S} {m : Nat} (h26 : τ 0 26 = (m : Int) + 1) (hm : m < 3000) (h5 : τ 0 5 = 0) {d : Nat} {Q : mj_Q} {y : Int}
    (hlook : τ 16 m = 16 → mj_B mjm_L mjm_Ms (d + 20) 29 [.inr (.inl 0), .inl (τ 17 m)] (mj_up τ 0 26 (m : Int)) (fun r σ18 => r = none ∧ qh_m27_14 (d + 20) Q y σ18))
    (hunb : τ 16 m = 18 → mj_r (τ 0 33 - τ 18 m) ∧ qh_m27_14 (d + 20) Q y (mj_up (mj_up τ 0 26 (m : Int)) 0 33 (τ 0 33 - τ 18 m)))
    (hbind : τ 16 m = 17 → mj_B mjm_L mjm_Ms (d + 20) 28 [.inr (.inl 0), .inl (τ 17 m)] (mj_up τ 0 26 (m : Int)) (fun r σ18 => r = none ∧ qh_m27_14 (d + 20) Q y σ18))
    (hno : τ 16 m = 2 → τ 17 m < 536870912 → qh_m27_14 (d + 20) Q y (mj_up τ 0 26 (m : Int)))
    (harg : τ 16 m = 2 → 536870912 ≤ τ 17 m → m + 3 < 3000 ∧ z_pr (τ 17 m) ∧ (τ 18 m = 0 ∨ (z_pr (z_cd (τ 4) (τ 17 m)) ∧ z_pr (z_cd (τ 5) (z_cd (τ 4) (τ 17 m))) ∧ (τ 18 m = 1 ∨ τ 18 m = 2))) ∧
      (τ 18 m = 0 → qh_m27_14 (d + 20) Q y (z_l1 (z_l1 (mj_up τ 0 26 (m : Int)) m 2 (z_cd (τ 5) (τ 17 m)) 0 0) (m + 1) 16 (z_cd (τ 4) (τ 17 m)) 0 0)) ∧
      (τ 18 m = 1 → qh_m27_14 (d + 20) Q y (z_l1 (z_l1 (mj_up τ 0 26 (m : Int)) m 2 (z_cd (τ 5) (τ 17 m)) 1 0) (m + 1) 16 (z_el (τ 4) (τ 5) (z_cd (τ 4) (τ 17 m)) 1) 0 0)) ∧
      (τ 18 m = 2 → qh_m27_14 (d + 20) Q y (z_l1 (z_l1 (z_l1 (mj_up τ 0 26 (m : Int)) m 2 (z_cd (τ 5) (τ 17 m)) 2 0) (m + 1) 16 (z_el (τ 4) (τ 5) (z_cd (τ 4) (τ 17 m)) 1) 0 0) (m + 2) 16 (z_cd (τ 4) (z_cd (τ 4) (τ 17 m))) 0 0)))
    (hw : τ 16 m = 16 ∨ τ 16 m = 18 ∨ τ 16 m = 17 ∨ τ 16 m = 2) : qh_m27_14 (d + 20) Q y τ := by
  refine qw_m27_14 (d := d + 19) ⟨fun c => absurd c (by omega), fun _ => ⟨fun c => absurd h5 c, fun _ => ⟨by unfold mj_r; omega, fun σ1 e1 => ?_⟩⟩⟩
  have e1' : σ1 = mj_up τ 0 26 (m : Int) := by rw [e1, h26, show (m : Int) + 1 - 1 = m by omega]
  rw [e1']
  have a26 : mj_up τ 0 26 (m : Int) 0 26 = m := mj_up_eq
  have aq : ∀ q, q ≠ 0 → mj_up τ 0 26 (m : Int) q = τ q := fun q hq => z_rq _ _ _ _ _ hq
  have a33 : mj_up τ 0 26 (m : Int) 0 33 = τ 0 33 := mj_up_ne (by omega)
  rw [a26, aq 16 (by decide), aq 17 (by decide), aq 18 (by decide), aq 4 (by decide), aq 5 (by decide), a33, Int.toNat_natCast]
  refine ⟨by omega, by omega, by omega, by omega, fun c16 => ⟨by omega, by omega, fun c18 => ⟨by omega, by omega, fun c17 => ⟨fun c => hno (by omega) (by omega), fun c => ?_⟩, fun c17 => hbind c17⟩, fun c18 => ⟨by omega, by omega, (hunb c18).1, fun σ17 e17 => by rw [e17]; exact (hunb c18).2⟩⟩, fun c16 => hlook c16⟩
  obtain ⟨g1, g2, g3, g4, g5, g6⟩ := harg (by omega) c
  refine ⟨by omega, by omega, g2, g2, by omega, by omega, Or.inl rfl, fun σ2 e2 => ?_⟩
  have e2' : σ2 = z_l1 (mj_up τ 0 26 (m : Int)) m 2 (z_cd (τ 5) (τ 17 m)) (τ 18 m) 0 := by rw [e2]; exact z_la_1 a26
  have b26 : σ2 0 26 = ((m + 1 : Nat) : Int) := by rw [e2']; exact z_l1_v.2.2.2.2
  have b4 : σ2 4 = τ 4 := by funext i; rw [e2', z_l1_o (by omega), aq 4 (by decide)]
  have b5 : σ2 5 = τ 5 := by funext i; rw [e2', z_l1_o (by omega), aq 5 (by decide)]
  rw [b26, b4]
  refine ⟨fun c2 => ⟨fun c0 => ⟨fun c1 => ?_, fun c1 => ?_⟩, fun c0 => ⟨by omega, by omega, Or.inl rfl, fun σ7 e7 => ?_⟩⟩, fun c2 => ?_⟩
  · omega
  · have pr : z_pr (z_cd (τ 4) (τ 17 m)) ∧ z_pr (z_cd (τ 5) (z_cd (τ 4) (τ 17 m))) := by
      rcases g3 with z | z
      · omega
      · exact ⟨z.1, z.2.1⟩
    refine t_m8 (d := d + 18) (k := 1) (by decide) (fun i hi => ?_) ⟨_, rfl, ?_⟩
    · rw [b5]
      cases i with
      | zero => exact pr.1
      | succ i =>
        have : i = 0 := by omega
        subst this
        exact pr.2
    · rw [b26, b4, b5]
      refine ⟨by omega, by omega, Or.inl rfl, fun σ6 e6 => ?_⟩
      rw [e6, z_la_1 b26, e2', c1]
      exact g5 c1
  · rw [e7, z_la_1 b26, e2', c0]
    exact g4 c0
  · have pr : z_pr (z_cd (τ 4) (τ 17 m)) ∧ z_pr (z_cd (τ 5) (z_cd (τ 4) (τ 17 m))) := by
      rcases g3 with z | z
      · omega
      · exact ⟨z.1, z.2.1⟩
    refine t_m8 (d := d + 18) (k := 1) (by decide) (fun i hi => ?_) ⟨_, rfl, ?_⟩
    · rw [b5]
      cases i with
      | zero => exact pr.1
      | succ i =>
        have : i = 0 := by omega
        subst this
        exact pr.2
    · rw [b26, b4, b5]
      refine ⟨by omega, by omega, Or.inl rfl, fun σ10 e10 => ?_⟩
      have e10' : σ10 = z_l1 σ2 (m + 1) 16 (z_el (τ 4) (τ 5) (z_cd (τ 4) (τ 17 m)) 1) 0 0 := by rw [e10]; exact z_la_1 b26
      have c26 : σ10 0 26 = ((m + 2 : Nat) : Int) := by rw [e10']; exact z_l1_v.2.2.2.2
      have c4 : σ10 4 = τ 4 := by funext i; rw [e10', z_l1_o (by omega), b4]
      rw [c26, c4]
      refine ⟨fun c0 => ⟨fun c1 => ⟨pr.1, by omega, by omega, Or.inl rfl, fun σ11 e11 => ?_⟩, fun c1 => absurd c1 (by omega)⟩, fun c0 => absurd c0 (by omega)⟩
      rw [e11, z_la_1 c26, e10', e2', c2]
      exact g6 c2
/-- names bound one after another -/
def z_bs (τ : mj_S) (v : Nat) (nm pf : Nat → Int) : Nat → mj_S
  | 0 => τ
  | c + 1 => mj_up (mj_up (mj_up (z_bs τ v nm pf c) 21 (v + c) (nm c)) 22 (v + c) (pf c)) 0 33 ((v + c : Nat) + 1)
theorem z_bs_o {τ : mj_S} {v : Nat} {nm pf : Nat → Int} {q k : Nat} : ∀ {c : Nat}, ¬ (((q = 21 ∨ q = 22) ∧ v ≤ k ∧ k < v + c) ∨ (q = 0 ∧ k = 33)) → z_bs τ v nm pf c q k = τ q k
  | 0, _ => rfl
  | c + 1, h => by
    unfold z_bs
    rw [mj_up_ne (by omega), mj_up_ne (by omega), mj_up_ne (by omega), z_bs_o (by omega)]
theorem z_bs_33 {τ : mj_S} {v : Nat} {nm pf : Nat → Int} (h : τ 0 33 = v) : ∀ c : Nat, z_bs τ v nm pf c 0 33 = ((v + c : Nat) : Int)
  | 0 => h
  | c + 1 => by unfold z_bs; rw [mj_up_eq]; omega
theorem z_bs_v {τ : mj_S} {v : Nat} {nm pf : Nat → Int} : ∀ {c i : Nat}, i < c → z_bs τ v nm pf c 21 (v + i) = nm i ∧ z_bs τ v nm pf c 22 (v + i) = pf i
  | 0, i, h => absurd h (Nat.not_lt_zero i)
  | c + 1, i, h => by
    unfold z_bs
    by_cases e : i = c
    · rw [e]
      refine ⟨?_, ?_⟩
      · rw [mj_up_ne (by omega), mj_up_ne (by omega), mj_up_eq]
      · rw [mj_up_ne (by omega), mj_up_eq]
    · obtain ⟨g1, g2⟩ := z_bs_v (τ := τ) (v := v) (nm := nm) (pf := pf) (c := c) (i := i) (by omega)
      refine ⟨?_, ?_⟩
      · rw [mj_up_ne (by omega), mj_up_ne (by omega), mj_up_ne (by omega), g1]
      · rw [mj_up_ne (by omega), mj_up_ne (by omega), mj_up_ne (by omega), g2]
theorem z_bi_1 {τ : mj_S} {v : Nat} {a b : Int} (h : τ 0 33 = v) : z_bi τ a b = mj_up (mj_up (mj_up τ 21 v a) 22 v b) 0 33 ((v : Int) + 1) := by
  unfold z_bi
  rw [h, Int.toNat_natCast]
/-- the reference: names of a let -/
theorem t_m28 {d : Nat} {Q : mj_Q} {τ : mj_S} {x : Int} {c v : Nat} (hl : z_len (τ 5) x c) (hv : τ 0 33 = v) (hc : v + c ≤ 400) (hpr : ∀ i, i < c → z_pr (z_el (τ 4) (τ 5) x i)) {nm : Nat → Int} (hnm : ∀ i, nm i = z_el (τ 4) (τ 5) (z_el (τ 4) (τ 5) x i) 0) (h : Q none (z_bs τ v nm (fun _ => 0) c)) : mj_B mjm_L mjm_Ms (d + 2) 28 [.inr (.inl 0), .inl x] τ Q := by
  have b4 : ∀ i, z_bs τ v nm (fun _ => 0) i 4 = τ 4 := fun i => by funext k; exact z_bs_o (by omega)
  have b5 : ∀ i, z_bs τ v nm (fun _ => 0) i 5 = τ 5 := fun i => by funext k; exact z_bs_o (by omega)
  have go : ∀ m i, i + m = c → qh_m28_2 (d + 1) Q x (z_nth (τ 5) x i) (z_bs τ v nm (fun _ => 0) i) := by
    intro m
    induction m with
    | zero =>
      intro i hi
      have hin : i = c := by omega
      subst hin
      have := hl.2
      exact qw_m28_2 ⟨fun _ => h, fun c => absurd c (by omega)⟩
    | succ m ih =>
      intro i hi
      have g1 := hl.1 i (by omega)
      have g2 := hpr i (by omega)
      refine qw_m28_2 ⟨fun c => absurd g1.1 c, fun _ => ?_⟩
      rw [b4, z_bs_33 hv]
      refine ⟨by omega, g2, by omega, by omega, fun σ1 e1 => ⟨by omega, ?_⟩⟩
      have e1' : σ1 = z_bs τ v nm (fun _ => 0) (i + 1) := by
        rw [e1, z_bi_1 (v := v + i) (z_bs_33 hv i)]
        show _ = mj_up (mj_up (mj_up (z_bs τ v nm (fun _ => 0) i) 21 (v + i) (nm i)) 22 (v + i) 0) 0 33 ((v + i : Nat) + 1)
        rw [show nm i = z_cd (τ 4) (z_cd (τ 4) (z_nth (τ 5) x i)) from hnm i]
      rw [e1', b5]
      exact ih (i + 1) (by omega)
  exact wq_m28 (go c 0 (by omega))
/-! one form looked at -/
theorem o_wrong {d : Nat} {Q : mj_Q} {τ : mj_S} {y1 y2 y3 y4 : Int} (h5 : τ 0 5 = 0) (h : Q none (mj_up τ 0 5 1)) : qh_m29_150 (d + 1) Q y1 y2 y3 y4 τ := by
  have e : ∀ y6 : Int, qh_m29_203 (d + 1) Q y1 y2 y3 y4 1 y6 τ := fun y6 => qw_m29_203 ⟨fun _ => ⟨fun c => absurd c (by decide), fun _ σ2 e2 => by rw [e2, z_sp0 h5]; exact h⟩, fun c => absurd c (by decide)⟩
  exact qw_m29_150 (qw_m29_157 ⟨fun _ => e 1, fun _ => ⟨fun _ => e 1, fun _ => ⟨fun _ => ⟨fun _ => e 0, fun _ => e 1⟩, fun _ => ⟨fun _ => ⟨fun _ => e 0, fun _ => e 1⟩, fun _ => ⟨fun _ => ⟨fun _ => e 0, fun _ => e 1⟩, fun _ => ⟨fun _ => e 0, fun _ => e 1⟩⟩⟩⟩⟩⟩)
/-- nothing wrong: does the number of arguments fit? -/
theorem o_fits {d : Nat} {Q : mj_Q} {τ : mj_S} {y1 y4 : Int} {n : Nat} {hd : Int} (h5 : τ 0 5 = 0) (hno : 268435466 ≤ hd → hd ≤ 268435476 → ¬ (n : Int) = z_ar hd → Q none (mj_up τ 0 5 4)) (hyes : (268435466 ≤ hd → hd ≤ 268435476 → (n : Int) = z_ar hd) → qh_m29_203 (d + 1) Q y1 (n : Int) (hd - 268435456) y4 0 1 τ) : qh_m29_154 (d + 1) Q y1 (n : Int) (hd - 268435456) y4 τ := by
  have e0 : 268435466 ≤ hd → hd ≤ 268435476 → ¬ (n : Int) = z_ar hd → qh_m29_203 (d + 1) Q y1 (n : Int) (hd - 268435456) y4 0 0 τ := fun c1 c2 c3 => qw_m29_203 ⟨fun c => absurd rfl c, fun _ => ⟨fun c => absurd rfl c, fun _ => ⟨fun _ σ1 e1 => by rw [e1, z_sp0 h5]; exact hno c1 c2 c3, fun c => absurd rfl c⟩⟩⟩
  refine qw_m29_154 (qw_m29_157 ⟨fun c => hyes (fun z => absurd c (by omega)), fun c => ⟨fun c2 => hyes (fun _ z => absurd c2 (by omega)), fun c2 => ⟨fun c3 => ?_, fun c3 => ⟨fun c4 => ?_, fun c4 => ⟨fun c5 => ?_, fun c5 => ?_⟩⟩⟩⟩⟩)
  · have ea : z_ar hd = 2 := by unfold z_ar; rw [if_pos (by omega)]
    exact ⟨fun z => e0 (by omega) (by omega) (by rw [ea]; exact z), fun z => hyes (fun _ _ => by rw [ea]; exact z)⟩
  · have ea : z_ar hd = 1 := by unfold z_ar; rw [if_neg (by omega)]
    exact ⟨fun z => e0 (by omega) (by omega) (by rw [ea]; exact z), fun z => hyes (fun _ _ => by rw [ea]; exact z)⟩
  · have ea : z_ar hd = 1 := by unfold z_ar; rw [if_neg (by omega)]
    exact ⟨fun z => e0 (by omega) (by omega) (by rw [ea]; exact z), fun z => hyes (fun _ _ => by rw [ea]; exact z)⟩
  · have ea : z_ar hd = 2 := by unfold z_ar; rw [if_pos (by omega)]
    exact ⟨fun z => e0 (by omega) (by omega) (by rw [ea]; exact z), fun z => hyes (fun _ _ => by rw [ea]; exact z)⟩
/-- a list with a symbol as its head -/
theorem o_node {d : Nat} {Q : mj_Q} {τ : mj_S} {x hd : Int} {n m : Nat} (hl : z_isl (τ 5) x (n + 1)) (hn : n + 1 ≤ 400) (hhd : z_cd (τ 4) x = hd) (h1 : 268435456 ≤ hd) (h2 : hd < 536870912) (h5 : τ 0 5 = 0) (h26 : τ 0 26 = m) (hm : m + 4 < 3000)
    {c : Nat} {nm : Nat → Int} (hll : z_ll (τ 4) (τ 5) (z_cd (τ 5) x) n) (hlet : n = 2 → c ≤ 400 ∧ z_len (τ 5) (z_cd (τ 4) (z_cd (τ 5) x)) c ∧ z_ll (τ 4) (τ 5) (z_cd (τ 4) (z_cd (τ 5) x)) c) (hnm : ∀ i, nm i = z_el (τ 4) (τ 5) (z_el (τ 4) (τ 5) (z_cd (τ 4) (z_cd (τ 5) x)) i) 0)
    (Hwrong : (hd = 268435458 ∧ ¬ n = 1) ∨ (hd = 268435459 ∧ ¬ n = 3) ∨ (hd = 268435460 ∧ (¬ n = 2 ∨ ¬ (z_nth (τ 5) (z_cd (τ 4) (z_cd (τ 5) x)) c = 268435456 ∧ z_cpl (τ 4) (τ 5) (z_cd (τ 4) (z_cd (τ 5) x)) c ∧ z_vs nm c))) ∨ (hd = 268435461 ∧ ¬ z_cpl (τ 4) (τ 5) (z_cd (τ 5) x) n) ∨ hd = 268435465 → Q none (mj_up τ 0 5 1))
    (Hno : 268435466 ≤ hd → hd ≤ 268435476 → ¬ (n : Int) = z_ar hd → Q none (mj_up τ 0 5 4))
    (Hq : hd = 268435458 → n = 1 → Q none τ)
    (Hlet : hd = 268435460 → n = 2 → z_nth (τ 5) (z_cd (τ 4) (z_cd (τ 5) x)) c = 268435456 → z_cpl (τ 4) (τ 5) (z_cd (τ 4) (z_cd (τ 5) x)) c → z_vs nm c → Q none (z_l1 (z_l1 (z_l1 (z_l1 τ m 18 268435456 (c : Int) 0) (m + 1) 16 (z_el (τ 4) (τ 5) x 2) 0 0) (m + 2) 17 (z_cd (τ 4) (z_cd (τ 5) x)) 0 0) (m + 3) 2 (z_cd (τ 4) (z_cd (τ 5) x)) 1 0))
    (Hcond : hd = 268435461 → z_cpl (τ 4) (τ 5) (z_cd (τ 5) x) n → Q none (z_l1 τ m 2 (z_cd (τ 5) x) 2 0))
    (Helse : ¬ hd = 268435458 → ¬ hd = 268435460 → ¬ hd = 268435461 → ¬ hd = 268435465 → (hd = 268435459 → n = 3) → (268435466 ≤ hd → hd ≤ 268435476 → (n : Int) = z_ar hd) → Q none (z_l1 τ m 2 (z_cd (τ 5) x) 0 0)) : mj_B mjm_L mjm_Ms (d + 20) 29 [.inr (.inl 0), .inl x] τ Q := by
  obtain ⟨hx, hl2⟩ := z_isl_t hl
  have px : z_pr x := by omega
  have hlen : z_ln (τ 5) x (n + 1) = ((n + 1 : Nat) : Int) := by unfold z_ln; rw [if_pos hl.2]
  refine wq_m29 (d := d + 18) ⟨fun _ => qw_m29_33 (d := d + 18) ⟨fun _ => t_m7 (d := d + 17) hl.1 hn ?_, fun c => absurd hx.1 c⟩, fun c => absurd c (by omega)⟩
  rw [hlen, hhd]
  refine ⟨_, rfl, by unfold mj_r; omega, fun c => absurd c (by omega), fun _ => ⟨px, fun _ => ⟨px, by unfold mj_r; omega, px, ?_⟩, fun c => absurd ⟨h1, h2⟩ c⟩⟩
  rw [show ((n + 1 : Nat) : Int) - 1 = (n : Int) by omega]
  have end0 : (¬ (268435458 ≤ hd ∧ hd ≤ 268435465) ∨ hd = 268435462 ∨ hd = 268435463 ∨ hd = 268435464 ∨ (hd = 268435459 ∧ n = 3)) → qh_m29_144 (d + 19) Q x (n : Int) (hd - 268435456) (z_cd (τ 5) x) τ := fun hz => by
    refine qw_m29_144 (d := d + 18) ⟨fun _ => o_fits (d := d + 18) h5 Hno (fun hf => qw_m29_203 (d := d + 18) ⟨fun c => absurd rfl c, fun _ => ⟨fun _ => ⟨fun _ => ⟨fun _ => ⟨fun _ => ?_, fun c => absurd c (by omega)⟩, fun c => absurd c (by omega)⟩, fun c => absurd c (by omega)⟩, fun c => absurd c (by decide)⟩⟩), fun c => absurd c (by omega)⟩
    rw [h26]
    refine ⟨by omega, by omega, Or.inl rfl, fun σ3 e3 => ?_⟩
    rw [e3, z_la_1 h26]
    exact Helse (by omega) (by omega) (by omega) (by omega) (by omega) hf
  have q130 : (hd = 268435460 → n = 2 ∧ z_nth (τ 5) (z_cd (τ 4) (z_cd (τ 5) x)) c = 268435456 ∧ z_cpl (τ 4) (τ 5) (z_cd (τ 4) (z_cd (τ 5) x)) c ∧ z_vs nm c) → (hd = 268435458 → n = 1) → (hd = 268435459 → n = 3) → qh_m29_130 (d + 19) Q x (n : Int) (hd - 268435456) (z_cd (τ 5) x) τ := fun g4 g2 g3 => by
    refine qw_m29_130 (d := d + 18) ⟨fun c5 => ?_, fun c5 => t_m30 (d := d + 15) hl2.1 (by omega) hll (fun _ hc => ⟨_, rfl, fun c => absurd c (by decide), fun _ => ?_⟩) (fun hc => ⟨_, rfl, fun _ => o_wrong h5 (Hwrong (Or.inr (Or.inr (Or.inr (Or.inl ⟨by omega, fun z => hc ⟨hl2.2, z⟩⟩))))), fun c => absurd rfl c⟩)⟩
    · by_cases e2 : hd = 268435458
      · refine qw_m29_144 (d := d + 18) ⟨fun _ => o_fits (d := d + 18) h5 Hno (fun hf => qw_m29_203 (d := d + 18) ⟨fun c => absurd rfl c, fun _ => ⟨fun _ => ⟨fun c => absurd c (by omega), fun _ => Hq e2 (g2 e2)⟩, fun c => absurd c (by decide)⟩⟩), fun c => absurd c (by omega)⟩
      · by_cases e4 : hd = 268435460
        · obtain ⟨k1, k2, k3, k4⟩ := g4 e4
          obtain ⟨lc, ll1, ll2⟩ := hlet k1
          refine qw_m29_144 (d := d + 18) ⟨fun _ => o_fits (d := d + 18) h5 Hno (fun hf => qw_m29_203 (d := d + 18) ⟨fun c => absurd rfl c, fun _ => ⟨fun _ => ⟨fun _ => ⟨fun c => absurd c (by omega), fun _ => ?_⟩, fun c => absurd c (by omega)⟩, fun c => absurd c (by decide)⟩⟩), fun c => absurd c (by omega)⟩
          have pa : z_pr (z_cd (τ 5) x) := by
            have := hl2.1.1 0 (by omega)
            unfold z_nth at this
            omega
          have pa1 : z_pr (z_cd (τ 5) (z_cd (τ 5) x)) := by
            have := hl2.1.1 1 (by omega)
            unfold z_nth z_nth at this
            omega
          have hln : z_ln (τ 5) (z_cd (τ 4) (z_cd (τ 5) x)) c = (c : Int) := by unfold z_ln; rw [if_pos k2]
          refine ⟨pa, t_m7 (d := d + 17) ll1 lc ?_⟩
          rw [hln, h26]
          refine ⟨_, rfl, by omega, by omega, Or.inl rfl, fun σ7 e7 => ?_⟩
          have e7' : σ7 = z_l1 τ m 18 268435456 (c : Int) 0 := by rw [e7]; exact z_la_1 h26
          have a26 : σ7 0 26 = ((m + 1 : Nat) : Int) := by rw [e7']; exact z_l1_v.2.2.2.2
          have a4 : σ7 4 = τ 4 := by funext i; rw [e7', z_l1_o (by omega)]
          have a5 : σ7 5 = τ 5 := by funext i; rw [e7', z_l1_o (by omega)]
          refine t_m8 (d := d + 17) (k := 1) (by decide) (fun i hi => ?_) ⟨_, rfl, ?_⟩
          · rw [a5]
            cases i with
            | zero => exact pa
            | succ i =>
              have : i = 0 := by omega
              subst this
              exact pa1
          · rw [a26, a4, a5, z_el_s]
            refine ⟨by omega, by omega, Or.inl rfl, fun σ10 e10 => ?_⟩
            have e10' : σ10 = z_l1 σ7 (m + 1) 16 (z_el (τ 4) (τ 5) x 2) 0 0 := by rw [e10]; exact z_la_1 a26
            have b26 : σ10 0 26 = ((m + 2 : Nat) : Int) := by rw [e10']; exact z_l1_v.2.2.2.2
            have b4 : σ10 4 = τ 4 := by funext i; rw [e10', z_l1_o (by omega), a4]
            rw [b26, b4]
            refine ⟨pa, by omega, by omega, Or.inl rfl, fun σ11 e11 => ?_⟩
            have e11' : σ11 = z_l1 σ10 (m + 2) 17 (z_cd (τ 4) (z_cd (τ 5) x)) 0 0 := by rw [e11]; exact z_la_1 b26
            have c26 : σ11 0 26 = ((m + 3 : Nat) : Int) := by rw [e11']; exact z_l1_v.2.2.2.2
            have c4 : σ11 4 = τ 4 := by funext i; rw [e11', z_l1_o (by omega), b4]
            rw [c26, c4]
            refine ⟨pa, by omega, by omega, Or.inl rfl, fun σ12 e12 => ?_⟩
            rw [e12, z_la_1 c26, e11', e10', e7']
            exact Hlet e4 k1 k2 k3 k4
        · by_cases e9 : hd = 268435465
          · exact qw_m29_144 (d := d + 18) ⟨fun c => absurd c (by omega), fun _ => o_wrong h5 (Hwrong (Or.inr (Or.inr (Or.inr (Or.inr e9)))))⟩
          · exact end0 (by omega)
    · refine qw_m29_144 (d := d + 18) ⟨fun _ => o_fits (d := d + 18) h5 Hno (fun hf => qw_m29_203 (d := d + 18) ⟨fun c => absurd rfl c, fun _ => ⟨fun _ => ⟨fun _ => ⟨fun _ => ⟨fun c => absurd c5 c, fun _ => ?_⟩, fun c => absurd c (by omega)⟩, fun c => absurd c (by omega)⟩, fun c => absurd c (by decide)⟩⟩), fun c => absurd c (by omega)⟩
      rw [h26]
      refine ⟨by omega, by omega, Or.inl rfl, fun σ4 e4 => ?_⟩
      rw [e4, z_la_1 h26]
      exact Hcond (by omega) hc
  have q107 : (hd = 268435458 → n = 1) → (hd = 268435459 → n = 3) → qh_m29_107 (d + 19) Q x (n : Int) (hd - 268435456) (z_cd (τ 5) x) τ := fun g2 g3 => by
    refine qw_m29_107 (d := d + 18) ⟨fun c => q130 (fun z => absurd z (by omega)) g2 g3, fun c4 => ⟨fun c => o_wrong h5 (Hwrong (Or.inr (Or.inr (Or.inl ⟨by omega, Or.inl (by omega)⟩)))), fun c => ?_⟩⟩
    obtain ⟨lc, ll1, ll2⟩ := hlet (by omega)
    have pa : z_pr (z_cd (τ 5) x) := by
      have := hl2.1.1 0 (by omega)
      unfold z_nth at this
      omega
    refine ⟨pa, t_m32 (d := d + 14) ll1 lc ll2 hnm (fun k2 k3 k4 => ⟨_, rfl, fun c => absurd c (by decide), fun _ => q130 (fun _ => ⟨by omega, k2, k3, k4⟩) g2 g3⟩) (fun hz => ⟨_, rfl, fun _ => o_wrong h5 (Hwrong (Or.inr (Or.inr (Or.inl ⟨by omega, Or.inr hz⟩)))), fun c => absurd rfl c⟩)⟩
  have q97 : (hd = 268435458 → n = 1) → qh_m29_97 (d + 19) Q x (n : Int) (hd - 268435456) (z_cd (τ 5) x) τ := fun g2 => by
    refine qw_m29_97 (d := d + 18) ⟨fun c => q107 g2 (fun z => absurd z (by omega)), fun c3 => ⟨fun c => o_wrong h5 (Hwrong (Or.inr (Or.inl ⟨by omega, by omega⟩))), fun c => q107 g2 (fun _ => by omega)⟩⟩
  exact qw_m29_87 (d := d + 18) ⟨fun c => q97 (fun z => absurd z (by omega)), fun c2 => ⟨fun c => o_wrong h5 (Hwrong (Or.inl ⟨by omega, by omega⟩)), fun c => q97 (fun _ => by omega)⟩⟩
/-- no list, or its head is no symbol -/
theorem o_bad {d : Nat} {Q : mj_Q} {τ : mj_S} {x : Int} {n : Nat} (hx : 536870912 ≤ x ∧ x < 536871312) (hl : z_len (τ 5) x n) (hn : n ≤ 400) (h5 : τ 0 5 = 0) (hb : ¬ z_nth (τ 5) x n = 268435456 ∨ ¬ (268435456 ≤ z_cd (τ 4) x ∧ z_cd (τ 4) x < 536870912)) (h : Q none (mj_up τ 0 5 1)) : mj_B mjm_L mjm_Ms (d + 20) 29 [.inr (.inl 0), .inl x] τ Q := by
  refine wq_m29 (d := d + 18) ⟨fun _ => qw_m29_33 (d := d + 18) ⟨fun _ => t_m7 (d := d + 17) hl hn ⟨_, rfl, ?_, fun c σ3 e3 => ?_, fun c => ⟨by omega, fun c2 => ?_, fun c2 σ4 e4 => ?_⟩⟩, fun c => absurd hx.1 c⟩, fun c => absurd c (by omega)⟩
  · unfold z_ln mj_r; split <;> omega
  · rw [e3, z_sp0 h5]; exact h
  · exfalso
    rcases hb with z | z
    · unfold z_ln at c; rw [if_neg z] at c; omega
    · exact z c2
  · rw [e4, z_sp0 h5]; exact h
theorem o_atom {d : Nat} {Q : mj_Q} {τ : mj_S} {x : Int} (hx : x ≤ 268435457) (h : Q none τ) : mj_B mjm_L mjm_Ms (d + 20) 29 [.inr (.inl 0), .inl x] τ Q := by
  have g : qh_m29_33 (d + 19) Q x τ := qw_m29_33 (d := d + 18) ⟨fun c => absurd c (by omega), fun _ => h⟩
  exact wq_m29 (d := d + 18) ⟨fun _ => g, fun c => ⟨fun _ => g, fun c2 => ⟨fun _ => g, fun c3 => absurd hx (by omega)⟩⟩⟩
theorem o_var {d : Nat} {Q : mj_Q} {τ : mj_S} {x : Int} {E : List (Int × Int)} {v : Nat} (hx : 268435457 < x) (hx2 : x < 536870912) (h5 : τ 0 5 = 0) (hv : τ 0 33 = v) (hb : τ 0 36 = (0 : Nat)) (hv4 : v ≤ 400) (hev : z_ev (τ 21) (τ 22) 0 0 E v) (hp : ∀ p, z_lu E x = some p → 0 ≤ p) (h1 : ∀ p, z_lu E x = some p → Q none τ) (h0 : z_lu E x = none → Q none (mj_up τ 0 5 2)) : mj_B mjm_L mjm_Ms (d + 20) 29 [.inr (.inl 0), .inl x] τ Q := by
  have g : ∀ τ', Q none τ' → qh_m29_33 (d + 19) Q x τ' := fun τ' h => qw_m29_33 (d := d + 18) ⟨fun c => absurd c (by omega), fun _ => h⟩
  refine wq_m29 (d := d + 18) ⟨fun c => absurd ⟨by omega, hx2⟩ c, fun _ => ⟨fun c => absurd c (by omega), fun _ => ⟨fun c => absurd c (by omega), fun _ => t_m26 (d := d + 18) hv hb hv4 hev (fun p hp' => ⟨_, rfl, fun _ => g τ (h1 p hp'), fun c => absurd c ?_⟩) (fun hn => ⟨_, rfl, fun c => absurd c (by decide), fun _ σ3 e3 => ?_⟩)⟩⟩⟩
  · have := hp p hp'
    omega
  · rw [e3, z_sp0 h5]; exact g _ (h0 hn)
