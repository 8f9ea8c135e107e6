/-! what is printed: both papers alike; numbers, names -/
def z_P (σ τ : mj_S) : Prop := σ 8 4 = τ 0 44 ∧ 0 ≤ σ 8 4 ∧ σ 8 4 ≤ 400 ∧ ∀ i : Nat, (i : Int) < σ 8 4 → σ 33 i = τ 24 i ∧ 0 ≤ σ 33 i ∧ σ 33 i ≤ 65535
def z_pcs (σ : mj_S) (l : List Int) : mj_S := l.foldl z_pp σ
def z_pms (τ : mj_S) (l : List Int) : mj_S := l.foldl z_pt τ
theorem z_pp_o {σ : mj_S} {c : Int} {q k : Nat} (h : ¬ (q = 33 ∨ (q = 8 ∧ k = 4))) : z_pp σ c q k = σ q k := by
  unfold z_pp
  split
  · rw [mj_up_ne (by omega), mj_up_ne (by omega)]
  · rfl
theorem z_pt_o {τ : mj_S} {c : Int} {q k : Nat} (h : ¬ (q = 24 ∨ (q = 0 ∧ k = 44))) : z_pt τ c q k = τ q k := by
  unfold z_pt
  split
  · rfl
  · rw [mj_up_ne (by omega), mj_up_ne (by omega)]
theorem z_P_1 {σ τ : mj_S} {c : Int} (h : z_P σ τ) (c0 : 0 ≤ c) (c1 : c ≤ 65535) : z_P (z_pp σ c) (z_pt τ c) ∧ (σ 8 4 < 400 → z_pp σ c 8 4 = σ 8 4 + 1) ∧ σ 8 4 ≤ z_pp σ c 8 4 := by
  obtain ⟨h1, h2, h3, h4⟩ := h
  by_cases e : σ 8 4 < 400
  · have ec : z_pp σ c = mj_up (mj_up σ 33 (σ 8 4).toNat c) 8 4 (σ 8 4 + 1) := if_pos e
    have et : z_pt τ c = mj_up (mj_up τ 24 (τ 0 44).toNat (c % 65536)) 0 44 (τ 0 44 + 1) := if_neg (by omega)
    rw [ec, et]
    refine ⟨⟨by rw [mj_up_eq, mj_up_eq, h1], by rw [mj_up_eq]; omega, by rw [mj_up_eq]; omega, fun i hi => ?_⟩, fun _ => mj_up_eq, by rw [mj_up_eq]; omega⟩
    rw [mj_up_eq] at hi
    rw [mj_up_ne (by omega), mj_up_ne (q := 0) (by omega), ← h1]
    by_cases ei : i = (σ 8 4).toNat
    · rw [ei, mj_up_eq, mj_up_eq]
      omega
    · rw [mj_up_ne (by omega), mj_up_ne (by omega)]
      exact h4 i (by omega)
  · have ec : z_pp σ c = σ := if_neg e
    have et : z_pt τ c = τ := if_pos (by omega)
    rw [ec, et]
    exact ⟨⟨h1, h2, h3, h4⟩, fun z => absurd z e, by omega⟩
theorem z_pcs_o {q k : Nat} (h : ¬ (q = 33 ∨ (q = 8 ∧ k = 4))) : ∀ (l : List Int) (σ : mj_S), z_pcs σ l q k = σ q k
  | [], σ => rfl
  | c :: l, σ => by
    show z_pcs (z_pp σ c) l q k = σ q k
    rw [z_pcs_o h l, z_pp_o h]
theorem z_pms_o {q k : Nat} (h : ¬ (q = 24 ∨ (q = 0 ∧ k = 44))) : ∀ (l : List Int) (τ : mj_S), z_pms τ l q k = τ q k
  | [], τ => rfl
  | c :: l, τ => by
    show z_pms (z_pt τ c) l q k = τ q k
    rw [z_pms_o h l, z_pt_o h]
theorem z_P_l : ∀ {l : List Int} {σ τ : mj_S}, z_P σ τ → (∀ c, c ∈ l → 0 ≤ c ∧ c ≤ 65535) → z_P (z_pcs σ l) (z_pms τ l) ∧ σ 8 4 ≤ z_pcs σ l 8 4 ∧ (¬ l = [] → σ 8 4 < 400 → σ 8 4 < z_pcs σ l 8 4)
  | [], σ, τ, h, _ => ⟨h, Int.le_refl _, fun z => absurd rfl z⟩
  | c :: l, σ, τ, h, hl => by
    obtain ⟨a1, a2, a3⟩ := z_P_1 h (hl c List.mem_cons_self).1 (hl c List.mem_cons_self).2
    obtain ⟨b1, b2, b3⟩ := z_P_l (l := l) a1 (fun c' hc => hl c' (List.mem_cons_of_mem _ hc))
    have e1 : z_pcs σ (c :: l) = z_pcs (z_pp σ c) l := rfl
    have e2 : z_pms τ (c :: l) = z_pms (z_pt τ c) l := rfl
    rw [e1, e2]
    exact ⟨b1, by omega, fun _ z => by have := a2 z; omega⟩
theorem z_pms_f {τ : mj_S} (h : τ 0 44 = 400) : ∀ l : List Int, z_pms τ l = τ
  | [] => rfl
  | c :: l => by
    show z_pms (z_pt τ c) l = τ
    rw [show z_pt τ c = τ from if_pos h]
    exact z_pms_f h l
/-- digits of a number, from that of 10^t on -/
def z_dgs (v : Nat) : Nat → List Int
  | 0 => [48 + ((v % 10 : Nat) : Int)]
  | t + 1 => (48 + ((v / 10 ^ (t + 1) % 10 : Nat) : Int)) :: z_dgs v t
theorem z_dgs_r (v : Nat) : ∀ (t : Nat) (c : Int), c ∈ z_dgs v t → 0 ≤ c ∧ c ≤ 65535
  | 0, c, h => by
    have h' : c = 48 + ((v % 10 : Nat) : Int) := by simpa [z_dgs] using h
    omega
  | t + 1, c, h => by
    rcases List.mem_cons.mp h with h' | h'
    · omega
    · exact z_dgs_r v t c h'
theorem z_dgs_n (v t : Nat) : ¬ z_dgs v t = [] := by
  cases t with
  | zero => exact fun z => by cases z
  | succ t => exact fun z => by cases z
theorem z_10 (t : Nat) : 0 < 10 ^ t := Nat.pow_pos (by decide)
/-- the program: the rest of the digits -/
theorem n_c {v : Nat} {d : Nat} {Q : mj_Q} {y : Int} : ∀ (t : Nat) (σ : mj_S), t ≤ 8 → 0 ≤ σ 8 4 → Q none (z_pcs σ (z_dgs v t)) → qh_c121_8 (d + 1) Q y ((v % 10 ^ (t + 1) : Nat) : Int) 1 ((10 ^ t : Nat) : Int) σ := by
  have last : ∀ (σ : mj_S) (z : Int), Q none σ → qh_c121_8 (d + 1) Q y z 1 0 σ := fun σ z h => qw_c121_8 ⟨fun _ => h, fun z => absurd z (by decide)⟩
  intro t
  induction t with
  | zero =>
    intro σ ht h8 hq
    have e1 : ((v % 10 ^ (0 + 1) : Nat) : Int) = ((v % 10 : Nat) : Int) := by rfl
    have e2 : ((10 ^ 0 : Nat) : Int) = 1 := by rfl
    rw [e1, e2]
    refine qw_c121_8 ⟨fun z => absurd z (by decide), fun _ => ?_⟩
    rw [Int.ediv_one]
    refine ⟨by omega, by decide, by unfold mj_r; omega, by unfold mj_r; omega, fun _ => ⟨by unfold mj_r; omega, h8, by constructor <;> omega, fun σ1 e => ⟨by decide, by decide, ?_⟩⟩, fun z => absurd z (by decide)⟩
    refine last σ1 _ ?_
    rw [e, show (48 + ((v % 10 : Nat) : Int)) % 65536 = 48 + ((v % 10 : Nat) : Int) by omega]
    exact hq
  | succ t ih =>
    intro σ ht h8 hq
    have p0 := z_10 t
    have ep : 10 ^ (t + 1) = 10 * 10 ^ t := by rw [Nat.pow_succ]; omega
    have ep2 : 10 ^ (t + 1 + 1) = 10 ^ (t + 1) * 10 := by rw [Nat.pow_succ]
    have hd : v % 10 ^ (t + 1 + 1) / 10 ^ (t + 1) = v / 10 ^ (t + 1) % 10 := by rw [ep2]; exact Nat.mod_mul_right_div_self v (10 ^ (t + 1)) 10
    have hm : v % 10 ^ (t + 1 + 1) % 10 ^ (t + 1) = v % 10 ^ (t + 1) := Nat.mod_mod_of_dvd v ⟨10, ep2⟩
    have hdm := Nat.div_add_mod (v % 10 ^ (t + 1 + 1)) (10 ^ (t + 1))
    rw [hd, hm] at hdm
    have hle : 10 ^ (t + 1) ≤ 100000000 := by
      have : 10 ^ (t + 1) ≤ 10 ^ 8 := Nat.pow_le_pow_right (by decide) ht
      exact this
    have hp1 := z_10 (t + 1)
    have hlt : v % 10 ^ (t + 1 + 1) < 10 ^ (t + 1 + 1) := Nat.mod_lt _ (z_10 _)
    have eI : ((v % 10 ^ (t + 1 + 1) : Nat) : Int) / ((10 ^ (t + 1) : Nat) : Int) = ((v / 10 ^ (t + 1) % 10 : Nat) : Int) := by rw [← hd, Int.natCast_ediv]
    have eM : ((v / 10 ^ (t + 1) % 10 : Nat) : Int) * ((10 ^ (t + 1) : Nat) : Int) = ((10 ^ (t + 1) * (v / 10 ^ (t + 1) % 10) : Nat) : Int) := by rw [Int.natCast_mul, Int.mul_comm]
    have eD : ((10 ^ (t + 1) : Nat) : Int) / 10 = ((10 ^ t : Nat) : Int) := by rw [ep]; omega
    have eR : ((v % 10 ^ (t + 1 + 1) : Nat) : Int) - ((10 ^ (t + 1) * (v / 10 ^ (t + 1) % 10) : Nat) : Int) = ((v % 10 ^ (t + 1) : Nat) : Int) := by omega
    refine qw_c121_8 ⟨fun z => absurd z (by omega), fun _ => ?_⟩
    rw [eI, eM, eR, eD]
    refine ⟨by omega, by omega, by unfold mj_r; omega, by unfold mj_r; omega, fun _ => ⟨by unfold mj_r; omega, h8, by constructor <;> omega, fun σ1 e => ⟨by omega, by decide, ?_⟩⟩, fun z => absurd z (by decide)⟩
    rw [e, show (48 + ((v / 10 ^ (t + 1) % 10 : Nat) : Int)) % 65536 = 48 + ((v / 10 ^ (t + 1) % 10 : Nat) : Int) by omega]
    refine ih _ (by omega) ?_ hq
    unfold z_pp
    split
    · rw [mj_up_eq]; omega
    · exact h8
/-- the program: zeros in front are left out -/
theorem n_cz {v t : Nat} {d : Nat} {Q : mj_Q} {y : Int} {σ : mj_S} (ht : t ≤ 8) (h8 : 0 ≤ σ 8 4) (hv : v < 10 ^ (t + 1)) (hv2 : t = 0 ∨ 10 ^ t ≤ v) (hq : Q none (z_pcs σ (z_dgs v t))) : ∀ c, t + c ≤ 8 → qh_c121_8 (d + 1) Q y (v : Int) 0 ((10 ^ (t + c) : Nat) : Int) σ
  | 0, _ => by
    have full : qh_c121_8 (d + 1) Q y ((v % 10 ^ (t + 1) : Nat) : Int) 1 ((10 ^ t : Nat) : Int) σ := n_c t σ ht h8 hq
    rw [Nat.mod_eq_of_lt hv] at full
    show qh_c121_8 (d + 1) Q y (v : Int) 0 ((10 ^ t : Nat) : Int) σ
    have p0 := z_10 t
    have hle : 10 ^ t ≤ 100000000 := by
      have : 10 ^ t ≤ 10 ^ 8 := Nat.pow_le_pow_right (by decide) ht
      exact this
    have ep : 10 ^ (t + 1) = 10 * 10 ^ t := by rw [Nat.pow_succ]; omega
    have hd : v / 10 ^ t < 10 := by rw [Nat.div_lt_iff_lt_mul p0]; omega
    have eI : (v : Int) / ((10 ^ t : Nat) : Int) = ((v / 10 ^ t : Nat) : Int) := by rw [Int.natCast_ediv]
    have hdm := Nat.div_add_mod v (10 ^ t)
    have hml := Nat.mod_lt v p0
    have h1 : t = 0 ∨ 1 ≤ v / 10 ^ t := by
      rcases hv2 with h | h
      · exact Or.inl h
      · exact Or.inr ((Nat.le_div_iff_mul_le p0).mpr (by omega))
    have e0 : t = 0 → v / 10 ^ t = v % 10 := fun e => by subst e; omega
    have e9 : v / 10 ^ t = v / 10 ^ t % 10 := by omega
    generalize edg : v / 10 ^ t = dg at *
    have eM : (dg : Int) * ((10 ^ t : Nat) : Int) = ((10 ^ t * dg : Nat) : Int) := by rw [Int.natCast_mul, Int.mul_comm]
    have eR : (v : Int) - ((10 ^ t * dg : Nat) : Int) = ((v % 10 ^ t : Nat) : Int) := by omega
    have hpr : 10 ^ t * dg ≤ v := by omega
    have hv9 : v < 1000000000 := by omega
    have next : ∀ σ1, σ1 = z_pp σ ((48 + (dg : Int)) % 65536) → 0 ≤ ((10 ^ t : Nat) : Int) ∧ 0 < (10 : Int) ∧ qh_c121_8 (d + 1) Q y ((v % 10 ^ t : Nat) : Int) 1 (((10 ^ t : Nat) : Int) / 10) σ1 := by
      intro σ1 e1
      refine ⟨by omega, by decide, ?_⟩
      rw [show (48 + (dg : Int)) % 65536 = 48 + (dg : Int) by omega] at e1
      have h81 : 0 ≤ σ1 8 4 := by
        rw [e1]
        unfold z_pp
        split
        · rw [mj_up_eq]; omega
        · exact h8
      cases t with
      | zero =>
        rw [e0 rfl] at e1
        have e2 : ((10 ^ 0 : Nat) : Int) / 10 = 0 := by decide
        rw [e2]
        exact qw_c121_8 ⟨fun _ => by rw [e1]; exact hq, fun z => absurd z (by decide)⟩
      | succ t =>
        have e2 : ((10 ^ (t + 1) : Nat) : Int) / 10 = ((10 ^ t : Nat) : Int) := by rw [Nat.pow_succ]; omega
        rw [e2]
        refine n_c t σ1 (by omega) h81 ?_
        have eq2 : z_dgs v (t + 1) = (48 + (dg : Int)) :: z_dgs v t := by
          show (48 + ((v / 10 ^ (t + 1) % 10 : Nat) : Int)) :: z_dgs v t = _
          rw [edg, ← e9]
        rw [eq2] at hq
        rw [e1]
        exact hq
    refine qw_c121_8 ⟨fun z => absurd z (by omega), fun _ => ?_⟩
    rw [eI, eM, eR]
    refine ⟨by omega, by omega, by unfold mj_r; omega, by unfold mj_r; omega, fun z => absurd rfl z, fun _ => ⟨fun z => ⟨by unfold mj_r; omega, h8, by constructor <;> omega, next⟩, fun z => ⟨fun z2 => ?_, fun z2 => ⟨by unfold mj_r; omega, h8, by constructor <;> omega, next⟩⟩⟩⟩
    rcases h1 with h1 | h1
    · rw [h1] at z2
      exact absurd rfl z2
    · exact absurd z (by omega)
  | c + 1, hc => by
    have ih := n_cz (d := d) (Q := Q) (y := y) ht h8 hv hv2 hq c (by omega)
    have p0 := z_10 (t + c)
    have p1 := z_10 (t + c + 1)
    have ep : 10 ^ (t + c + 1) = 10 * 10 ^ (t + c) := by rw [Nat.pow_succ]; omega
    have hle : 10 ^ (t + c + 1) ≤ 100000000 := by
      have : 10 ^ (t + c + 1) ≤ 10 ^ 8 := Nat.pow_le_pow_right (by decide) (by omega)
      exact this
    have hvl : v < 10 ^ (t + c + 1) := by
      have : 10 ^ (t + 1) ≤ 10 ^ (t + c + 1) := Nat.pow_le_pow_right (by decide) (by omega)
      omega
    have e0 : v / 10 ^ (t + c + 1) = 0 := Nat.div_eq_of_lt hvl
    have eI : (v : Int) / ((10 ^ (t + c + 1) : Nat) : Int) = 0 := by rw [← Int.natCast_ediv, e0]; rfl
    show qh_c121_8 (d + 1) Q y (v : Int) 0 ((10 ^ (t + c + 1) : Nat) : Int) σ
    refine qw_c121_8 ⟨fun z => absurd z (by omega), fun _ => ?_⟩
    rw [eI, Int.zero_mul, Int.sub_zero]
    refine ⟨by omega, by omega, mj_0, by unfold mj_r; omega, fun z => absurd rfl z, fun _ => ⟨fun z => absurd z (by decide), fun _ => ⟨fun _ => ⟨by omega, by decide, ?_⟩, fun z => absurd z (by omega)⟩⟩⟩
    rw [show ((10 ^ (t + c + 1) : Nat) : Int) / 10 = ((10 ^ (t + c) : Nat) : Int) by rw [ep]; omega]
    exact ih
/-- the reference -/
theorem n_m {v : Nat} {d : Nat} {Q : mj_Q} : ∀ (t : Nat) (τ : mj_S), t ≤ 8 → (0 ≤ τ 0 44 ∧ τ 0 44 ≤ 400) → Q none (z_pms τ (z_dgs v t)) → qh_m55_18 (d + 1) Q (v : Int) ((10 ^ t : Nat) : Int) τ := by
  have n44 : ∀ (τ : mj_S) (c : Int), (0 ≤ τ 0 44 ∧ τ 0 44 ≤ 400) → 0 ≤ z_pt τ c 0 44 ∧ z_pt τ c 0 44 ≤ 400 := by
    intro τ c h
    unfold z_pt
    split
    · exact h
    · rw [mj_up_eq]; omega
  intro t
  induction t with
  | zero =>
    intro τ ht h4 hq
    have e2 : ((10 ^ 0 : Nat) : Int) = 1 := by rfl
    rw [e2]
    refine qw_m55_18 ⟨fun z => absurd z (by decide), fun _ => ?_⟩
    rw [Int.ediv_one]
    refine ⟨by omega, by decide, by omega, by decide, by unfold mj_r; omega, h4.1, h4.2, fun σ1 e1 => ⟨by decide, by decide, ?_⟩⟩
    refine qw_m55_18 ⟨fun _ => ?_, fun z => absurd z (by decide)⟩
    rw [e1, show 48 + (v : Int) % 10 = 48 + ((v % 10 : Nat) : Int) by omega]
    exact hq
  | succ t ih =>
    intro τ ht h4 hq
    have ep : 10 ^ (t + 1) = 10 * 10 ^ t := by rw [Nat.pow_succ]; omega
    have p0 := z_10 t
    have eI : (v : Int) / ((10 ^ (t + 1) : Nat) : Int) = ((v / 10 ^ (t + 1) : Nat) : Int) := by rw [Int.natCast_ediv]
    have e3 : ((v / 10 ^ (t + 1) : Nat) : Int) % 10 = ((v / 10 ^ (t + 1) % 10 : Nat) : Int) := by
      generalize v / 10 ^ (t + 1) = dg
      omega
    have hlt : v / 10 ^ (t + 1) % 10 < 10 := Nat.mod_lt _ (by decide)
    have hq' : Q none (z_pms (z_pt τ (48 + ((v / 10 ^ (t + 1) % 10 : Nat) : Int))) (z_dgs v t)) := hq
    refine qw_m55_18 ⟨fun z => absurd z (by omega), fun _ => ?_⟩
    rw [eI, e3]
    generalize v / 10 ^ (t + 1) % 10 = dg at hq' hlt ⊢
    refine ⟨by omega, by omega, Int.natCast_nonneg _, by decide, by unfold mj_r; omega, h4.1, h4.2, fun σ1 e1 => ⟨by omega, by decide, ?_⟩⟩
    rw [show ((10 ^ (t + 1) : Nat) : Int) / 10 = ((10 ^ t : Nat) : Int) by rw [ep]; omega, e1]
    exact ih _ (by omega) (n44 τ _ h4) hq'
theorem n_mz {v t : Nat} {d : Nat} {Q : mj_Q} {τ : mj_S} (ht : t ≤ 8) (hv : v < 10 ^ (t + 1)) (hv2 : t = 0 ∨ 10 ^ t ≤ v) (h : qh_m55_18 (d + 1) Q (v : Int) ((10 ^ t : Nat) : Int) τ) : ∀ c j, j + c = t → qh_m55_2 (d + 1) Q (v : Int) ((10 ^ j : Nat) : Int) τ
  | 0, j, hj => by
    have : j = t := by omega
    subst this
    have p0 := z_10 j
    have ep : 10 ^ (j + 1) = 10 * 10 ^ j := by rw [Nat.pow_succ]; omega
    have hd : v / 10 ^ j < 10 := by rw [Nat.div_lt_iff_lt_mul p0]; omega
    have eI : (v : Int) / ((10 ^ j : Nat) : Int) = ((v / 10 ^ j : Nat) : Int) := by rw [Int.natCast_ediv]
    refine qw_m55_2 ⟨by omega, by omega, fun _ => h, fun z => ?_⟩
    rw [eI] at z
    exact absurd z (by omega)
  | c + 1, j, hj => by
    have ih := n_mz (d := d) (Q := Q) ht hv hv2 h c (j + 1) (by omega)
    have p0 := z_10 j
    have ep : 10 ^ (j + 1) = 10 * 10 ^ j := by rw [Nat.pow_succ]; omega
    have hge : 10 ^ (j + 1) ≤ v := by
      have : 10 ^ (j + 1) ≤ 10 ^ t := Nat.pow_le_pow_right (by decide) (by omega)
      rcases hv2 with h2 | h2
      · omega
      · omega
    have hle : 10 ^ (j + 1) ≤ 100000000 := by
      have : 10 ^ (j + 1) ≤ 10 ^ 8 := Nat.pow_le_pow_right (by decide) (by omega)
      exact this
    have hd : 10 ≤ v / 10 ^ j := by rw [Nat.le_div_iff_mul_le p0]; omega
    have eI : (v : Int) / ((10 ^ j : Nat) : Int) = ((v / 10 ^ j : Nat) : Int) := by rw [Int.natCast_ediv]
    refine qw_m55_2 ⟨by omega, by omega, fun z => ?_, fun z => ⟨by unfold mj_r; omega, ?_⟩⟩
    · rw [eI] at z
      exact absurd z (by omega)
    · rw [show 10 * ((10 ^ j : Nat) : Int) = ((10 ^ (j + 1) : Nat) : Int) by rw [ep]; omega]
      exact ih
theorem z_tops : ∀ (t v : Nat), v < 10 ^ (t + 1) → ∃ s, s ≤ t ∧ v < 10 ^ (s + 1) ∧ (s = 0 ∨ 10 ^ s ≤ v)
  | 0, v, h => ⟨0, Nat.le_refl _, h, Or.inl rfl⟩
  | t + 1, v, h => by
    by_cases c : 10 ^ (t + 1) ≤ v
    · exact ⟨t + 1, Nat.le_refl _, h, Or.inr c⟩
    · obtain ⟨s, h1, h2, h3⟩ := z_tops t v (by omega)
      exact ⟨s, by omega, h2, h3⟩
/-- a number: both print the same -/
theorem t_num {v : Nat} (hv : v < 1000000000) : ∃ l : List Int, ¬ l = [] ∧ (∀ c, c ∈ l → 0 ≤ c ∧ c ≤ 65535) ∧ (∀ (d : Nat) (Q : mj_Q) (σ : mj_S), 0 ≤ σ 8 4 → Q none (z_pcs σ l) → mj_B mjc_L mjc_Ms (d + 2) 121 [.inr (.inl 8), .inl (v : Int)] σ Q) ∧ (∀ (d : Nat) (Q : mj_Q) (τ : mj_S), 0 ≤ τ 0 44 → τ 0 44 ≤ 400 → Q none (z_pms τ l) → mj_B mjm_L mjm_Ms (d + 2) 55 [.inr (.inl 0), .inl (v : Int)] τ Q) := by
  obtain ⟨t, h1, h2, h3⟩ := z_tops 8 v hv
  refine ⟨z_dgs v t, z_dgs_n v t, z_dgs_r v t, fun d Q σ h8 hq => ?_, fun d Q τ a1 a2 hq => ?_⟩
  · have := n_cz (d := d) (y := (v : Int)) h1 h8 h2 h3 hq (8 - t) (by omega)
    rw [show t + (8 - t) = 8 by omega] at this
    exact wq_c121 this
  · exact wq_m55 (n_mz h1 h2 h3 (n_m t τ h1 ⟨a1, a2⟩ hq) t 0 (by omega))
def z_ltr (f : Nat → Int) : Nat → Nat → List Int
  | 0, _ => []
  | m + 1, k => f k :: z_ltr f m (k + 1)
theorem z_ltr_r {f : Nat → Int} : ∀ {m k : Nat}, (∀ i, k ≤ i → i < k + m → 0 ≤ f i ∧ f i ≤ 65535) → ∀ c, c ∈ z_ltr f m k → 0 ≤ c ∧ c ≤ 65535
  | 0, k, _, c, h => by cases h
  | m + 1, k, hf, c, h => by
    rcases List.mem_cons.mp h with h' | h'
    · rw [h']; exact hf k (Nat.le_refl _) (by omega)
    · exact z_ltr_r (fun i i1 i2 => hf i (by omega) (by omega)) c h'
/-- a symbol: both print its name -/
theorem t_sym {i n : Nat} {f : Nat → Int} (hn : 1 ≤ n ∧ n ≤ 8) (hf : ∀ k, k < n → 0 ≤ f k ∧ f k ≤ 65535) (hi : i < 60) : ¬ z_ltr f n 0 = [] ∧ (∀ c, c ∈ z_ltr f n 0 → 0 ≤ c ∧ c ≤ 65535) ∧
    (∀ (d : Nat) (Q : mj_Q) (σ : mj_S), 0 ≤ σ 8 4 → (i : Int) < σ 1 2 → σ 1 2 ≤ 60 → σ 10 i = n → (∀ k, k < n → σ 9 (8 * i + k) = f k) → Q none (z_pcs σ (z_ltr f n 0)) → mj_B mjc_L mjc_Ms (d + 2) 120 [.inr (.inl 8), .inl (268435456 + (i : Int))] σ Q) ∧
    (∀ (d : Nat) (Q : mj_Q) (τ : mj_S), 0 ≤ τ 0 44 → τ 0 44 ≤ 400 → τ 3 i = n → (∀ k, k < n → τ 2 (8 * i + k) = f k) → Q none (z_pms τ (z_ltr f n 0)) → mj_B mjm_L mjm_Ms (d + 2) 56 [.inr (.inl 0), .inl (268435456 + (i : Int))] τ Q) := by
  refine ⟨?_, z_ltr_r (fun k _ h2 => hf k (by omega)), ?_, ?_⟩
  · cases n with
    | zero => omega
    | succ n => exact fun z => by cases z
  · intro d Q σ h8 hk hk6 hl hlt hq
    have go : ∀ m k (σ : mj_S), k + m = n → 0 ≤ σ 8 4 → (i : Int) < σ 1 2 → (∀ k, k < n → σ 9 (8 * i + k) = f k) → Q none (z_pcs σ (z_ltr f m k)) → qh_c120_24 (d + 1) Q (268435456 + (i : Int)) (n : Int) (k : Int) σ := by
      intro m
      induction m with
      | zero => exact fun k σ hk _ _ _ hq => qw_c120_24 ⟨fun _ => hq, fun z => absurd z (by omega)⟩
      | succ m ih =>
        intro k σ hkm h8 hi2 hlt hq
        refine qw_c120_24 ⟨fun z => absurd z (by omega), fun _ => ?_⟩
        have fk := hf k (by omega)
        refine wq_c12 (d := d) ⟨by unfold mj_r; omega, fun z => absurd z (by omega), fun _ => ⟨fun z => absurd z (by omega), fun _ => ⟨fun z => absurd z (by omega), fun _ => ⟨fun z => absurd z (by omega), fun _ => ?_⟩⟩⟩⟩
        rw [show ((268435456 + (i : Int) - 268435456) * 8 + (k : Int)).toNat = 8 * i + k by omega, hlt k (by omega)]
        refine ⟨by unfold mj_r; omega, by unfold mj_r; omega, by omega, by omega, fk, _, rfl, h8, fk, fun σ3 e3 => ⟨by unfold mj_r; omega, ?_⟩⟩
        rw [show (k : Int) + 1 = ((k + 1 : Nat) : Int) by omega, e3]
        refine ih (k + 1) _ (by omega) ?_ (by rw [z_pp_o (by omega)]; exact hi2) (fun k' hk' => by rw [z_pp_o (by omega)]; exact hlt k' hk') hq
        unfold z_pp
        split
        · rw [mj_up_eq]; omega
        · exact h8
    have esl : z_sl σ (268435456 + (i : Int)) = n := by
      unfold z_sl
      rw [if_pos ⟨by omega, by omega⟩, show (268435456 + (i : Int) - 268435456).toNat = i by omega, hl]
    refine wq_c120 ⟨fun _ => ⟨by omega, hk6, ?_⟩, fun z => absurd z.2 (by omega)⟩
    rw [esl]
    exact go n 0 σ (by omega) h8 hk hlt hq
  · intro d Q τ a1 a2 hl hlt hq
    have go : ∀ m k (τ : mj_S), k + m = n → (0 ≤ τ 0 44 ∧ τ 0 44 ≤ 400) → τ 3 i = n → (∀ k, k < n → τ 2 (8 * i + k) = f k) → Q none (z_pms τ (z_ltr f m k)) → qh_m56_14 (d + 1) Q (268435456 + (i : Int)) (k : Int) τ := by
      intro m
      induction m with
      | zero =>
        intro k τ hk h4 hl _ hq
        refine qw_m56_14 ⟨fun z => absurd ⟨by omega, by omega⟩ z, fun _ => ?_⟩
        rw [show (268435456 + (i : Int) - 268435456).toNat = i by omega, hl]
        exact ⟨by unfold mj_r; omega, by omega, by omega, fun _ => hq, fun z => absurd z (by omega)⟩
      | succ m ih =>
        intro k τ hkm h4 hl hlt hq
        refine qw_m56_14 ⟨fun z => absurd ⟨by omega, by omega⟩ z, fun _ => ?_⟩
        rw [show (268435456 + (i : Int) - 268435456).toNat = i by omega, hl, show (8 * (268435456 + (i : Int) - 268435456) + (k : Int)).toNat = 8 * i + k by omega, hlt k (by omega)]
        refine ⟨by unfold mj_r; omega, by omega, by omega, fun z => absurd z (by omega), fun _ => ⟨by unfold mj_r; omega, by unfold mj_r; omega, by unfold mj_r; omega, by omega, by omega, h4.1, h4.2, fun σ1 e1 => ⟨by unfold mj_r; omega, ?_⟩⟩⟩
        rw [show (k : Int) + 1 = ((k + 1 : Nat) : Int) by omega, e1]
        refine ih (k + 1) _ (by omega) ?_ (by rw [z_pt_o (by omega)]; exact hl) (fun k' hk' => by rw [z_pt_o (by omega)]; exact hlt k' hk') hq
        unfold z_pt
        split
        · exact h4
        · rw [mj_up_eq]; omega
    exact wq_m56 ⟨fun _ => go n 0 τ (by omega) ⟨a1, a2⟩ hl hlt hq, fun z => absurd ⟨by omega, by omega⟩ z⟩
/-- an atom -/
theorem t_atom {σ0 τ0 : mj_S} (hY : z_Y σ0 τ0) {x : Int} (h0 : 0 ≤ x) (h1 : x < 268435456 + σ0 1 2) : ∃ l : List Int, ¬ l = [] ∧ (∀ c, c ∈ l → 0 ≤ c ∧ c ≤ 65535) ∧
    (∀ (d : Nat) (Q : mj_Q) (σ : mj_S), (∀ q k, q = 1 ∨ q = 9 ∨ q = 10 → σ q k = σ0 q k) → 0 ≤ σ 8 4 → Q none (z_pcs σ l) → mj_B mjc_L mjc_Ms (d + 3) 120 [.inr (.inl 8), .inl x] σ Q) ∧
    (∀ (d : Nat) (Q : mj_Q) (τ : mj_S), (∀ q k, q = 2 ∨ q = 3 → τ q k = τ0 q k) → 0 ≤ τ 0 44 → τ 0 44 ≤ 400 → Q none (z_pms τ l) → mj_B mjm_L mjm_Ms (d + 3) 56 [.inr (.inl 0), .inl x] τ Q) := by
  obtain ⟨y1, y2, y3, y4⟩ := hY
  by_cases c : x < 268435456
  · obtain ⟨v, rfl⟩ : ∃ v : Nat, x = v := ⟨x.toNat, by omega⟩
    obtain ⟨l, l1, l2, l3, l4⟩ := t_num (v := v) (by omega)
    refine ⟨l, l1, l2, fun d Q σ _ h8 hq => ?_, fun d Q τ _ a1 a2 hq => ?_⟩
    · exact wq_c120 (d := d + 1) ⟨fun z => absurd ⟨by omega, by omega⟩ z, fun _ => l3 d _ σ h8 ⟨rfl, hq⟩⟩
    · refine wq_m56 (d := d + 1) ⟨fun z => absurd z.1 (by omega), fun _ => l4 d _ τ a1 a2 ⟨rfl, ?_⟩⟩
      exact qw_m56_14 ⟨fun _ => hq, fun z => absurd z.1 (by omega)⟩
  · obtain ⟨i, rfl⟩ : ∃ i : Nat, x = 268435456 + (i : Int) := ⟨(x - 268435456).toNat, by omega⟩
    obtain ⟨g1, g2, g3, g4⟩ := y4 i (by omega)
    obtain ⟨n, en⟩ : ∃ n : Nat, σ0 10 i = n := ⟨(σ0 10 i).toNat, by omega⟩
    obtain ⟨l1, l2, l3, l4⟩ := t_sym (i := i) (n := n) (f := fun k => σ0 9 (8 * i + k)) (by omega) (fun k hk => (g4 k (by omega)).2) (by omega)
    refine ⟨_, l1, l2, fun d Q σ fr h8 hq => ?_, fun d Q τ fr a1 a2 hq => ?_⟩
    · exact l3 (d + 1) Q σ h8 (by rw [fr 1 2 (by omega)]; omega) (by rw [fr 1 2 (by omega)]; exact y3) (by rw [fr 10 i (by omega)]; exact en) (fun k _ => fr 9 _ (by omega)) hq
    · exact l4 (d + 1) Q τ a1 a2 (by rw [fr 3 i (by omega), ← g1]; exact en) (fun k hk => by rw [fr 2 _ (by omega)]; exact (g4 k (by omega)).1.symm) hq
