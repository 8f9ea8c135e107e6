/-! small methods: what they need, answer and leave behind -/
theorem bo_0 {p : Prop} [Decidable p] (h : (if p then (1 : Int) else 0) = 0) : ¬ p := by
  intro c
  rw [if_pos c] at h
  omega
theorem bo_1 {p : Prop} [Decidable p] (h : ¬ (if p then (1 : Int) else 0) = 0) : p := by
  refine Decidable.byContradiction (fun c => ?_)
  rw [if_neg c] at h
  exact h rfl
theorem bo_fit {p : Prop} [Decidable p] : mj_fit .boolean (if p then (1 : Int) else 0) := by
  by_cases c : p
  · rw [if_pos c]; exact Or.inr rfl
  · rw [if_neg c]; exact Or.inl rfl
theorem z_rd (σ : mj_S) (q k : Nat) (x : Int) (i j : Nat) : mj_up σ q k x i j = if i = q ∧ j = k then x else σ i j := by
  unfold mj_up
  by_cases h1 : i = q
  · by_cases h2 : j = k
    · rw [if_pos h1, if_pos h2, if_pos ⟨h1, h2⟩]
    · rw [if_pos h1, if_neg h2, if_neg (fun c => h2 c.2)]
  · rw [if_neg h1, if_neg (fun c => h1 c.1)]
theorem z_rq (σ : mj_S) (q k : Nat) (x : Int) (i : Nat) (h : i ≠ q) : mj_up σ q k x i = σ i := mj_up_off i h
abbrev z_dr (x : Int) : Prop := -1000 ≤ x ∧ x ≤ 1000000000
abbrev z_pr (x : Int) : Prop := 536870912 ≤ x ∧ x < 536871512
abbrev z_er (c : Int) : Prop := c = 32 ∨ c = 10 ∨ c = 59 ∨ c = 40 ∨ c = 41 ∨ c = 39
abbrev z_dg (c : Int) : Prop := 48 ≤ c ∧ c ≤ 57
abbrev z_le (c : Int) : Prop := (97 ≤ c ∧ c ≤ 122) ∨ c = 43 ∨ c = 45 ∨ c = 42 ∨ c = 60 ∨ c = 61 ∨ c = 63
abbrev z_va (x : Int) : Prop := 268435458 < x ∧ x < 536870912 ∧ ¬ x = 268435465
def z_cd (B : Nat → Int) (x : Int) : Int := if 536870912 ≤ x ∧ x < 536871512 then B (x - 536870912).toNat else 268435456
def z_sl (σ : mj_S) (x : Int) : Int := if 268435456 ≤ x ∧ x < 268435456 + σ 1 2 then σ 10 (x - 268435456).toNat else 0
def z_op (σ : mj_S) (q : Nat) (x : Int) : Int := if 0 ≤ x ∧ x < σ 4 3 then σ q x.toNat else 0
def z_sto (σ : mj_S) (a b : Int) : mj_S := if σ 2 8 < 400 then mj_up (mj_up (mj_up σ 11 (σ 2 8).toNat a) 12 (σ 2 8).toNat b) 2 8 (σ 2 8 + 1) else σ
def z_ew (σ : mj_S) (p x : Int) : mj_S := if 536870912 ≤ p ∧ p < 536870912 + σ 2 8 then mj_up σ 12 (p - 536870912).toNat x else σ
def z_rl (σ : mj_S) (q k : Nat) (b : Int) : mj_S := if 0 ≤ b ∧ b < σ q k then mj_up σ q k b else σ
def z_aw (σ : mj_S) (i a b : Int) : mj_S := if 0 ≤ i ∧ i < 602 then mj_up (mj_up σ 16 i.toNat a) 17 i.toNat b else σ
def z_put (σ : mj_S) (a b n : Int) : mj_S := if σ 4 3 < 2400 then mj_up (mj_up (mj_up (mj_up σ 19 (σ 4 3).toNat a) 20 (σ 4 3).toNat b) 21 (σ 4 3).toNat n) 4 3 (σ 4 3 + 1) else σ
def z_kn (σ : mj_S) (a b : Int) : mj_S := if σ 5 4 < 400 then mj_up (mj_up (mj_up σ 22 (σ 5 4).toNat a) 23 (σ 5 4).toNat b) 5 4 (σ 5 4 + 1) else σ
def z_ni (σ : mj_S) (x b : Int) : Int := if b = 0 then x else z_cd (σ 11) x
def z_ar (x : Int) : Int := if x = 268435466 ∨ x = 268435472 ∨ x = 268435473 ∨ x = 268435474 ∨ x = 268435475 then 2 else 1
def z_rf (σ : mj_S) (x n : Int) : Int := if 268435456 ≤ x ∧ x < 268435516 ∧ ¬ σ 24 (x - 268435456).toNat = 0 then (if σ 26 (x - 268435456).toNat = n then 0 else 4) else 3
def z_st (σ : mj_S) (x : Int) : Int := if 268435456 ≤ x ∧ x < 268435516 then σ 28 (x - 268435456).toNat else -1
def z_bl (σ : mj_S) (k : Int) : Int := if 0 ≤ σ 7 7 - 1 - k ∧ σ 7 7 - 1 - k < 100 then σ 29 (σ 7 7 - 1 - k).toNat else 268435456
def z_vr (σ : mj_S) (k : Int) : Int := if 0 ≤ σ 7 8 + k ∧ σ 7 8 + k < 100 then σ 29 (σ 7 8 + k).toNat else 268435456
def z_tr (b : Int) : Int := if b = 0 then 268435456 else 268435457
def z_nu (x : Int) : Int := if 0 ≤ x ∧ x ≤ 268435455 then x else 0
def z_rm (σ : mj_S) (p a b c : Int) : mj_S := if 0 ≤ p ∧ p < 100 then mj_up (mj_up (mj_up σ 30 p.toNat a) 31 p.toNat b) 32 p.toNat c else σ
def z_pa (σ : mj_S) (x : Int) : mj_S := if σ 8 5 < 602 then mj_up (mj_up σ 34 (σ 8 5).toNat x) 8 5 (σ 8 5 + 1) else σ
def z_pp (σ : mj_S) (c : Int) : mj_S := if σ 8 4 < 400 then mj_up (mj_up σ 33 (σ 8 4).toNat c) 8 4 (σ 8 4 + 1) else σ
def z_sp (τ : mj_S) (e : Int) : mj_S := if τ 0 5 = 0 then mj_up τ 0 5 e else τ
def z_lk (τ : mj_S) : Int := if τ 0 4 < τ 0 2 then τ 1 (τ 0 4).toNat else -1
def z_sr (τ : mj_S) (a b : Int) : mj_S := if τ 0 11 = 400 then z_sp τ 11 else mj_up (mj_up (mj_up τ 4 (τ 0 11).toNat a) 5 (τ 0 11).toNat b) 0 11 (τ 0 11 + 1)
def z_la (τ : mj_S) (w x n t : Int) : mj_S := mj_up (mj_up (mj_up (mj_up (mj_up τ 16 (τ 0 26).toNat w) 17 (τ 0 26).toNat x) 18 (τ 0 26).toNat n) 19 (τ 0 26).toNat t) 0 26 (τ 0 26 + 1)
def z_bi (τ : mj_S) (a b : Int) : mj_S := mj_up (mj_up (mj_up τ 21 (τ 0 33).toNat a) 22 (τ 0 33).toNat b) 0 33 (τ 0 33 + 1)
def z_se (τ : mj_S) : mj_S := if τ 0 41 = τ 0 40 then z_sp τ 5 else mj_up τ 0 41 (τ 0 41 + 1)
def z_pu (τ : mj_S) (x : Int) : mj_S := if τ 0 31 = 100 then z_sp τ 9 else mj_up (mj_up (mj_up τ 20 (τ 0 31).toNat x) 0 31 (τ 0 31 + 1)) 0 42 (if τ 0 42 < τ 0 31 + 1 then τ 0 31 + 1 else τ 0 42)
def z_pt (τ : mj_S) (c : Int) : mj_S := if τ 0 44 = 400 then τ else mj_up (mj_up τ 24 (τ 0 44).toNat (c % 65536)) 0 44 (τ 0 44 + 1)
set_option maxRecDepth 20000 in
/-- ListSpeaker.isNumber_ -/
theorem wq_c7 {d : Nat} {σ : mj_S} {Q : mj_Q} {x1 : Int} (h : (x1 < 0 → Q (some (.inl 0)) σ) ∧ (0 ≤ x1 → (268435455 < x1 → Q (some (.inl 0)) σ) ∧ (x1 ≤ 268435455 → Q (some (.inl 1)) σ))) : mj_B mjc_L mjc_Ms (d + 1) 7 [.inl x1] σ Q := by
  refine mj_B_of (M := mjcM7) (ls := [some (.inl x1)]) rfl (mj_c1_all rfl) (Nat.le_of_ble_eq_true rfl) rfl ?_
  refine mr_iload (pc' := 1) rfl rfl rfl ?_
  refine mr_if_lt (pc' := 4) rfl rfl (fun c => ?_) (fun c => ?_)
  · replace h := h.1 c
    refine mr_const (pc' := 15) rfl rfl (by unfold mj_r; decide) ?_
    exact mr_iret rfl rfl (by simp [mj_fit]) h
  · replace h := h.2 c
    refine mr_iload (pc' := 5) rfl rfl rfl ?_
    refine mr_const (pc' := 7) rfl rfl (by unfold mj_r; decide) ?_
    refine mr_ic_gt (pc' := 10) rfl rfl (fun c => ?_) (fun c => ?_)
    · replace h := h.1 c
      refine mr_const (pc' := 15) rfl rfl (by unfold mj_r; decide) ?_
      exact mr_iret rfl rfl (by simp [mj_fit]) h
    · replace h := h.2 c
      refine mr_const (pc' := 11) rfl rfl (by unfold mj_r; decide) ?_
      refine mr_goto rfl ?_
      exact mr_iret rfl rfl (by simp [mj_fit]) h
theorem s_c7 {d : Nat} {σ : mj_S} {Q : mj_Q} {x1 : Int}  (h : Q (some (.inl (if 0 ≤ x1 ∧ x1 ≤ 268435455 then 1 else 0))) σ) : mj_B mjc_L mjc_Ms (d + 1) 7 [.inl x1] σ Q := by
  refine wq_c7 ?_
  repeat' (first | apply And.intro | intro _)
  all_goals first | exact h | omega | (unfold mj_r at *; omega) | trivial | exact bo_fit | assumption | ((try subst_vars); (try simp only [z_rd] at *); (repeat' split at h) <;> first | exact h | (exfalso; omega) | (simp_all; done) | (simp_all; omega))
set_option maxRecDepth 20000 in
/-- ListSpeaker.isSymbol_ -/
theorem wq_c8 {d : Nat} {σ : mj_S} {Q : mj_Q} {x1 : Int} (h : (x1 < 268435456 → Q (some (.inl 0)) σ) ∧ (268435456 ≤ x1 → (536870912 ≤ x1 → Q (some (.inl 0)) σ) ∧ (x1 < 536870912 → Q (some (.inl 1)) σ))) : mj_B mjc_L mjc_Ms (d + 1) 8 [.inl x1] σ Q := by
  refine mj_B_of (M := mjcM8) (ls := [some (.inl x1)]) rfl (mj_c1_all rfl) (Nat.le_of_ble_eq_true rfl) rfl ?_
  refine mr_iload (pc' := 1) rfl rfl rfl ?_
  refine mr_const (pc' := 3) rfl rfl (by unfold mj_r; decide) ?_
  refine mr_ic_lt (pc' := 6) rfl rfl (fun c => ?_) (fun c => ?_)
  · replace h := h.1 c
    refine mr_const (pc' := 17) rfl rfl (by unfold mj_r; decide) ?_
    exact mr_iret rfl rfl (by simp [mj_fit]) h
  · replace h := h.2 c
    refine mr_iload (pc' := 7) rfl rfl rfl ?_
    refine mr_const (pc' := 9) rfl rfl (by unfold mj_r; decide) ?_
    refine mr_ic_ge (pc' := 12) rfl rfl (fun c => ?_) (fun c => ?_)
    · replace h := h.1 c
      refine mr_const (pc' := 17) rfl rfl (by unfold mj_r; decide) ?_
      exact mr_iret rfl rfl (by simp [mj_fit]) h
    · replace h := h.2 c
      refine mr_const (pc' := 13) rfl rfl (by unfold mj_r; decide) ?_
      refine mr_goto rfl ?_
      exact mr_iret rfl rfl (by simp [mj_fit]) h
theorem s_c8 {d : Nat} {σ : mj_S} {Q : mj_Q} {x1 : Int}  (h : Q (some (.inl (if 268435456 ≤ x1 ∧ x1 < 536870912 then 1 else 0))) σ) : mj_B mjc_L mjc_Ms (d + 1) 8 [.inl x1] σ Q := by
  refine wq_c8 ?_
  repeat' (first | apply And.intro | intro _)
  all_goals first | exact h | omega | (unfold mj_r at *; omega) | trivial | exact bo_fit | assumption | ((try subst_vars); (try simp only [z_rd] at *); (repeat' split at h) <;> first | exact h | (exfalso; omega) | (simp_all; done) | (simp_all; omega))
set_option maxRecDepth 20000 in
/-- ListSpeaker.isPair_ -/
theorem wq_c9 {d : Nat} {σ : mj_S} {Q : mj_Q} {x1 : Int} (h : (x1 < 536870912 → Q (some (.inl 0)) σ) ∧ (536870912 ≤ x1 → Q (some (.inl 1)) σ)) : mj_B mjc_L mjc_Ms (d + 1) 9 [.inl x1] σ Q := by
  refine mj_B_of (M := mjcM9) (ls := [some (.inl x1)]) rfl (mj_c1_all rfl) (Nat.le_of_ble_eq_true rfl) rfl ?_
  refine mr_iload (pc' := 1) rfl rfl rfl ?_
  refine mr_const (pc' := 3) rfl rfl (by unfold mj_r; decide) ?_
  refine mr_ic_lt (pc' := 6) rfl rfl (fun c => ?_) (fun c => ?_)
  · replace h := h.1 c
    refine mr_const (pc' := 11) rfl rfl (by unfold mj_r; decide) ?_
    exact mr_iret rfl rfl (by simp [mj_fit]) h
  · replace h := h.2 c
    refine mr_const (pc' := 7) rfl rfl (by unfold mj_r; decide) ?_
    refine mr_goto rfl ?_
    exact mr_iret rfl rfl (by simp [mj_fit]) h
theorem s_c9 {d : Nat} {σ : mj_S} {Q : mj_Q} {x1 : Int}  (h : Q (some (.inl (if 536870912 ≤ x1 then 1 else 0))) σ) : mj_B mjc_L mjc_Ms (d + 1) 9 [.inl x1] σ Q := by
  refine wq_c9 ?_
  repeat' (first | apply And.intro | intro _)
  all_goals first | exact h | omega | (unfold mj_r at *; omega) | trivial | exact bo_fit | assumption | ((try subst_vars); (try simp only [z_rd] at *); (repeat' split at h) <;> first | exact h | (exfalso; omega) | (simp_all; done) | (simp_all; omega))
set_option maxRecDepth 20000 in
/-- ListSpeaker$Symbols.known_ -/
theorem wq_c10 {d : Nat} {σ : mj_S} {Q : mj_Q} (h : Q (some (.inl (σ 1 2))) σ) : mj_B mjc_L mjc_Ms (d + 1) 10 [.inr (.inl 1)] σ Q := by
  refine mj_B_of (M := mjcM10) (ls := [some (.inr (.inl 1))]) rfl (mj_c1_all rfl) (Nat.le_of_ble_eq_true rfl) rfl ?_
  refine mr_aload (pc' := 1) rfl rfl rfl ?_
  refine mr_get (ci := 0) (pc' := 4) rfl rfl rfl rfl ?_
  exact mr_iret rfl rfl trivial h
theorem s_c10 {d : Nat} {σ : mj_S} {Q : mj_Q}  (h : Q (some (.inl (σ 1 2))) σ) : mj_B mjc_L mjc_Ms (d + 1) 10 [.inr (.inl 1)] σ Q := by
  refine wq_c10 ?_
  repeat' (first | apply And.intro | intro _)
  all_goals first | exact h | omega | (unfold mj_r at *; omega) | trivial | exact bo_fit | assumption | ((try subst_vars); (try simp only [z_rd] at *); (repeat' split at h) <;> first | exact h | (exfalso; omega) | (simp_all; done) | (simp_all; omega))
set_option maxRecDepth 20000 in
/-- ListSpeaker$Pairs.stored_ -/
theorem wq_c16 {d : Nat} {σ : mj_S} {Q : mj_Q} (h : Q (some (.inl (σ 2 8))) σ) : mj_B mjc_L mjc_Ms (d + 1) 16 [.inr (.inl 2)] σ Q := by
  refine mj_B_of (M := mjcM16) (ls := [some (.inr (.inl 2))]) rfl (mj_c1_all rfl) (Nat.le_of_ble_eq_true rfl) rfl ?_
  refine mr_aload (pc' := 1) rfl rfl rfl ?_
  refine mr_get (ci := 0) (pc' := 4) rfl rfl rfl rfl ?_
  exact mr_iret rfl rfl trivial h
theorem s_c16 {d : Nat} {σ : mj_S} {Q : mj_Q}  (h : Q (some (.inl (σ 2 8))) σ) : mj_B mjc_L mjc_Ms (d + 1) 16 [.inr (.inl 2)] σ Q := by
  refine wq_c16 ?_
  repeat' (first | apply And.intro | intro _)
  all_goals first | exact h | omega | (unfold mj_r at *; omega) | trivial | exact bo_fit | assumption | ((try subst_vars); (try simp only [z_rd] at *); (repeat' split at h) <;> first | exact h | (exfalso; omega) | (simp_all; done) | (simp_all; omega))
set_option maxRecDepth 20000 in
/-- ListSpeaker$Pairs.made_ -/
theorem wq_c17 {d : Nat} {σ : mj_S} {Q : mj_Q} (h : mj_r ((σ 2 0) - (σ 2 9)) ∧ Q (some (.inl ((σ 2 0) - (σ 2 9)))) σ) : mj_B mjc_L mjc_Ms (d + 1) 17 [.inr (.inl 2)] σ Q := by
  refine mj_B_of (M := mjcM17) (ls := [some (.inr (.inl 2))]) rfl (mj_c1_all rfl) (Nat.le_of_ble_eq_true rfl) rfl ?_
  refine mr_aload (pc' := 1) rfl rfl rfl ?_
  refine mr_get (ci := 0) (pc' := 4) rfl rfl rfl rfl ?_
  refine mr_aload (pc' := 5) rfl rfl rfl ?_
  refine mr_get (ci := 0) (pc' := 8) rfl rfl rfl rfl ?_
  obtain ⟨h0, h⟩ := h
  refine mr_isub (pc' := 9) rfl rfl h0 ?_
  exact mr_iret rfl rfl trivial h
theorem s_c17 {d : Nat} {σ : mj_S} {Q : mj_Q} (p0 : mj_r (σ 2 0 - σ 2 9)) (h : Q (some (.inl (σ 2 0 - σ 2 9))) σ) : mj_B mjc_L mjc_Ms (d + 1) 17 [.inr (.inl 2)] σ Q := by
  refine wq_c17 ?_
  repeat' (first | apply And.intro | intro _)
  all_goals first | exact h | omega | (unfold mj_r at *; omega) | trivial | exact bo_fit | assumption | ((try subst_vars); (try simp only [z_rd] at *); (repeat' split at h) <;> first | exact h | (exfalso; omega) | (simp_all; done) | (simp_all; omega))
set_option maxRecDepth 20000 in
/-- ListSpeaker$Pairs.collections_ -/
theorem wq_c18 {d : Nat} {σ : mj_S} {Q : mj_Q} (h : Q (some (.inl (σ 2 10))) σ) : mj_B mjc_L mjc_Ms (d + 1) 18 [.inr (.inl 2)] σ Q := by
  refine mj_B_of (M := mjcM18) (ls := [some (.inr (.inl 2))]) rfl (mj_c1_all rfl) (Nat.le_of_ble_eq_true rfl) rfl ?_
  refine mr_aload (pc' := 1) rfl rfl rfl ?_
  refine mr_get (ci := 0) (pc' := 4) rfl rfl rfl rfl ?_
  exact mr_iret rfl rfl trivial h
theorem s_c18 {d : Nat} {σ : mj_S} {Q : mj_Q}  (h : Q (some (.inl (σ 2 10))) σ) : mj_B mjc_L mjc_Ms (d + 1) 18 [.inr (.inl 2)] σ Q := by
  refine wq_c18 ?_
  repeat' (first | apply And.intro | intro _)
  all_goals first | exact h | omega | (unfold mj_r at *; omega) | trivial | exact bo_fit | assumption | ((try subst_vars); (try simp only [z_rd] at *); (repeat' split at h) <;> first | exact h | (exfalso; omega) | (simp_all; done) | (simp_all; omega))
set_option maxRecDepth 20000 in
/-- ListSpeaker$Pairs.compared_ -/
theorem wq_c19 {d : Nat} {σ : mj_S} {Q : mj_Q} (h : Q (some (.inl (σ 2 11))) σ) : mj_B mjc_L mjc_Ms (d + 1) 19 [.inr (.inl 2)] σ Q := by
  refine mj_B_of (M := mjcM19) (ls := [some (.inr (.inl 2))]) rfl (mj_c1_all rfl) (Nat.le_of_ble_eq_true rfl) rfl ?_
  refine mr_aload (pc' := 1) rfl rfl rfl ?_
  refine mr_get (ci := 0) (pc' := 4) rfl rfl rfl rfl ?_
  exact mr_iret rfl rfl trivial h
theorem s_c19 {d : Nat} {σ : mj_S} {Q : mj_Q}  (h : Q (some (.inl (σ 2 11))) σ) : mj_B mjc_L mjc_Ms (d + 1) 19 [.inr (.inl 2)] σ Q := by
  refine wq_c19 ?_
  repeat' (first | apply And.intro | intro _)
  all_goals first | exact h | omega | (unfold mj_r at *; omega) | trivial | exact bo_fit | assumption | ((try subst_vars); (try simp only [z_rd] at *); (repeat' split at h) <;> first | exact h | (exfalso; omega) | (simp_all; done) | (simp_all; omega))
set_option maxRecDepth 20000 in
/-- ListSpeaker$Code.length_ -/
theorem wq_c54 {d : Nat} {σ : mj_S} {Q : mj_Q} (h : Q (some (.inl (σ 4 3))) σ) : mj_B mjc_L mjc_Ms (d + 1) 54 [.inr (.inl 4)] σ Q := by
  refine mj_B_of (M := mjcM54) (ls := [some (.inr (.inl 4))]) rfl (mj_c1_all rfl) (Nat.le_of_ble_eq_true rfl) rfl ?_
  refine mr_aload (pc' := 1) rfl rfl rfl ?_
  refine mr_get (ci := 0) (pc' := 4) rfl rfl rfl rfl ?_
  exact mr_iret rfl rfl trivial h
theorem s_c54 {d : Nat} {σ : mj_S} {Q : mj_Q}  (h : Q (some (.inl (σ 4 3))) σ) : mj_B mjc_L mjc_Ms (d + 1) 54 [.inr (.inl 4)] σ Q := by
  refine wq_c54 ?_
  repeat' (first | apply And.intro | intro _)
  all_goals first | exact h | omega | (unfold mj_r at *; omega) | trivial | exact bo_fit | assumption | ((try subst_vars); (try simp only [z_rd] at *); (repeat' split at h) <;> first | exact h | (exfalso; omega) | (simp_all; done) | (simp_all; omega))
set_option maxRecDepth 20000 in
/-- ListSpeaker$Functions.known_ -/
theorem wq_c81 {d : Nat} {σ : mj_S} {Q : mj_Q} (h : Q (some (.inl (σ 6 6))) σ) : mj_B mjc_L mjc_Ms (d + 1) 81 [.inr (.inl 6)] σ Q := by
  refine mj_B_of (M := mjcM81) (ls := [some (.inr (.inl 6))]) rfl (mj_c1_all rfl) (Nat.le_of_ble_eq_true rfl) rfl ?_
  refine mr_aload (pc' := 1) rfl rfl rfl ?_
  refine mr_get (ci := 0) (pc' := 4) rfl rfl rfl rfl ?_
  exact mr_iret rfl rfl trivial h
theorem s_c81 {d : Nat} {σ : mj_S} {Q : mj_Q}  (h : Q (some (.inl (σ 6 6))) σ) : mj_B mjc_L mjc_Ms (d + 1) 81 [.inr (.inl 6)] σ Q := by
  refine wq_c81 ?_
  repeat' (first | apply And.intro | intro _)
  all_goals first | exact h | omega | (unfold mj_r at *; omega) | trivial | exact bo_fit | assumption | ((try subst_vars); (try simp only [z_rd] at *); (repeat' split at h) <;> first | exact h | (exfalso; omega) | (simp_all; done) | (simp_all; omega))
set_option maxRecDepth 20000 in
/-- ListSpeaker$Machine.steps_ -/
theorem wq_c86 {d : Nat} {σ : mj_S} {Q : mj_Q} (h : Q (some (.inl (σ 7 12))) σ) : mj_B mjc_L mjc_Ms (d + 1) 86 [.inr (.inl 7)] σ Q := by
  refine mj_B_of (M := mjcM86) (ls := [some (.inr (.inl 7))]) rfl (mj_c1_all rfl) (Nat.le_of_ble_eq_true rfl) rfl ?_
  refine mr_aload (pc' := 1) rfl rfl rfl ?_
  refine mr_get (ci := 0) (pc' := 4) rfl rfl rfl rfl ?_
  exact mr_iret rfl rfl trivial h
theorem s_c86 {d : Nat} {σ : mj_S} {Q : mj_Q}  (h : Q (some (.inl (σ 7 12))) σ) : mj_B mjc_L mjc_Ms (d + 1) 86 [.inr (.inl 7)] σ Q := by
  refine wq_c86 ?_
  repeat' (first | apply And.intro | intro _)
  all_goals first | exact h | omega | (unfold mj_r at *; omega) | trivial | exact bo_fit | assumption | ((try subst_vars); (try simp only [z_rd] at *); (repeat' split at h) <;> first | exact h | (exfalso; omega) | (simp_all; done) | (simp_all; omega))
set_option maxRecDepth 20000 in
/-- ListSpeaker$Machine.mostTaken_ -/
theorem wq_c87 {d : Nat} {σ : mj_S} {Q : mj_Q} (h : Q (some (.inl (σ 7 13))) σ) : mj_B mjc_L mjc_Ms (d + 1) 87 [.inr (.inl 7)] σ Q := by
  refine mj_B_of (M := mjcM87) (ls := [some (.inr (.inl 7))]) rfl (mj_c1_all rfl) (Nat.le_of_ble_eq_true rfl) rfl ?_
  refine mr_aload (pc' := 1) rfl rfl rfl ?_
  refine mr_get (ci := 0) (pc' := 4) rfl rfl rfl rfl ?_
  exact mr_iret rfl rfl trivial h
theorem s_c87 {d : Nat} {σ : mj_S} {Q : mj_Q}  (h : Q (some (.inl (σ 7 13))) σ) : mj_B mjc_L mjc_Ms (d + 1) 87 [.inr (.inl 7)] σ Q := by
  refine wq_c87 ?_
  repeat' (first | apply And.intro | intro _)
  all_goals first | exact h | omega | (unfold mj_r at *; omega) | trivial | exact bo_fit | assumption | ((try subst_vars); (try simp only [z_rd] at *); (repeat' split at h) <;> first | exact h | (exfalso; omega) | (simp_all; done) | (simp_all; omega))
set_option maxRecDepth 20000 in
/-- ListSpeaker$Paper.length_ -/
theorem wq_c111 {d : Nat} {σ : mj_S} {Q : mj_Q} (h : Q (some (.inl (σ 8 4))) σ) : mj_B mjc_L mjc_Ms (d + 1) 111 [.inr (.inl 8)] σ Q := by
  refine mj_B_of (M := mjcM111) (ls := [some (.inr (.inl 8))]) rfl (mj_c1_all rfl) (Nat.le_of_ble_eq_true rfl) rfl ?_
  refine mr_aload (pc' := 1) rfl rfl rfl ?_
  refine mr_get (ci := 0) (pc' := 4) rfl rfl rfl rfl ?_
  exact mr_iret rfl rfl trivial h
theorem s_c111 {d : Nat} {σ : mj_S} {Q : mj_Q}  (h : Q (some (.inl (σ 8 4))) σ) : mj_B mjc_L mjc_Ms (d + 1) 111 [.inr (.inl 8)] σ Q := by
  refine wq_c111 ?_
  repeat' (first | apply And.intro | intro _)
  all_goals first | exact h | omega | (unfold mj_r at *; omega) | trivial | exact bo_fit | assumption | ((try subst_vars); (try simp only [z_rd] at *); (repeat' split at h) <;> first | exact h | (exfalso; omega) | (simp_all; done) | (simp_all; omega))
set_option maxRecDepth 20000 in
/-- ListSpeaker$Symbols.length_ -/
theorem wq_c11 {d : Nat} {σ : mj_S} {Q : mj_Q} {x1 : Int} (h : mj_r (x1 - 268435456) ∧ ((x1 - 268435456) < 0 → Q (some (.inl 0)) σ) ∧ (0 ≤ (x1 - 268435456) → ((σ 1 2) ≤ (x1 - 268435456) → Q (some (.inl 0)) σ) ∧ ((x1 - 268435456) < (σ 1 2) → 0 ≤ (x1 - 268435456) ∧ (x1 - 268435456) < 60 ∧ Q (some (.inl (σ 10 (x1 - 268435456).toNat))) σ))) : mj_B mjc_L mjc_Ms (d + 1) 11 [.inr (.inl 1), .inl x1] σ Q := by
  refine mj_B_of (M := mjcM11) (ls := [some (.inr (.inl 1)), some (.inl x1), none]) rfl (mj_c1_all rfl) (Nat.le_of_ble_eq_true rfl) rfl ?_
  refine mr_iload (pc' := 1) rfl rfl rfl ?_
  refine mr_const (pc' := 3) rfl rfl (by unfold mj_r; decide) ?_
  obtain ⟨h0, h⟩ := h
  refine mr_isub (pc' := 4) rfl rfl h0 ?_
  refine mr_istore (pc' := 5) rfl rfl trivial (Nat.le_of_ble_eq_true rfl) rfl ?_
  refine mr_iload (pc' := 6) rfl rfl rfl ?_
  refine mr_if_lt (pc' := 9) rfl rfl (fun c => ?_) (fun c => ?_)
  · replace h := h.1 c
    refine mr_const (pc' := 27) rfl rfl (by unfold mj_r; decide) ?_
    exact mr_iret rfl rfl trivial h
  · replace h := h.2 c
    refine mr_iload (pc' := 10) rfl rfl rfl ?_
    refine mr_aload (pc' := 11) rfl rfl rfl ?_
    refine mr_get (ci := 0) (pc' := 14) rfl rfl rfl rfl ?_
    refine mr_ic_ge (pc' := 17) rfl rfl (fun c => ?_) (fun c => ?_)
    · replace h := h.1 c
      refine mr_const (pc' := 27) rfl rfl (by unfold mj_r; decide) ?_
      exact mr_iret rfl rfl trivial h
    · replace h := h.2 c
      refine mr_aload (pc' := 18) rfl rfl rfl ?_
      refine mr_getr (ci := 0) (pc' := 21) rfl rfl rfl rfl ?_
      refine mr_iload (pc' := 22) rfl rfl rfl ?_
      obtain ⟨h0, h1, h⟩ := h
      refine mr_iald (pc' := 23) rfl rfl rfl h0 h1 ?_
      refine mr_goto rfl ?_
      exact mr_iret rfl rfl trivial h
theorem s_c11 {d : Nat} {σ : mj_S} {Q : mj_Q} {x1 : Int} (p0 : z_dr x1) (p1 : σ 1 2 ≤ 60) (h : Q (some (.inl (z_sl σ x1))) σ) : mj_B mjc_L mjc_Ms (d + 1) 11 [.inr (.inl 1), .inl x1] σ Q := by
  refine wq_c11 ?_
  simp only [z_dr, z_sl] at *
  repeat' (first | apply And.intro | intro _)
  all_goals first | exact h | omega | (unfold mj_r at *; omega) | trivial | exact bo_fit | assumption | ((try subst_vars); (try simp only [z_rd] at *); (repeat' split at h) <;> first | exact h | (exfalso; omega) | (simp_all; done) | (simp_all; omega))
set_option maxRecDepth 20000 in
/-- ListSpeaker$Pairs.car_ -/
theorem wq_c20 {d : Nat} {σ : mj_S} {Q : mj_Q} {x1 : Int} (h : mj_r (x1 - 536870912) ∧ ((x1 - 536870912) < 0 → Q (some (.inl 268435456)) σ) ∧ (0 ≤ (x1 - 536870912) → (600 ≤ (x1 - 536870912) → Q (some (.inl 268435456)) σ) ∧ ((x1 - 536870912) < 600 → 0 ≤ (x1 - 536870912) ∧ (x1 - 536870912) < 600 ∧ Q (some (.inl (σ 11 (x1 - 536870912).toNat))) σ))) : mj_B mjc_L mjc_Ms (d + 1) 20 [.inr (.inl 2), .inl x1] σ Q := by
  refine mj_B_of (M := mjcM20) (ls := [some (.inr (.inl 2)), some (.inl x1), none]) rfl (mj_c1_all rfl) (Nat.le_of_ble_eq_true rfl) rfl ?_
  refine mr_iload (pc' := 1) rfl rfl rfl ?_
  refine mr_const (pc' := 3) rfl rfl (by unfold mj_r; decide) ?_
  obtain ⟨h0, h⟩ := h
  refine mr_isub (pc' := 4) rfl rfl h0 ?_
  refine mr_istore (pc' := 5) rfl rfl trivial (Nat.le_of_ble_eq_true rfl) rfl ?_
  refine mr_iload (pc' := 6) rfl rfl rfl ?_
  refine mr_if_lt (pc' := 9) rfl rfl (fun c => ?_) (fun c => ?_)
  · replace h := h.1 c
    refine mr_const (pc' := 29) rfl rfl (by unfold mj_r; decide) ?_
    exact mr_iret rfl rfl trivial h
  · replace h := h.2 c
    refine mr_iload (pc' := 10) rfl rfl rfl ?_
    refine mr_aload (pc' := 11) rfl rfl rfl ?_
    refine mr_getr (ci := 0) (pc' := 14) rfl rfl rfl rfl ?_
    refine mr_alen (n := 600) (pc' := 15) rfl rfl rfl (by unfold mj_pt; simp) (by unfold mj_r; decide) ?_
    refine mr_ic_ge (pc' := 18) rfl rfl (fun c => ?_) (fun c => ?_)
    · replace h := h.1 c
      refine mr_const (pc' := 29) rfl rfl (by unfold mj_r; decide) ?_
      exact mr_iret rfl rfl trivial h
    · replace h := h.2 c
      refine mr_aload (pc' := 19) rfl rfl rfl ?_
      refine mr_getr (ci := 0) (pc' := 22) rfl rfl rfl rfl ?_
      refine mr_iload (pc' := 23) rfl rfl rfl ?_
      obtain ⟨h0, h1, h⟩ := h
      refine mr_iald (pc' := 24) rfl rfl rfl h0 h1 ?_
      refine mr_goto rfl ?_
      exact mr_iret rfl rfl trivial h
theorem s_c20 {d : Nat} {σ : mj_S} {Q : mj_Q} {x1 : Int} (p0 : z_dr x1) (h : Q (some (.inl (z_cd (σ 11) x1))) σ) : mj_B mjc_L mjc_Ms (d + 1) 20 [.inr (.inl 2), .inl x1] σ Q := by
  refine wq_c20 ?_
  simp only [z_dr, z_cd] at *
  repeat' (first | apply And.intro | intro _)
  all_goals first | exact h | omega | (unfold mj_r at *; omega) | trivial | exact bo_fit | assumption | ((try subst_vars); (try simp only [z_rd] at *); (repeat' split at h) <;> first | exact h | (exfalso; omega) | (simp_all; done) | (simp_all; omega))
set_option maxRecDepth 20000 in
/-- ListSpeaker$Pairs.cdr_ -/
theorem wq_c21 {d : Nat} {σ : mj_S} {Q : mj_Q} {x1 : Int} (h : mj_r (x1 - 536870912) ∧ ((x1 - 536870912) < 0 → Q (some (.inl 268435456)) σ) ∧ (0 ≤ (x1 - 536870912) → (600 ≤ (x1 - 536870912) → Q (some (.inl 268435456)) σ) ∧ ((x1 - 536870912) < 600 → 0 ≤ (x1 - 536870912) ∧ (x1 - 536870912) < 600 ∧ Q (some (.inl (σ 12 (x1 - 536870912).toNat))) σ))) : mj_B mjc_L mjc_Ms (d + 1) 21 [.inr (.inl 2), .inl x1] σ Q := by
  refine mj_B_of (M := mjcM21) (ls := [some (.inr (.inl 2)), some (.inl x1), none]) rfl (mj_c1_all rfl) (Nat.le_of_ble_eq_true rfl) rfl ?_
  refine mr_iload (pc' := 1) rfl rfl rfl ?_
  refine mr_const (pc' := 3) rfl rfl (by unfold mj_r; decide) ?_
  obtain ⟨h0, h⟩ := h
  refine mr_isub (pc' := 4) rfl rfl h0 ?_
  refine mr_istore (pc' := 5) rfl rfl trivial (Nat.le_of_ble_eq_true rfl) rfl ?_
  refine mr_iload (pc' := 6) rfl rfl rfl ?_
  refine mr_if_lt (pc' := 9) rfl rfl (fun c => ?_) (fun c => ?_)
  · replace h := h.1 c
    refine mr_const (pc' := 29) rfl rfl (by unfold mj_r; decide) ?_
    exact mr_iret rfl rfl trivial h
  · replace h := h.2 c
    refine mr_iload (pc' := 10) rfl rfl rfl ?_
    refine mr_aload (pc' := 11) rfl rfl rfl ?_
    refine mr_getr (ci := 0) (pc' := 14) rfl rfl rfl rfl ?_
    refine mr_alen (n := 600) (pc' := 15) rfl rfl rfl (by unfold mj_pt; simp) (by unfold mj_r; decide) ?_
    refine mr_ic_ge (pc' := 18) rfl rfl (fun c => ?_) (fun c => ?_)
    · replace h := h.1 c
      refine mr_const (pc' := 29) rfl rfl (by unfold mj_r; decide) ?_
      exact mr_iret rfl rfl trivial h
    · replace h := h.2 c
      refine mr_aload (pc' := 19) rfl rfl rfl ?_
      refine mr_getr (ci := 0) (pc' := 22) rfl rfl rfl rfl ?_
      refine mr_iload (pc' := 23) rfl rfl rfl ?_
      obtain ⟨h0, h1, h⟩ := h
      refine mr_iald (pc' := 24) rfl rfl rfl h0 h1 ?_
      refine mr_goto rfl ?_
      exact mr_iret rfl rfl trivial h
theorem s_c21 {d : Nat} {σ : mj_S} {Q : mj_Q} {x1 : Int} (p0 : z_dr x1) (h : Q (some (.inl (z_cd (σ 12) x1))) σ) : mj_B mjc_L mjc_Ms (d + 1) 21 [.inr (.inl 2), .inl x1] σ Q := by
  refine wq_c21 ?_
  simp only [z_dr, z_cd] at *
  repeat' (first | apply And.intro | intro _)
  all_goals first | exact h | omega | (unfold mj_r at *; omega) | trivial | exact bo_fit | assumption | ((try subst_vars); (try simp only [z_rd] at *); (repeat' split at h) <;> first | exact h | (exfalso; omega) | (simp_all; done) | (simp_all; omega))
set_option maxRecDepth 20000 in
/-- ListSpeaker$Pairs.store_ -/
theorem wq_c24 {d : Nat} {σ : mj_S} {Q : mj_Q} {x1 x2 : Int} (h : ((σ 2 8) < 400 → 0 ≤ (σ 2 8) ∧ (σ 2 8) < 600 ∧ ∀ σ1, σ1 = mj_up σ 11 (σ 2 8).toNat x1 → 0 ≤ (σ1 2 8) ∧ (σ1 2 8) < 600 ∧ ∀ σ2, σ2 = mj_up σ1 12 (σ1 2 8).toNat x2 → mj_r ((σ2 2 8) + 1) ∧ ∀ σ3, σ3 = mj_up σ2 2 8 ((σ2 2 8) + 1) → mj_r (536870912 + (σ3 2 8)) ∧ mj_r ((536870912 + (σ3 2 8)) - 1) ∧ Q (some (.inl ((536870912 + (σ3 2 8)) - 1))) σ3) ∧ (400 ≤ (σ 2 8) → Q (some (.inl (-11))) σ)) : mj_B mjc_L mjc_Ms (d + 1) 24 [.inr (.inl 2), .inl x1, .inl x2] σ Q := by
  refine mj_B_of (M := mjcM24) (ls := [some (.inr (.inl 2)), some (.inl x1), some (.inl x2)]) rfl (mj_c1_all rfl) (Nat.le_of_ble_eq_true rfl) rfl ?_
  refine mr_aload (pc' := 1) rfl rfl rfl ?_
  refine mr_get (ci := 0) (pc' := 4) rfl rfl rfl rfl ?_
  refine mr_const (pc' := 7) rfl rfl (by unfold mj_r; decide) ?_
  refine mr_ic_lt (pc' := 10) rfl rfl (fun c => ?_) (fun c => ?_)
  · replace h := h.1 c
    refine mr_aload (pc' := 14) rfl rfl rfl ?_
    refine mr_getr (ci := 0) (pc' := 17) rfl rfl rfl rfl ?_
    refine mr_aload (pc' := 18) rfl rfl rfl ?_
    refine mr_get (ci := 0) (pc' := 21) rfl rfl rfl rfl ?_
    refine mr_iload (pc' := 22) rfl rfl rfl ?_
    obtain ⟨h0, h1, h⟩ := h
    refine mr_iast (pc' := 23) rfl rfl rfl h0 h1 (fun σ1 e9 => ?_)
    replace h := h σ1 e9
    refine mr_aload (pc' := 24) rfl rfl rfl ?_
    refine mr_getr (ci := 0) (pc' := 27) rfl rfl rfl rfl ?_
    refine mr_aload (pc' := 28) rfl rfl rfl ?_
    refine mr_get (ci := 0) (pc' := 31) rfl rfl rfl rfl ?_
    refine mr_iload (pc' := 32) rfl rfl rfl ?_
    obtain ⟨h0, h1, h⟩ := h
    refine mr_iast (pc' := 33) rfl rfl rfl h0 h1 (fun σ2 e9 => ?_)
    replace h := h σ2 e9
    refine mr_aload (pc' := 34) rfl rfl rfl ?_
    refine mr_dup (pc' := 35) rfl rfl trivial ?_
    refine mr_get (ci := 0) (pc' := 38) rfl rfl rfl rfl ?_
    refine mr_const (pc' := 39) rfl rfl (by unfold mj_r; decide) ?_
    obtain ⟨h0, h⟩ := h
    refine mr_iadd (pc' := 40) rfl rfl h0 ?_
    refine mr_put (pc' := 43) rfl rfl rfl rfl (fun σ3 e9 => ?_)
    replace h := h σ3 e9
    refine mr_const (pc' := 45) rfl rfl (by unfold mj_r; decide) ?_
    refine mr_aload (pc' := 46) rfl rfl rfl ?_
    refine mr_get (ci := 0) (pc' := 49) rfl rfl rfl rfl ?_
    obtain ⟨h0, h⟩ := h
    refine mr_iadd (pc' := 50) rfl rfl h0 ?_
    refine mr_const (pc' := 51) rfl rfl (by unfold mj_r; decide) ?_
    obtain ⟨h0, h⟩ := h
    refine mr_isub (pc' := 52) rfl rfl h0 ?_
    exact mr_iret rfl rfl trivial h
  · replace h := h.2 c
    refine mr_const (pc' := 12) rfl rfl (by unfold mj_r; decide) ?_
    exact mr_iret rfl rfl trivial h
theorem s_c24 {d : Nat} {σ : mj_S} {Q : mj_Q} {x1 x2 : Int} (p0 : 0 ≤ σ 2 8) (h : ∀ σ', σ' = z_sto σ x1 x2 → Q (some (.inl (if σ 2 8 < 400 then 536870912 + σ 2 8 else -11))) σ') : mj_B mjc_L mjc_Ms (d + 1) 24 [.inr (.inl 2), .inl x1, .inl x2] σ Q := by
  refine wq_c24 ?_
  replace h := h _ rfl
  unfold z_sto at h
  refine ⟨fun c => ⟨p0, by omega, fun σ1 e1 => ?_⟩, fun c => ?_⟩
  · rw [if_pos c, if_pos c] at h
    have a1 : σ1 2 8 = σ 2 8 := by rw [e1, z_rd]; simp
    refine ⟨by omega, by omega, fun σ2 e2 => ?_⟩
    have a2 : σ2 2 8 = σ 2 8 := by rw [e2, z_rd]; simpa using a1
    refine ⟨by unfold mj_r; omega, fun σ3 e3 => ?_⟩
    have a3 : σ3 2 8 = σ 2 8 + 1 := by rw [e3, z_rd]; simp [a2]
    refine ⟨by unfold mj_r; omega, by unfold mj_r; omega, ?_⟩
    rw [a3, show 536870912 + (σ 2 8 + 1) - 1 = 536870912 + σ 2 8 by omega, e3, a2, e2, a1, e1]
    exact h
  · rw [if_neg (by omega), if_neg (by omega)] at h; exact h
set_option maxRecDepth 20000 in
/-- ListSpeaker$Pairs.endWith_ -/
theorem wq_c25 {d : Nat} {σ : mj_S} {Q : mj_Q} {x1 x2 : Int} (h : mj_r (x1 - 536870912) ∧ ((x1 - 536870912) < 0 → Q none σ) ∧ (0 ≤ (x1 - 536870912) → ((σ 2 8) ≤ (x1 - 536870912) → Q none σ) ∧ ((x1 - 536870912) < (σ 2 8) → 0 ≤ (x1 - 536870912) ∧ (x1 - 536870912) < 600 ∧ ∀ σ1, σ1 = mj_up σ 12 (x1 - 536870912).toNat x2 → Q none σ1))) : mj_B mjc_L mjc_Ms (d + 1) 25 [.inr (.inl 2), .inl x1, .inl x2] σ Q := by
  refine mj_B_of (M := mjcM25) (ls := [some (.inr (.inl 2)), some (.inl x1), some (.inl x2), none]) rfl (mj_c1_all rfl) (Nat.le_of_ble_eq_true rfl) rfl ?_
  refine mr_iload (pc' := 1) rfl rfl rfl ?_
  refine mr_const (pc' := 3) rfl rfl (by unfold mj_r; decide) ?_
  obtain ⟨h0, h⟩ := h
  refine mr_isub (pc' := 4) rfl rfl h0 ?_
  refine mr_istore (pc' := 5) rfl rfl trivial (Nat.le_of_ble_eq_true rfl) rfl ?_
  refine mr_iload (pc' := 6) rfl rfl rfl ?_
  refine mr_if_lt (pc' := 9) rfl rfl (fun c => ?_) (fun c => ?_)
  · replace h := h.1 c
    exact mr_ret rfl rfl h
  · replace h := h.2 c
    refine mr_iload (pc' := 10) rfl rfl rfl ?_
    refine mr_aload (pc' := 11) rfl rfl rfl ?_
    refine mr_get (ci := 0) (pc' := 14) rfl rfl rfl rfl ?_
    refine mr_ic_ge (pc' := 17) rfl rfl (fun c => ?_) (fun c => ?_)
    · replace h := h.1 c
      exact mr_ret rfl rfl h
    · replace h := h.2 c
      refine mr_aload (pc' := 18) rfl rfl rfl ?_
      refine mr_getr (ci := 0) (pc' := 21) rfl rfl rfl rfl ?_
      refine mr_iload (pc' := 22) rfl rfl rfl ?_
      refine mr_iload (pc' := 23) rfl rfl rfl ?_
      obtain ⟨h0, h1, h⟩ := h
      refine mr_iast (pc' := 24) rfl rfl rfl h0 h1 (fun σ1 e9 => ?_)
      replace h := h σ1 e9
      exact mr_ret rfl rfl h
theorem s_c25 {d : Nat} {σ : mj_S} {Q : mj_Q} {x1 x2 : Int} (p0 : z_dr x1) (p1 : σ 2 8 ≤ 400) (h : ∀ σ', σ' = z_ew σ x1 x2 → Q none σ') : mj_B mjc_L mjc_Ms (d + 1) 25 [.inr (.inl 2), .inl x1, .inl x2] σ Q := by
  refine wq_c25 ?_
  replace h := h _ rfl
  simp only [z_ew, z_dr] at *
  repeat' (first | apply And.intro | intro _)
  all_goals first | exact h | omega | (unfold mj_r at *; omega) | trivial | exact bo_fit | assumption | ((try subst_vars); (try simp only [z_rd] at *); (repeat' split at h) <;> first | exact h | (exfalso; omega) | (simp_all; done) | (simp_all; omega))
set_option maxRecDepth 20000 in
/-- ListSpeaker$Pairs.release_ -/
theorem wq_c26 {d : Nat} {σ : mj_S} {Q : mj_Q} {x1 : Int} (h : (x1 < 0 → Q none σ) ∧ (0 ≤ x1 → ((σ 2 8) ≤ x1 → Q none σ) ∧ (x1 < (σ 2 8) → ∀ σ1, σ1 = mj_up σ 2 8 x1 → Q none σ1))) : mj_B mjc_L mjc_Ms (d + 1) 26 [.inr (.inl 2), .inl x1] σ Q := by
  refine mj_B_of (M := mjcM26) (ls := [some (.inr (.inl 2)), some (.inl x1)]) rfl (mj_c1_all rfl) (Nat.le_of_ble_eq_true rfl) rfl ?_
  refine mr_iload (pc' := 1) rfl rfl rfl ?_
  refine mr_if_lt (pc' := 4) rfl rfl (fun c => ?_) (fun c => ?_)
  · replace h := h.1 c
    exact mr_ret rfl rfl h
  · replace h := h.2 c
    refine mr_iload (pc' := 5) rfl rfl rfl ?_
    refine mr_aload (pc' := 6) rfl rfl rfl ?_
    refine mr_get (ci := 0) (pc' := 9) rfl rfl rfl rfl ?_
    refine mr_ic_ge (pc' := 12) rfl rfl (fun c => ?_) (fun c => ?_)
    · replace h := h.1 c
      exact mr_ret rfl rfl h
    · replace h := h.2 c
      refine mr_aload (pc' := 13) rfl rfl rfl ?_
      refine mr_iload (pc' := 14) rfl rfl rfl ?_
      refine mr_put (pc' := 17) rfl rfl rfl rfl (fun σ1 e9 => ?_)
      replace h := h σ1 e9
      exact mr_ret rfl rfl h
theorem s_c26 {d : Nat} {σ : mj_S} {Q : mj_Q} {x1 : Int}  (h : ∀ σ', σ' = z_rl σ 2 8 x1 → Q none σ') : mj_B mjc_L mjc_Ms (d + 1) 26 [.inr (.inl 2), .inl x1] σ Q := by
  refine wq_c26 ?_
  replace h := h _ rfl
  simp only [z_rl] at *
  repeat' (first | apply And.intro | intro _)
  all_goals first | exact h | omega | (unfold mj_r at *; omega) | trivial | exact bo_fit | assumption | ((try subst_vars); (try simp only [z_rd] at *); (repeat' split at h) <;> first | exact h | (exfalso; omega) | (simp_all; done) | (simp_all; omega))
set_option maxRecDepth 20000 in
/-- ListSpeaker$Pairs.hasRoom_ -/
theorem wq_c27 {d : Nat} {σ : mj_S} {Q : mj_Q} (h : ((σ 2 9) ≤ 0 → Q (some (.inl 0)) σ) ∧ (0 < (σ 2 9) → Q (some (.inl 1)) σ)) : mj_B mjc_L mjc_Ms (d + 1) 27 [.inr (.inl 2)] σ Q := by
  refine mj_B_of (M := mjcM27) (ls := [some (.inr (.inl 2))]) rfl (mj_c1_all rfl) (Nat.le_of_ble_eq_true rfl) rfl ?_
  refine mr_aload (pc' := 1) rfl rfl rfl ?_
  refine mr_get (ci := 0) (pc' := 4) rfl rfl rfl rfl ?_
  refine mr_if_le (pc' := 7) rfl rfl (fun c => ?_) (fun c => ?_)
  · replace h := h.1 c
    refine mr_const (pc' := 12) rfl rfl (by unfold mj_r; decide) ?_
    exact mr_iret rfl rfl (by simp [mj_fit]) h
  · replace h := h.2 c
    refine mr_const (pc' := 8) rfl rfl (by unfold mj_r; decide) ?_
    refine mr_goto rfl ?_
    exact mr_iret rfl rfl (by simp [mj_fit]) h
theorem s_c27 {d : Nat} {σ : mj_S} {Q : mj_Q}  (h : Q (some (.inl (if 0 < σ 2 9 then 1 else 0))) σ) : mj_B mjc_L mjc_Ms (d + 1) 27 [.inr (.inl 2)] σ Q := by
  refine wq_c27 ?_
  repeat' (first | apply And.intro | intro _)
  all_goals first | exact h | omega | (unfold mj_r at *; omega) | trivial | exact bo_fit | assumption | ((try subst_vars); (try simp only [z_rd] at *); (repeat' split at h) <;> first | exact h | (exfalso; omega) | (simp_all; done) | (simp_all; omega))
set_option maxRecDepth 20000 in
/-- ListSpeaker$Pairs.await_ -/
theorem wq_c33 {d : Nat} {σ : mj_S} {Q : mj_Q} {x1 x2 x3 : Int} (h : (x1 < 0 → Q none σ) ∧ (0 ≤ x1 → (602 ≤ x1 → Q none σ) ∧ (x1 < 602 → 0 ≤ x1 ∧ x1 < 602 ∧ ∀ σ1, σ1 = mj_up σ 16 x1.toNat x2 → 0 ≤ x1 ∧ x1 < 602 ∧ ∀ σ2, σ2 = mj_up σ1 17 x1.toNat x3 → Q none σ2))) : mj_B mjc_L mjc_Ms (d + 1) 33 [.inr (.inl 2), .inl x1, .inl x2, .inl x3] σ Q := by
  refine mj_B_of (M := mjcM33) (ls := [some (.inr (.inl 2)), some (.inl x1), some (.inl x2), some (.inl x3)]) rfl (mj_c1_all rfl) (Nat.le_of_ble_eq_true rfl) rfl ?_
  refine mr_iload (pc' := 1) rfl rfl rfl ?_
  refine mr_if_lt (pc' := 4) rfl rfl (fun c => ?_) (fun c => ?_)
  · replace h := h.1 c
    exact mr_ret rfl rfl h
  · replace h := h.2 c
    refine mr_iload (pc' := 5) rfl rfl rfl ?_
    refine mr_const (pc' := 8) rfl rfl (by unfold mj_r; decide) ?_
    refine mr_ic_ge (pc' := 11) rfl rfl (fun c => ?_) (fun c => ?_)
    · replace h := h.1 c
      exact mr_ret rfl rfl h
    · replace h := h.2 c
      refine mr_aload (pc' := 12) rfl rfl rfl ?_
      refine mr_getr (ci := 0) (pc' := 15) rfl rfl rfl rfl ?_
      refine mr_iload (pc' := 16) rfl rfl rfl ?_
      refine mr_iload (pc' := 17) rfl rfl rfl ?_
      obtain ⟨h0, h1, h⟩ := h
      refine mr_iast (pc' := 18) rfl rfl rfl h0 h1 (fun σ1 e9 => ?_)
      replace h := h σ1 e9
      refine mr_aload (pc' := 19) rfl rfl rfl ?_
      refine mr_getr (ci := 0) (pc' := 22) rfl rfl rfl rfl ?_
      refine mr_iload (pc' := 23) rfl rfl rfl ?_
      refine mr_iload (pc' := 24) rfl rfl rfl ?_
      obtain ⟨h0, h1, h⟩ := h
      refine mr_iast (pc' := 25) rfl rfl rfl h0 h1 (fun σ2 e9 => ?_)
      replace h := h σ2 e9
      exact mr_ret rfl rfl h
theorem s_c33 {d : Nat} {σ : mj_S} {Q : mj_Q} {x1 x2 x3 : Int}  (h : ∀ σ', σ' = z_aw σ x1 x2 x3 → Q none σ') : mj_B mjc_L mjc_Ms (d + 1) 33 [.inr (.inl 2), .inl x1, .inl x2, .inl x3] σ Q := by
  refine wq_c33 ?_
  replace h := h _ rfl
  simp only [z_aw] at *
  repeat' (first | apply And.intro | intro _)
  all_goals first | exact h | omega | (unfold mj_r at *; omega) | trivial | exact bo_fit | assumption | ((try subst_vars); (try simp only [z_rd] at *); (repeat' split at h) <;> first | exact h | (exfalso; omega) | (simp_all; done) | (simp_all; omega))
set_option maxRecDepth 20000 in
/-- ListSpeaker$Reader.isAt_ -/
theorem wq_c49 {d : Nat} {σ : mj_S} {Q : mj_Q} {x1 : Int} (h : ((σ 3 3) ≤ (σ 3 4) → Q (some (.inl 0)) σ) ∧ ((σ 3 4) < (σ 3 3) → 0 ≤ (σ 3 4) ∧ (σ 3 4) < 300 ∧ (¬ (σ 18 (σ 3 4).toNat) = x1 → Q (some (.inl 0)) σ) ∧ ((σ 18 (σ 3 4).toNat) = x1 → Q (some (.inl 1)) σ))) : mj_B mjc_L mjc_Ms (d + 1) 49 [.inr (.inl 3), .inl x1] σ Q := by
  refine mj_B_of (M := mjcM49) (ls := [some (.inr (.inl 3)), some (.inl x1)]) rfl (mj_c1_all rfl) (Nat.le_of_ble_eq_true rfl) rfl ?_
  refine mr_aload (pc' := 1) rfl rfl rfl ?_
  refine mr_get (ci := 0) (pc' := 4) rfl rfl rfl rfl ?_
  refine mr_aload (pc' := 5) rfl rfl rfl ?_
  refine mr_get (ci := 0) (pc' := 8) rfl rfl rfl rfl ?_
  refine mr_ic_ge (pc' := 11) rfl rfl (fun c => ?_) (fun c => ?_)
  · replace h := h.1 c
    refine mr_const (pc' := 29) rfl rfl (by unfold mj_r; decide) ?_
    exact mr_iret rfl rfl (by simp [mj_fit]) h
  · replace h := h.2 c
    refine mr_aload (pc' := 12) rfl rfl rfl ?_
    refine mr_getr (ci := 0) (pc' := 15) rfl rfl rfl rfl ?_
    refine mr_aload (pc' := 16) rfl rfl rfl ?_
    refine mr_get (ci := 0) (pc' := 19) rfl rfl rfl rfl ?_
    obtain ⟨h0, h1, h⟩ := h
    refine mr_cald (pc' := 20) rfl rfl rfl h0 h1 ?_
    refine mr_iload (pc' := 21) rfl rfl rfl ?_
    refine mr_ic_ne (pc' := 24) rfl rfl (fun c => ?_) (fun c => ?_)
    · replace h := h.1 c
      refine mr_const (pc' := 29) rfl rfl (by unfold mj_r; decide) ?_
      exact mr_iret rfl rfl (by simp [mj_fit]) h
    · replace h := h.2 c
      refine mr_const (pc' := 25) rfl rfl (by unfold mj_r; decide) ?_
      refine mr_goto rfl ?_
      exact mr_iret rfl rfl (by simp [mj_fit]) h
theorem s_c49 {d : Nat} {σ : mj_S} {Q : mj_Q} {x1 : Int} (p0 : 0 ≤ σ 3 4) (p1 : σ 3 3 ≤ 300) (h : Q (some (.inl (if σ 3 4 < σ 3 3 ∧ σ 18 (σ 3 4).toNat = x1 then 1 else 0))) σ) : mj_B mjc_L mjc_Ms (d + 1) 49 [.inr (.inl 3), .inl x1] σ Q := by
  refine wq_c49 ?_
  repeat' (first | apply And.intro | intro _)
  all_goals first | exact h | omega | (unfold mj_r at *; omega) | trivial | exact bo_fit | assumption | ((try subst_vars); (try simp only [z_rd] at *); (repeat' split at h) <;> first | exact h | (exfalso; omega) | (simp_all; done) | (simp_all; omega))
set_option maxRecDepth 20000 in
/-- ListSpeaker$Reader.endsRow_ -/
theorem wq_c51 {d : Nat} {σ : mj_S} {Q : mj_Q} {x1 : Int} (h : (x1 = 32 → Q (some (.inl 1)) σ) ∧ (¬ x1 = 32 → (x1 = 10 → Q (some (.inl 1)) σ) ∧ (¬ x1 = 10 → (x1 = 59 → Q (some (.inl 1)) σ) ∧ (¬ x1 = 59 → (x1 = 40 → Q (some (.inl 1)) σ) ∧ (¬ x1 = 40 → (x1 = 41 → Q (some (.inl 1)) σ) ∧ (¬ x1 = 41 → (¬ x1 = 39 → Q (some (.inl 0)) σ) ∧ (x1 = 39 → Q (some (.inl 1)) σ))))))) : mj_B mjc_L mjc_Ms (d + 1) 51 [.inl x1] σ Q := by
  refine mj_B_of (M := mjcM51) (ls := [some (.inl x1)]) rfl (mj_c1_all rfl) (Nat.le_of_ble_eq_true rfl) rfl ?_
  refine mr_iload (pc' := 1) rfl rfl rfl ?_
  refine mr_const (pc' := 3) rfl rfl (by unfold mj_r; decide) ?_
  refine mr_ic_eq (pc' := 6) rfl rfl (fun c => ?_) (fun c => ?_)
  · replace h := h.1 c
    refine mr_const (pc' := 37) rfl rfl (by unfold mj_r; decide) ?_
    refine mr_goto rfl ?_
    exact mr_iret rfl rfl (by simp [mj_fit]) h
  · replace h := h.2 c
    refine mr_iload (pc' := 7) rfl rfl rfl ?_
    refine mr_const (pc' := 9) rfl rfl (by unfold mj_r; decide) ?_
    refine mr_ic_eq (pc' := 12) rfl rfl (fun c => ?_) (fun c => ?_)
    · replace h := h.1 c
      refine mr_const (pc' := 37) rfl rfl (by unfold mj_r; decide) ?_
      refine mr_goto rfl ?_
      exact mr_iret rfl rfl (by simp [mj_fit]) h
    · replace h := h.2 c
      refine mr_iload (pc' := 13) rfl rfl rfl ?_
      refine mr_const (pc' := 15) rfl rfl (by unfold mj_r; decide) ?_
      refine mr_ic_eq (pc' := 18) rfl rfl (fun c => ?_) (fun c => ?_)
      · replace h := h.1 c
        refine mr_const (pc' := 37) rfl rfl (by unfold mj_r; decide) ?_
        refine mr_goto rfl ?_
        exact mr_iret rfl rfl (by simp [mj_fit]) h
      · replace h := h.2 c
        refine mr_iload (pc' := 19) rfl rfl rfl ?_
        refine mr_const (pc' := 21) rfl rfl (by unfold mj_r; decide) ?_
        refine mr_ic_eq (pc' := 24) rfl rfl (fun c => ?_) (fun c => ?_)
        · replace h := h.1 c
          refine mr_const (pc' := 37) rfl rfl (by unfold mj_r; decide) ?_
          refine mr_goto rfl ?_
          exact mr_iret rfl rfl (by simp [mj_fit]) h
        · replace h := h.2 c
          refine mr_iload (pc' := 25) rfl rfl rfl ?_
          refine mr_const (pc' := 27) rfl rfl (by unfold mj_r; decide) ?_
          refine mr_ic_eq (pc' := 30) rfl rfl (fun c => ?_) (fun c => ?_)
          · replace h := h.1 c
            refine mr_const (pc' := 37) rfl rfl (by unfold mj_r; decide) ?_
            refine mr_goto rfl ?_
            exact mr_iret rfl rfl (by simp [mj_fit]) h
          · replace h := h.2 c
            refine mr_iload (pc' := 31) rfl rfl rfl ?_
            refine mr_const (pc' := 33) rfl rfl (by unfold mj_r; decide) ?_
            refine mr_ic_ne (pc' := 36) rfl rfl (fun c => ?_) (fun c => ?_)
            · replace h := h.1 c
              refine mr_const (pc' := 41) rfl rfl (by unfold mj_r; decide) ?_
              exact mr_iret rfl rfl (by simp [mj_fit]) h
            · replace h := h.2 c
              refine mr_const (pc' := 37) rfl rfl (by unfold mj_r; decide) ?_
              refine mr_goto rfl ?_
              exact mr_iret rfl rfl (by simp [mj_fit]) h
theorem s_c51 {d : Nat} {σ : mj_S} {Q : mj_Q} {x1 : Int}  (h : Q (some (.inl (if z_er x1 then 1 else 0))) σ) : mj_B mjc_L mjc_Ms (d + 1) 51 [.inl x1] σ Q := by
  refine wq_c51 ?_
  simp only [z_er] at *
  repeat' (first | apply And.intro | intro _)
  all_goals first | exact h | omega | (unfold mj_r at *; omega) | trivial | exact bo_fit | assumption | ((try subst_vars); (try simp only [z_rd] at *); (repeat' split at h) <;> first | exact h | (exfalso; omega) | (simp_all; done) | (simp_all; omega))
set_option maxRecDepth 20000 in
/-- ListSpeaker$Reader.isDigit_ -/
theorem wq_c52 {d : Nat} {σ : mj_S} {Q : mj_Q} {x1 : Int} (h : (x1 < 48 → Q (some (.inl 0)) σ) ∧ (48 ≤ x1 → (57 < x1 → Q (some (.inl 0)) σ) ∧ (x1 ≤ 57 → Q (some (.inl 1)) σ))) : mj_B mjc_L mjc_Ms (d + 1) 52 [.inl x1] σ Q := by
  refine mj_B_of (M := mjcM52) (ls := [some (.inl x1)]) rfl (mj_c1_all rfl) (Nat.le_of_ble_eq_true rfl) rfl ?_
  refine mr_iload (pc' := 1) rfl rfl rfl ?_
  refine mr_const (pc' := 3) rfl rfl (by unfold mj_r; decide) ?_
  refine mr_ic_lt (pc' := 6) rfl rfl (fun c => ?_) (fun c => ?_)
  · replace h := h.1 c
    refine mr_const (pc' := 17) rfl rfl (by unfold mj_r; decide) ?_
    exact mr_iret rfl rfl (by simp [mj_fit]) h
  · replace h := h.2 c
    refine mr_iload (pc' := 7) rfl rfl rfl ?_
    refine mr_const (pc' := 9) rfl rfl (by unfold mj_r; decide) ?_
    refine mr_ic_gt (pc' := 12) rfl rfl (fun c => ?_) (fun c => ?_)
    · replace h := h.1 c
      refine mr_const (pc' := 17) rfl rfl (by unfold mj_r; decide) ?_
      exact mr_iret rfl rfl (by simp [mj_fit]) h
    · replace h := h.2 c
      refine mr_const (pc' := 13) rfl rfl (by unfold mj_r; decide) ?_
      refine mr_goto rfl ?_
      exact mr_iret rfl rfl (by simp [mj_fit]) h
theorem s_c52 {d : Nat} {σ : mj_S} {Q : mj_Q} {x1 : Int}  (h : Q (some (.inl (if z_dg x1 then 1 else 0))) σ) : mj_B mjc_L mjc_Ms (d + 1) 52 [.inl x1] σ Q := by
  refine wq_c52 ?_
  simp only [z_dg] at *
  repeat' (first | apply And.intro | intro _)
  all_goals first | exact h | omega | (unfold mj_r at *; omega) | trivial | exact bo_fit | assumption | ((try subst_vars); (try simp only [z_rd] at *); (repeat' split at h) <;> first | exact h | (exfalso; omega) | (simp_all; done) | (simp_all; omega))
set_option maxRecDepth 20000 in
/-- ListSpeaker$Reader.isLetter_ -/
theorem wq_c53 {d : Nat} {σ : mj_S} {Q : mj_Q} {x1 : Int} (h : (x1 < 97 → (x1 = 43 → Q (some (.inl 1)) σ) ∧ (¬ x1 = 43 → (x1 = 45 → Q (some (.inl 1)) σ) ∧ (¬ x1 = 45 → (x1 = 42 → Q (some (.inl 1)) σ) ∧ (¬ x1 = 42 → (x1 = 60 → Q (some (.inl 1)) σ) ∧ (¬ x1 = 60 → (x1 = 61 → Q (some (.inl 1)) σ) ∧ (¬ x1 = 61 → (¬ x1 = 63 → Q (some (.inl 0)) σ) ∧ (x1 = 63 → Q (some (.inl 1)) σ))))))) ∧ (97 ≤ x1 → (x1 ≤ 122 → Q (some (.inl 1)) σ) ∧ (122 < x1 → (x1 = 43 → Q (some (.inl 1)) σ) ∧ (¬ x1 = 43 → (x1 = 45 → Q (some (.inl 1)) σ) ∧ (¬ x1 = 45 → (x1 = 42 → Q (some (.inl 1)) σ) ∧ (¬ x1 = 42 → (x1 = 60 → Q (some (.inl 1)) σ) ∧ (¬ x1 = 60 → (x1 = 61 → Q (some (.inl 1)) σ) ∧ (¬ x1 = 61 → (¬ x1 = 63 → Q (some (.inl 0)) σ) ∧ (x1 = 63 → Q (some (.inl 1)) σ))))))))) : mj_B mjc_L mjc_Ms (d + 1) 53 [.inl x1] σ Q := by
  refine mj_B_of (M := mjcM53) (ls := [some (.inl x1)]) rfl (mj_c1_all rfl) (Nat.le_of_ble_eq_true rfl) rfl ?_
  refine mr_iload (pc' := 1) rfl rfl rfl ?_
  refine mr_const (pc' := 3) rfl rfl (by unfold mj_r; decide) ?_
  refine mr_ic_lt (pc' := 6) rfl rfl (fun c => ?_) (fun c => ?_)
  · replace h := h.1 c
    refine mr_iload (pc' := 13) rfl rfl rfl ?_
    refine mr_const (pc' := 15) rfl rfl (by unfold mj_r; decide) ?_
    refine mr_ic_eq (pc' := 18) rfl rfl (fun c => ?_) (fun c => ?_)
    · replace h := h.1 c
      refine mr_const (pc' := 49) rfl rfl (by unfold mj_r; decide) ?_
      refine mr_goto rfl ?_
      exact mr_iret rfl rfl (by simp [mj_fit]) h
    · replace h := h.2 c
      refine mr_iload (pc' := 19) rfl rfl rfl ?_
      refine mr_const (pc' := 21) rfl rfl (by unfold mj_r; decide) ?_
      refine mr_ic_eq (pc' := 24) rfl rfl (fun c => ?_) (fun c => ?_)
      · replace h := h.1 c
        refine mr_const (pc' := 49) rfl rfl (by unfold mj_r; decide) ?_
        refine mr_goto rfl ?_
        exact mr_iret rfl rfl (by simp [mj_fit]) h
      · replace h := h.2 c
        refine mr_iload (pc' := 25) rfl rfl rfl ?_
        refine mr_const (pc' := 27) rfl rfl (by unfold mj_r; decide) ?_
        refine mr_ic_eq (pc' := 30) rfl rfl (fun c => ?_) (fun c => ?_)
        · replace h := h.1 c
          refine mr_const (pc' := 49) rfl rfl (by unfold mj_r; decide) ?_
          refine mr_goto rfl ?_
          exact mr_iret rfl rfl (by simp [mj_fit]) h
        · replace h := h.2 c
          refine mr_iload (pc' := 31) rfl rfl rfl ?_
          refine mr_const (pc' := 33) rfl rfl (by unfold mj_r; decide) ?_
          refine mr_ic_eq (pc' := 36) rfl rfl (fun c => ?_) (fun c => ?_)
          · replace h := h.1 c
            refine mr_const (pc' := 49) rfl rfl (by unfold mj_r; decide) ?_
            refine mr_goto rfl ?_
            exact mr_iret rfl rfl (by simp [mj_fit]) h
          · replace h := h.2 c
            refine mr_iload (pc' := 37) rfl rfl rfl ?_
            refine mr_const (pc' := 39) rfl rfl (by unfold mj_r; decide) ?_
            refine mr_ic_eq (pc' := 42) rfl rfl (fun c => ?_) (fun c => ?_)
            · replace h := h.1 c
              refine mr_const (pc' := 49) rfl rfl (by unfold mj_r; decide) ?_
              refine mr_goto rfl ?_
              exact mr_iret rfl rfl (by simp [mj_fit]) h
            · replace h := h.2 c
              refine mr_iload (pc' := 43) rfl rfl rfl ?_
              refine mr_const (pc' := 45) rfl rfl (by unfold mj_r; decide) ?_
              refine mr_ic_ne (pc' := 48) rfl rfl (fun c => ?_) (fun c => ?_)
              · replace h := h.1 c
                refine mr_const (pc' := 53) rfl rfl (by unfold mj_r; decide) ?_
                exact mr_iret rfl rfl (by simp [mj_fit]) h
              · replace h := h.2 c
                refine mr_const (pc' := 49) rfl rfl (by unfold mj_r; decide) ?_
                refine mr_goto rfl ?_
                exact mr_iret rfl rfl (by simp [mj_fit]) h
  · replace h := h.2 c
    refine mr_iload (pc' := 7) rfl rfl rfl ?_
    refine mr_const (pc' := 9) rfl rfl (by unfold mj_r; decide) ?_
    refine mr_ic_le (pc' := 12) rfl rfl (fun c => ?_) (fun c => ?_)
    · replace h := h.1 c
      refine mr_const (pc' := 49) rfl rfl (by unfold mj_r; decide) ?_
      refine mr_goto rfl ?_
      exact mr_iret rfl rfl (by simp [mj_fit]) h
    · replace h := h.2 c
      refine mr_iload (pc' := 13) rfl rfl rfl ?_
      refine mr_const (pc' := 15) rfl rfl (by unfold mj_r; decide) ?_
      refine mr_ic_eq (pc' := 18) rfl rfl (fun c => ?_) (fun c => ?_)
      · replace h := h.1 c
        refine mr_const (pc' := 49) rfl rfl (by unfold mj_r; decide) ?_
        refine mr_goto rfl ?_
        exact mr_iret rfl rfl (by simp [mj_fit]) h
      · replace h := h.2 c
        refine mr_iload (pc' := 19) rfl rfl rfl ?_
        refine mr_const (pc' := 21) rfl rfl (by unfold mj_r; decide) ?_
        refine mr_ic_eq (pc' := 24) rfl rfl (fun c => ?_) (fun c => ?_)
        · replace h := h.1 c
          refine mr_const (pc' := 49) rfl rfl (by unfold mj_r; decide) ?_
          refine mr_goto rfl ?_
          exact mr_iret rfl rfl (by simp [mj_fit]) h
        · replace h := h.2 c
          refine mr_iload (pc' := 25) rfl rfl rfl ?_
          refine mr_const (pc' := 27) rfl rfl (by unfold mj_r; decide) ?_
          refine mr_ic_eq (pc' := 30) rfl rfl (fun c => ?_) (fun c => ?_)
          · replace h := h.1 c
            refine mr_const (pc' := 49) rfl rfl (by unfold mj_r; decide) ?_
            refine mr_goto rfl ?_
            exact mr_iret rfl rfl (by simp [mj_fit]) h
          · replace h := h.2 c
            refine mr_iload (pc' := 31) rfl rfl rfl ?_
            refine mr_const (pc' := 33) rfl rfl (by unfold mj_r; decide) ?_
            refine mr_ic_eq (pc' := 36) rfl rfl (fun c => ?_) (fun c => ?_)
            · replace h := h.1 c
              refine mr_const (pc' := 49) rfl rfl (by unfold mj_r; decide) ?_
              refine mr_goto rfl ?_
              exact mr_iret rfl rfl (by simp [mj_fit]) h
            · replace h := h.2 c
              refine mr_iload (pc' := 37) rfl rfl rfl ?_
              refine mr_const (pc' := 39) rfl rfl (by unfold mj_r; decide) ?_
              refine mr_ic_eq (pc' := 42) rfl rfl (fun c => ?_) (fun c => ?_)
              · replace h := h.1 c
                refine mr_const (pc' := 49) rfl rfl (by unfold mj_r; decide) ?_
                refine mr_goto rfl ?_
                exact mr_iret rfl rfl (by simp [mj_fit]) h
              · replace h := h.2 c
                refine mr_iload (pc' := 43) rfl rfl rfl ?_
                refine mr_const (pc' := 45) rfl rfl (by unfold mj_r; decide) ?_
                refine mr_ic_ne (pc' := 48) rfl rfl (fun c => ?_) (fun c => ?_)
                · replace h := h.1 c
                  refine mr_const (pc' := 53) rfl rfl (by unfold mj_r; decide) ?_
                  exact mr_iret rfl rfl (by simp [mj_fit]) h
                · replace h := h.2 c
                  refine mr_const (pc' := 49) rfl rfl (by unfold mj_r; decide) ?_
                  refine mr_goto rfl ?_
                  exact mr_iret rfl rfl (by simp [mj_fit]) h
theorem s_c53 {d : Nat} {σ : mj_S} {Q : mj_Q} {x1 : Int}  (h : Q (some (.inl (if z_le x1 then 1 else 0))) σ) : mj_B mjc_L mjc_Ms (d + 1) 53 [.inl x1] σ Q := by
  refine wq_c53 ?_
  simp only [z_le] at *
  repeat' (first | apply And.intro | intro _)
  all_goals first | exact h | omega | (unfold mj_r at *; omega) | trivial | exact bo_fit | assumption | ((try subst_vars); (try simp only [z_rd] at *); (repeat' split at h) <;> first | exact h | (exfalso; omega) | (simp_all; done) | (simp_all; omega))
set_option maxRecDepth 20000 in
/-- ListSpeaker$Code.release_ -/
theorem wq_c55 {d : Nat} {σ : mj_S} {Q : mj_Q} {x1 : Int} (h : (x1 < 0 → Q none σ) ∧ (0 ≤ x1 → ((σ 4 3) ≤ x1 → Q none σ) ∧ (x1 < (σ 4 3) → ∀ σ1, σ1 = mj_up σ 4 3 x1 → Q none σ1))) : mj_B mjc_L mjc_Ms (d + 1) 55 [.inr (.inl 4), .inl x1] σ Q := by
  refine mj_B_of (M := mjcM55) (ls := [some (.inr (.inl 4)), some (.inl x1)]) rfl (mj_c1_all rfl) (Nat.le_of_ble_eq_true rfl) rfl ?_
  refine mr_iload (pc' := 1) rfl rfl rfl ?_
  refine mr_if_lt (pc' := 4) rfl rfl (fun c => ?_) (fun c => ?_)
  · replace h := h.1 c
    exact mr_ret rfl rfl h
  · replace h := h.2 c
    refine mr_iload (pc' := 5) rfl rfl rfl ?_
    refine mr_aload (pc' := 6) rfl rfl rfl ?_
    refine mr_get (ci := 0) (pc' := 9) rfl rfl rfl rfl ?_
    refine mr_ic_ge (pc' := 12) rfl rfl (fun c => ?_) (fun c => ?_)
    · replace h := h.1 c
      exact mr_ret rfl rfl h
    · replace h := h.2 c
      refine mr_aload (pc' := 13) rfl rfl rfl ?_
      refine mr_iload (pc' := 14) rfl rfl rfl ?_
      refine mr_put (pc' := 17) rfl rfl rfl rfl (fun σ1 e9 => ?_)
      replace h := h σ1 e9
      exact mr_ret rfl rfl h
theorem s_c55 {d : Nat} {σ : mj_S} {Q : mj_Q} {x1 : Int}  (h : ∀ σ', σ' = z_rl σ 4 3 x1 → Q none σ') : mj_B mjc_L mjc_Ms (d + 1) 55 [.inr (.inl 4), .inl x1] σ Q := by
  refine wq_c55 ?_
  replace h := h _ rfl
  simp only [z_rl] at *
  repeat' (first | apply And.intro | intro _)
  all_goals first | exact h | omega | (unfold mj_r at *; omega) | trivial | exact bo_fit | assumption | ((try subst_vars); (try simp only [z_rd] at *); (repeat' split at h) <;> first | exact h | (exfalso; omega) | (simp_all; done) | (simp_all; omega))
set_option maxRecDepth 20000 in
/-- ListSpeaker$Code.operation_ -/
theorem wq_c56 {d : Nat} {σ : mj_S} {Q : mj_Q} {x1 : Int} (h : (x1 < 0 → Q (some (.inl 0)) σ) ∧ (0 ≤ x1 → ((σ 4 3) ≤ x1 → Q (some (.inl 0)) σ) ∧ (x1 < (σ 4 3) → 0 ≤ x1 ∧ x1 < 2400 ∧ Q (some (.inl (σ 19 x1.toNat))) σ))) : mj_B mjc_L mjc_Ms (d + 1) 56 [.inr (.inl 4), .inl x1] σ Q := by
  refine mj_B_of (M := mjcM56) (ls := [some (.inr (.inl 4)), some (.inl x1)]) rfl (mj_c1_all rfl) (Nat.le_of_ble_eq_true rfl) rfl ?_
  refine mr_iload (pc' := 1) rfl rfl rfl ?_
  refine mr_if_lt (pc' := 4) rfl rfl (fun c => ?_) (fun c => ?_)
  · replace h := h.1 c
    refine mr_const (pc' := 22) rfl rfl (by unfold mj_r; decide) ?_
    exact mr_iret rfl rfl trivial h
  · replace h := h.2 c
    refine mr_iload (pc' := 5) rfl rfl rfl ?_
    refine mr_aload (pc' := 6) rfl rfl rfl ?_
    refine mr_get (ci := 0) (pc' := 9) rfl rfl rfl rfl ?_
    refine mr_ic_ge (pc' := 12) rfl rfl (fun c => ?_) (fun c => ?_)
    · replace h := h.1 c
      refine mr_const (pc' := 22) rfl rfl (by unfold mj_r; decide) ?_
      exact mr_iret rfl rfl trivial h
    · replace h := h.2 c
      refine mr_aload (pc' := 13) rfl rfl rfl ?_
      refine mr_getr (ci := 0) (pc' := 16) rfl rfl rfl rfl ?_
      refine mr_iload (pc' := 17) rfl rfl rfl ?_
      obtain ⟨h0, h1, h⟩ := h
      refine mr_iald (pc' := 18) rfl rfl rfl h0 h1 ?_
      refine mr_goto rfl ?_
      exact mr_iret rfl rfl trivial h
theorem s_c56 {d : Nat} {σ : mj_S} {Q : mj_Q} {x1 : Int} (p0 : σ 4 3 ≤ 2400) (h : Q (some (.inl (z_op σ 19 x1))) σ) : mj_B mjc_L mjc_Ms (d + 1) 56 [.inr (.inl 4), .inl x1] σ Q := by
  refine wq_c56 ?_
  simp only [z_op] at *
  repeat' (first | apply And.intro | intro _)
  all_goals first | exact h | omega | (unfold mj_r at *; omega) | trivial | exact bo_fit | assumption | ((try subst_vars); (try simp only [z_rd] at *); (repeat' split at h) <;> first | exact h | (exfalso; omega) | (simp_all; done) | (simp_all; omega))
set_option maxRecDepth 20000 in
/-- ListSpeaker$Code.operand_ -/
theorem wq_c57 {d : Nat} {σ : mj_S} {Q : mj_Q} {x1 : Int} (h : (x1 < 0 → Q (some (.inl 0)) σ) ∧ (0 ≤ x1 → ((σ 4 3) ≤ x1 → Q (some (.inl 0)) σ) ∧ (x1 < (σ 4 3) → 0 ≤ x1 ∧ x1 < 2400 ∧ Q (some (.inl (σ 20 x1.toNat))) σ))) : mj_B mjc_L mjc_Ms (d + 1) 57 [.inr (.inl 4), .inl x1] σ Q := by
  refine mj_B_of (M := mjcM57) (ls := [some (.inr (.inl 4)), some (.inl x1)]) rfl (mj_c1_all rfl) (Nat.le_of_ble_eq_true rfl) rfl ?_
  refine mr_iload (pc' := 1) rfl rfl rfl ?_
  refine mr_if_lt (pc' := 4) rfl rfl (fun c => ?_) (fun c => ?_)
  · replace h := h.1 c
    refine mr_const (pc' := 22) rfl rfl (by unfold mj_r; decide) ?_
    exact mr_iret rfl rfl trivial h
  · replace h := h.2 c
    refine mr_iload (pc' := 5) rfl rfl rfl ?_
    refine mr_aload (pc' := 6) rfl rfl rfl ?_
    refine mr_get (ci := 0) (pc' := 9) rfl rfl rfl rfl ?_
    refine mr_ic_ge (pc' := 12) rfl rfl (fun c => ?_) (fun c => ?_)
    · replace h := h.1 c
      refine mr_const (pc' := 22) rfl rfl (by unfold mj_r; decide) ?_
      exact mr_iret rfl rfl trivial h
    · replace h := h.2 c
      refine mr_aload (pc' := 13) rfl rfl rfl ?_
      refine mr_getr (ci := 0) (pc' := 16) rfl rfl rfl rfl ?_
      refine mr_iload (pc' := 17) rfl rfl rfl ?_
      obtain ⟨h0, h1, h⟩ := h
      refine mr_iald (pc' := 18) rfl rfl rfl h0 h1 ?_
      refine mr_goto rfl ?_
      exact mr_iret rfl rfl trivial h
theorem s_c57 {d : Nat} {σ : mj_S} {Q : mj_Q} {x1 : Int} (p0 : σ 4 3 ≤ 2400) (h : Q (some (.inl (z_op σ 20 x1))) σ) : mj_B mjc_L mjc_Ms (d + 1) 57 [.inr (.inl 4), .inl x1] σ Q := by
  refine wq_c57 ?_
  simp only [z_op] at *
  repeat' (first | apply And.intro | intro _)
  all_goals first | exact h | omega | (unfold mj_r at *; omega) | trivial | exact bo_fit | assumption | ((try subst_vars); (try simp only [z_rd] at *); (repeat' split at h) <;> first | exact h | (exfalso; omega) | (simp_all; done) | (simp_all; omega))
set_option maxRecDepth 20000 in
/-- ListSpeaker$Code.number_ -/
theorem wq_c58 {d : Nat} {σ : mj_S} {Q : mj_Q} {x1 : Int} (h : (x1 < 0 → Q (some (.inl 0)) σ) ∧ (0 ≤ x1 → ((σ 4 3) ≤ x1 → Q (some (.inl 0)) σ) ∧ (x1 < (σ 4 3) → 0 ≤ x1 ∧ x1 < 2400 ∧ Q (some (.inl (σ 21 x1.toNat))) σ))) : mj_B mjc_L mjc_Ms (d + 1) 58 [.inr (.inl 4), .inl x1] σ Q := by
  refine mj_B_of (M := mjcM58) (ls := [some (.inr (.inl 4)), some (.inl x1)]) rfl (mj_c1_all rfl) (Nat.le_of_ble_eq_true rfl) rfl ?_
  refine mr_iload (pc' := 1) rfl rfl rfl ?_
  refine mr_if_lt (pc' := 4) rfl rfl (fun c => ?_) (fun c => ?_)
  · replace h := h.1 c
    refine mr_const (pc' := 22) rfl rfl (by unfold mj_r; decide) ?_
    exact mr_iret rfl rfl trivial h
  · replace h := h.2 c
    refine mr_iload (pc' := 5) rfl rfl rfl ?_
    refine mr_aload (pc' := 6) rfl rfl rfl ?_
    refine mr_get (ci := 0) (pc' := 9) rfl rfl rfl rfl ?_
    refine mr_ic_ge (pc' := 12) rfl rfl (fun c => ?_) (fun c => ?_)
    · replace h := h.1 c
      refine mr_const (pc' := 22) rfl rfl (by unfold mj_r; decide) ?_
      exact mr_iret rfl rfl trivial h
    · replace h := h.2 c
      refine mr_aload (pc' := 13) rfl rfl rfl ?_
      refine mr_getr (ci := 0) (pc' := 16) rfl rfl rfl rfl ?_
      refine mr_iload (pc' := 17) rfl rfl rfl ?_
      obtain ⟨h0, h1, h⟩ := h
      refine mr_iald (pc' := 18) rfl rfl rfl h0 h1 ?_
      refine mr_goto rfl ?_
      exact mr_iret rfl rfl trivial h
theorem s_c58 {d : Nat} {σ : mj_S} {Q : mj_Q} {x1 : Int} (p0 : σ 4 3 ≤ 2400) (h : Q (some (.inl (z_op σ 21 x1))) σ) : mj_B mjc_L mjc_Ms (d + 1) 58 [.inr (.inl 4), .inl x1] σ Q := by
  refine wq_c58 ?_
  simp only [z_op] at *
  repeat' (first | apply And.intro | intro _)
  all_goals first | exact h | omega | (unfold mj_r at *; omega) | trivial | exact bo_fit | assumption | ((try subst_vars); (try simp only [z_rd] at *); (repeat' split at h) <;> first | exact h | (exfalso; omega) | (simp_all; done) | (simp_all; omega))
set_option maxRecDepth 20000 in
/-- ListSpeaker$Code.putCall_ -/
theorem wq_c60 {d : Nat} {σ : mj_S} {Q : mj_Q} {x1 x2 x3 : Int} (h : ((σ 4 3) < 2400 → 0 ≤ (σ 4 3) ∧ (σ 4 3) < 2400 ∧ ∀ σ1, σ1 = mj_up σ 19 (σ 4 3).toNat x1 → 0 ≤ (σ1 4 3) ∧ (σ1 4 3) < 2400 ∧ ∀ σ2, σ2 = mj_up σ1 20 (σ1 4 3).toNat x2 → 0 ≤ (σ2 4 3) ∧ (σ2 4 3) < 2400 ∧ ∀ σ3, σ3 = mj_up σ2 21 (σ2 4 3).toNat x3 → mj_r ((σ3 4 3) + 1) ∧ ∀ σ4, σ4 = mj_up σ3 4 3 ((σ3 4 3) + 1) → mj_r ((σ4 4 3) - 1) ∧ Q (some (.inl ((σ4 4 3) - 1))) σ4) ∧ (2400 ≤ (σ 4 3) → Q (some (.inl (-1))) σ)) : mj_B mjc_L mjc_Ms (d + 1) 60 [.inr (.inl 4), .inl x1, .inl x2, .inl x3] σ Q := by
  refine mj_B_of (M := mjcM60) (ls := [some (.inr (.inl 4)), some (.inl x1), some (.inl x2), some (.inl x3)]) rfl (mj_c1_all rfl) (Nat.le_of_ble_eq_true rfl) rfl ?_
  refine mr_aload (pc' := 1) rfl rfl rfl ?_
  refine mr_get (ci := 0) (pc' := 4) rfl rfl rfl rfl ?_
  refine mr_const (pc' := 7) rfl rfl (by unfold mj_r; decide) ?_
  refine mr_ic_lt (pc' := 10) rfl rfl (fun c => ?_) (fun c => ?_)
  · replace h := h.1 c
    refine mr_aload (pc' := 13) rfl rfl rfl ?_
    refine mr_getr (ci := 0) (pc' := 16) rfl rfl rfl rfl ?_
    refine mr_aload (pc' := 17) rfl rfl rfl ?_
    refine mr_get (ci := 0) (pc' := 20) rfl rfl rfl rfl ?_
    refine mr_iload (pc' := 21) rfl rfl rfl ?_
    obtain ⟨h0, h1, h⟩ := h
    refine mr_iast (pc' := 22) rfl rfl rfl h0 h1 (fun σ1 e9 => ?_)
    replace h := h σ1 e9
    refine mr_aload (pc' := 23) rfl rfl rfl ?_
    refine mr_getr (ci := 0) (pc' := 26) rfl rfl rfl rfl ?_
    refine mr_aload (pc' := 27) rfl rfl rfl ?_
    refine mr_get (ci := 0) (pc' := 30) rfl rfl rfl rfl ?_
    refine mr_iload (pc' := 31) rfl rfl rfl ?_
    obtain ⟨h0, h1, h⟩ := h
    refine mr_iast (pc' := 32) rfl rfl rfl h0 h1 (fun σ2 e9 => ?_)
    replace h := h σ2 e9
    refine mr_aload (pc' := 33) rfl rfl rfl ?_
    refine mr_getr (ci := 0) (pc' := 36) rfl rfl rfl rfl ?_
    refine mr_aload (pc' := 37) rfl rfl rfl ?_
    refine mr_get (ci := 0) (pc' := 40) rfl rfl rfl rfl ?_
    refine mr_iload (pc' := 41) rfl rfl rfl ?_
    obtain ⟨h0, h1, h⟩ := h
    refine mr_iast (pc' := 42) rfl rfl rfl h0 h1 (fun σ3 e9 => ?_)
    replace h := h σ3 e9
    refine mr_aload (pc' := 43) rfl rfl rfl ?_
    refine mr_dup (pc' := 44) rfl rfl trivial ?_
    refine mr_get (ci := 0) (pc' := 47) rfl rfl rfl rfl ?_
    refine mr_const (pc' := 48) rfl rfl (by unfold mj_r; decide) ?_
    obtain ⟨h0, h⟩ := h
    refine mr_iadd (pc' := 49) rfl rfl h0 ?_
    refine mr_put (pc' := 52) rfl rfl rfl rfl (fun σ4 e9 => ?_)
    replace h := h σ4 e9
    refine mr_aload (pc' := 53) rfl rfl rfl ?_
    refine mr_get (ci := 0) (pc' := 56) rfl rfl rfl rfl ?_
    refine mr_const (pc' := 57) rfl rfl (by unfold mj_r; decide) ?_
    obtain ⟨h0, h⟩ := h
    refine mr_isub (pc' := 58) rfl rfl h0 ?_
    exact mr_iret rfl rfl trivial h
  · replace h := h.2 c
    refine mr_const (pc' := 11) rfl rfl (by unfold mj_r; decide) ?_
    exact mr_iret rfl rfl trivial h
theorem s_c60 {d : Nat} {σ : mj_S} {Q : mj_Q} {x1 x2 x3 : Int} (p0 : 0 ≤ σ 4 3) (h : ∀ σ', σ' = z_put σ x1 x2 x3 → Q (some (.inl (if σ 4 3 < 2400 then σ 4 3 else -1))) σ') : mj_B mjc_L mjc_Ms (d + 1) 60 [.inr (.inl 4), .inl x1, .inl x2, .inl x3] σ Q := by
  refine wq_c60 ?_
  replace h := h _ rfl
  simp only [z_put] at *
  repeat' (first | apply And.intro | intro _)
  all_goals first | exact h | omega | (unfold mj_r at *; omega) | trivial | exact bo_fit | assumption | ((try subst_vars); (try simp only [z_rd] at *); (repeat' split at h) <;> first | exact h | (exfalso; omega) | (simp_all; done) | (simp_all; omega))
set_option maxRecDepth 20000 in
/-- ListSpeaker$Maker.know_ -/
theorem wq_c67 {d : Nat} {σ : mj_S} {Q : mj_Q} {x1 x2 : Int} (h : (400 ≤ (σ 5 4) → Q none σ) ∧ ((σ 5 4) < 400 → 0 ≤ (σ 5 4) ∧ (σ 5 4) < 400 ∧ ∀ σ1, σ1 = mj_up σ 22 (σ 5 4).toNat x1 → 0 ≤ (σ1 5 4) ∧ (σ1 5 4) < 400 ∧ ∀ σ2, σ2 = mj_up σ1 23 (σ1 5 4).toNat x2 → mj_r ((σ2 5 4) + 1) ∧ ∀ σ3, σ3 = mj_up σ2 5 4 ((σ2 5 4) + 1) → Q none σ3)) : mj_B mjc_L mjc_Ms (d + 1) 67 [.inr (.inl 5), .inl x1, .inl x2] σ Q := by
  refine mj_B_of (M := mjcM67) (ls := [some (.inr (.inl 5)), some (.inl x1), some (.inl x2)]) rfl (mj_c1_all rfl) (Nat.le_of_ble_eq_true rfl) rfl ?_
  refine mr_aload (pc' := 1) rfl rfl rfl ?_
  refine mr_get (ci := 0) (pc' := 4) rfl rfl rfl rfl ?_
  refine mr_const (pc' := 7) rfl rfl (by unfold mj_r; decide) ?_
  refine mr_ic_ge (pc' := 10) rfl rfl (fun c => ?_) (fun c => ?_)
  · replace h := h.1 c
    exact mr_ret rfl rfl h
  · replace h := h.2 c
    refine mr_aload (pc' := 11) rfl rfl rfl ?_
    refine mr_getr (ci := 0) (pc' := 14) rfl rfl rfl rfl ?_
    refine mr_aload (pc' := 15) rfl rfl rfl ?_
    refine mr_get (ci := 0) (pc' := 18) rfl rfl rfl rfl ?_
    refine mr_iload (pc' := 19) rfl rfl rfl ?_
    obtain ⟨h0, h1, h⟩ := h
    refine mr_iast (pc' := 20) rfl rfl rfl h0 h1 (fun σ1 e9 => ?_)
    replace h := h σ1 e9
    refine mr_aload (pc' := 21) rfl rfl rfl ?_
    refine mr_getr (ci := 0) (pc' := 24) rfl rfl rfl rfl ?_
    refine mr_aload (pc' := 25) rfl rfl rfl ?_
    refine mr_get (ci := 0) (pc' := 28) rfl rfl rfl rfl ?_
    refine mr_iload (pc' := 29) rfl rfl rfl ?_
    obtain ⟨h0, h1, h⟩ := h
    refine mr_iast (pc' := 30) rfl rfl rfl h0 h1 (fun σ2 e9 => ?_)
    replace h := h σ2 e9
    refine mr_aload (pc' := 31) rfl rfl rfl ?_
    refine mr_dup (pc' := 32) rfl rfl trivial ?_
    refine mr_get (ci := 0) (pc' := 35) rfl rfl rfl rfl ?_
    refine mr_const (pc' := 36) rfl rfl (by unfold mj_r; decide) ?_
    obtain ⟨h0, h⟩ := h
    refine mr_iadd (pc' := 37) rfl rfl h0 ?_
    refine mr_put (pc' := 40) rfl rfl rfl rfl (fun σ3 e9 => ?_)
    replace h := h σ3 e9
    exact mr_ret rfl rfl h
theorem s_c67 {d : Nat} {σ : mj_S} {Q : mj_Q} {x1 x2 : Int} (p0 : 0 ≤ σ 5 4) (h : ∀ σ', σ' = z_kn σ x1 x2 → Q none σ') : mj_B mjc_L mjc_Ms (d + 1) 67 [.inr (.inl 5), .inl x1, .inl x2] σ Q := by
  refine wq_c67 ?_
  replace h := h _ rfl
  simp only [z_kn] at *
  repeat' (first | apply And.intro | intro _)
  all_goals first | exact h | omega | (unfold mj_r at *; omega) | trivial | exact bo_fit | assumption | ((try subst_vars); (try simp only [z_rd] at *); (repeat' split at h) <;> first | exact h | (exfalso; omega) | (simp_all; done) | (simp_all; omega))
set_option maxRecDepth 20000 in
/-- ListSpeaker$Maker.isPrimitive_ -/
theorem wq_c71 {d : Nat} {σ : mj_S} {Q : mj_Q} {x1 : Int} (h : (x1 < 268435466 → Q (some (.inl 0)) σ) ∧ (268435466 ≤ x1 → (268435476 < x1 → Q (some (.inl 0)) σ) ∧ (x1 ≤ 268435476 → Q (some (.inl 1)) σ))) : mj_B mjc_L mjc_Ms (d + 1) 71 [.inl x1] σ Q := by
  refine mj_B_of (M := mjcM71) (ls := [some (.inl x1)]) rfl (mj_c1_all rfl) (Nat.le_of_ble_eq_true rfl) rfl ?_
  refine mr_iload (pc' := 1) rfl rfl rfl ?_
  refine mr_const (pc' := 3) rfl rfl (by unfold mj_r; decide) ?_
  refine mr_ic_lt (pc' := 6) rfl rfl (fun c => ?_) (fun c => ?_)
  · replace h := h.1 c
    refine mr_const (pc' := 17) rfl rfl (by unfold mj_r; decide) ?_
    exact mr_iret rfl rfl (by simp [mj_fit]) h
  · replace h := h.2 c
    refine mr_iload (pc' := 7) rfl rfl rfl ?_
    refine mr_const (pc' := 9) rfl rfl (by unfold mj_r; decide) ?_
    refine mr_ic_gt (pc' := 12) rfl rfl (fun c => ?_) (fun c => ?_)
    · replace h := h.1 c
      refine mr_const (pc' := 17) rfl rfl (by unfold mj_r; decide) ?_
      exact mr_iret rfl rfl (by simp [mj_fit]) h
    · replace h := h.2 c
      refine mr_const (pc' := 13) rfl rfl (by unfold mj_r; decide) ?_
      refine mr_goto rfl ?_
      exact mr_iret rfl rfl (by simp [mj_fit]) h
theorem s_c71 {d : Nat} {σ : mj_S} {Q : mj_Q} {x1 : Int}  (h : Q (some (.inl (if 268435466 ≤ x1 ∧ x1 ≤ 268435476 then 1 else 0))) σ) : mj_B mjc_L mjc_Ms (d + 1) 71 [.inl x1] σ Q := by
  refine wq_c71 ?_
  repeat' (first | apply And.intro | intro _)
  all_goals first | exact h | omega | (unfold mj_r at *; omega) | trivial | exact bo_fit | assumption | ((try subst_vars); (try simp only [z_rd] at *); (repeat' split at h) <;> first | exact h | (exfalso; omega) | (simp_all; done) | (simp_all; omega))
set_option maxRecDepth 20000 in
/-- ListSpeaker$Maker.argumentsOf_ -/
theorem wq_c72 {d : Nat} {σ : mj_S} {Q : mj_Q} {x1 : Int} (h : (x1 = 268435466 → Q (some (.inl 2)) σ) ∧ (x1 = 268435467 → Q (some (.inl 1)) σ) ∧ (x1 = 268435468 → Q (some (.inl 1)) σ) ∧ (x1 = 268435469 → Q (some (.inl 1)) σ) ∧ (x1 = 268435470 → Q (some (.inl 1)) σ) ∧ (x1 = 268435471 → Q (some (.inl 1)) σ) ∧ (x1 = 268435472 → Q (some (.inl 2)) σ) ∧ (x1 = 268435473 → Q (some (.inl 2)) σ) ∧ (x1 = 268435474 → Q (some (.inl 2)) σ) ∧ (x1 = 268435475 → Q (some (.inl 2)) σ) ∧ (¬ (268435466 ≤ x1 ∧ x1 ≤ 268435475) → Q (some (.inl 1)) σ)) : mj_B mjc_L mjc_Ms (d + 1) 72 [.inl x1] σ Q := by
  refine mj_B_of (M := mjcM72) (ls := [some (.inl x1)]) rfl (mj_c1_all rfl) (Nat.le_of_ble_eq_true rfl) rfl ?_
  refine mr_iload (pc' := 1) rfl rfl rfl ?_
  refine mr_tsw rfl ?_
  obtain ⟨g0, g1, g2, g3, g4, g5, g6, g7, g8, g9, g10⟩ := h
  by_cases c0 : x1 = 268435466
  · have h := g0 c0
    rw [c0]
    show mj_P mjc_L mjc_Ms d mjco72 ((Option.some Jvm.ClassFile.FieldType.int)) Q 56 _ _ _
    refine mr_const (pc' := 57) rfl rfl (by unfold mj_r; decide) ?_
    exact mr_iret rfl rfl trivial h
  by_cases c1 : x1 = 268435467
  · have h := g1 c1
    rw [c1]
    show mj_P mjc_L mjc_Ms d mjco72 ((Option.some Jvm.ClassFile.FieldType.int)) Q 58 _ _ _
    refine mr_const (pc' := 59) rfl rfl (by unfold mj_r; decide) ?_
    exact mr_iret rfl rfl trivial h
  by_cases c2 : x1 = 268435468
  · have h := g2 c2
    rw [c2]
    show mj_P mjc_L mjc_Ms d mjco72 ((Option.some Jvm.ClassFile.FieldType.int)) Q 58 _ _ _
    refine mr_const (pc' := 59) rfl rfl (by unfold mj_r; decide) ?_
    exact mr_iret rfl rfl trivial h
  by_cases c3 : x1 = 268435469
  · have h := g3 c3
    rw [c3]
    show mj_P mjc_L mjc_Ms d mjco72 ((Option.some Jvm.ClassFile.FieldType.int)) Q 58 _ _ _
    refine mr_const (pc' := 59) rfl rfl (by unfold mj_r; decide) ?_
    exact mr_iret rfl rfl trivial h
  by_cases c4 : x1 = 268435470
  · have h := g4 c4
    rw [c4]
    show mj_P mjc_L mjc_Ms d mjco72 ((Option.some Jvm.ClassFile.FieldType.int)) Q 58 _ _ _
    refine mr_const (pc' := 59) rfl rfl (by unfold mj_r; decide) ?_
    exact mr_iret rfl rfl trivial h
  by_cases c5 : x1 = 268435471
  · have h := g5 c5
    rw [c5]
    show mj_P mjc_L mjc_Ms d mjco72 ((Option.some Jvm.ClassFile.FieldType.int)) Q 58 _ _ _
    refine mr_const (pc' := 59) rfl rfl (by unfold mj_r; decide) ?_
    exact mr_iret rfl rfl trivial h
  by_cases c6 : x1 = 268435472
  · have h := g6 c6
    rw [c6]
    show mj_P mjc_L mjc_Ms d mjco72 ((Option.some Jvm.ClassFile.FieldType.int)) Q 56 _ _ _
    refine mr_const (pc' := 57) rfl rfl (by unfold mj_r; decide) ?_
    exact mr_iret rfl rfl trivial h
  by_cases c7 : x1 = 268435473
  · have h := g7 c7
    rw [c7]
    show mj_P mjc_L mjc_Ms d mjco72 ((Option.some Jvm.ClassFile.FieldType.int)) Q 56 _ _ _
    refine mr_const (pc' := 57) rfl rfl (by unfold mj_r; decide) ?_
    exact mr_iret rfl rfl trivial h
  by_cases c8 : x1 = 268435474
  · have h := g8 c8
    rw [c8]
    show mj_P mjc_L mjc_Ms d mjco72 ((Option.some Jvm.ClassFile.FieldType.int)) Q 56 _ _ _
    refine mr_const (pc' := 57) rfl rfl (by unfold mj_r; decide) ?_
    exact mr_iret rfl rfl trivial h
  by_cases c9 : x1 = 268435475
  · have h := g9 c9
    rw [c9]
    show mj_P mjc_L mjc_Ms d mjco72 ((Option.some Jvm.ClassFile.FieldType.int)) Q 56 _ _ _
    refine mr_const (pc' := 57) rfl rfl (by unfold mj_r; decide) ?_
    exact mr_iret rfl rfl trivial h
  have h := g10 (by omega)
  rw [show mj_sw 268435466 [(268435466, 56), (268435467, 58), (268435468, 58), (268435469, 58), (268435470, 58), (268435471, 58), (268435472, 56), (268435473, 56), (268435474, 56), (268435475, 56)] 58 x1 = 58 from if_neg (by simp; omega)]
  refine mr_const (pc' := 59) rfl rfl (by unfold mj_r; decide) ?_
  exact mr_iret rfl rfl trivial h
theorem s_c72 {d : Nat} {σ : mj_S} {Q : mj_Q} {x1 : Int}  (h : Q (some (.inl (z_ar x1))) σ) : mj_B mjc_L mjc_Ms (d + 1) 72 [.inl x1] σ Q := by
  refine wq_c72 ?_
  simp only [z_ar] at *
  repeat' (first | apply And.intro | intro _)
  all_goals first | exact h | omega | (unfold mj_r at *; omega) | trivial | exact bo_fit | assumption | ((try subst_vars); (try simp only [z_rd] at *); (repeat' split at h) <;> first | exact h | (exfalso; omega) | (simp_all; done) | (simp_all; omega))
set_option maxRecDepth 20000 in
/-- ListSpeaker$Functions.refusal_ -/
theorem wq_c84 {d : Nat} {σ : mj_S} {Q : mj_Q} {x1 x2 : Int} (h : mj_r (x1 - 268435456) ∧ ((x1 - 268435456) < 0 → Q (some (.inl 3)) σ) ∧ (0 ≤ (x1 - 268435456) → (60 ≤ (x1 - 268435456) → Q (some (.inl 3)) σ) ∧ ((x1 - 268435456) < 60 → 0 ≤ (x1 - 268435456) ∧ (x1 - 268435456) < 60 ∧ (¬ (σ 24 (x1 - 268435456).toNat) = 0 → 0 ≤ (x1 - 268435456) ∧ (x1 - 268435456) < 60 ∧ (¬ (σ 26 (x1 - 268435456).toNat) = x2 → Q (some (.inl 4)) σ) ∧ ((σ 26 (x1 - 268435456).toNat) = x2 → Q (some (.inl 0)) σ)) ∧ ((σ 24 (x1 - 268435456).toNat) = 0 → Q (some (.inl 3)) σ)))) : mj_B mjc_L mjc_Ms (d + 1) 84 [.inr (.inl 6), .inl x1, .inl x2] σ Q := by
  refine mj_B_of (M := mjcM84) (ls := [some (.inr (.inl 6)), some (.inl x1), some (.inl x2), none]) rfl (mj_c1_all rfl) (Nat.le_of_ble_eq_true rfl) rfl ?_
  refine mr_iload (pc' := 1) rfl rfl rfl ?_
  refine mr_const (pc' := 3) rfl rfl (by unfold mj_r; decide) ?_
  obtain ⟨h0, h⟩ := h
  refine mr_isub (pc' := 4) rfl rfl h0 ?_
  refine mr_istore (pc' := 5) rfl rfl trivial (Nat.le_of_ble_eq_true rfl) rfl ?_
  refine mr_iload (pc' := 6) rfl rfl rfl ?_
  refine mr_if_lt (pc' := 9) rfl rfl (fun c => ?_) (fun c => ?_)
  · replace h := h.1 c
    refine mr_const (pc' := 25) rfl rfl (by unfold mj_r; decide) ?_
    exact mr_iret rfl rfl trivial h
  · replace h := h.2 c
    refine mr_iload (pc' := 10) rfl rfl rfl ?_
    refine mr_const (pc' := 12) rfl rfl (by unfold mj_r; decide) ?_
    refine mr_ic_ge (pc' := 15) rfl rfl (fun c => ?_) (fun c => ?_)
    · replace h := h.1 c
      refine mr_const (pc' := 25) rfl rfl (by unfold mj_r; decide) ?_
      exact mr_iret rfl rfl trivial h
    · replace h := h.2 c
      refine mr_aload (pc' := 16) rfl rfl rfl ?_
      refine mr_getr (ci := 0) (pc' := 19) rfl rfl rfl rfl ?_
      refine mr_iload (pc' := 20) rfl rfl rfl ?_
      obtain ⟨h0, h1, h⟩ := h
      refine mr_zald (pc' := 21) rfl rfl rfl h0 h1 ?_
      refine mr_if_ne (pc' := 24) rfl rfl (fun c => ?_) (fun c => ?_)
      · replace h := h.1 c
        refine mr_aload (pc' := 27) rfl rfl rfl ?_
        refine mr_getr (ci := 0) (pc' := 30) rfl rfl rfl rfl ?_
        refine mr_iload (pc' := 31) rfl rfl rfl ?_
        obtain ⟨h0, h1, h⟩ := h
        refine mr_iald (pc' := 32) rfl rfl rfl h0 h1 ?_
        refine mr_iload (pc' := 33) rfl rfl rfl ?_
        refine mr_ic_ne (pc' := 36) rfl rfl (fun c => ?_) (fun c => ?_)
        · replace h := h.1 c
          refine mr_const (pc' := 41) rfl rfl (by unfold mj_r; decide) ?_
          exact mr_iret rfl rfl trivial h
        · replace h := h.2 c
          refine mr_const (pc' := 37) rfl rfl (by unfold mj_r; decide) ?_
          refine mr_goto rfl ?_
          exact mr_iret rfl rfl trivial h
      · replace h := h.2 c
        refine mr_const (pc' := 25) rfl rfl (by unfold mj_r; decide) ?_
        exact mr_iret rfl rfl trivial h
theorem s_c84 {d : Nat} {σ : mj_S} {Q : mj_Q} {x1 x2 : Int} (p0 : z_dr x1) (h : Q (some (.inl (z_rf σ x1 x2))) σ) : mj_B mjc_L mjc_Ms (d + 1) 84 [.inr (.inl 6), .inl x1, .inl x2] σ Q := by
  refine wq_c84 ?_
  simp only [z_rf, z_dr] at *
  repeat' (first | apply And.intro | intro _)
  all_goals first | exact h | omega | (unfold mj_r at *; omega) | trivial | exact bo_fit | assumption | ((try subst_vars); (try simp only [z_rd] at *); (repeat' split at h) <;> first | exact h | (exfalso; omega) | (simp_all; done) | (simp_all; omega))
set_option maxRecDepth 20000 in
/-- ListSpeaker$Functions.start_ -/
theorem wq_c85 {d : Nat} {σ : mj_S} {Q : mj_Q} {x1 : Int} (h : mj_r (x1 - 268435456) ∧ ((x1 - 268435456) < 0 → Q (some (.inl (-1))) σ) ∧ (0 ≤ (x1 - 268435456) → (60 ≤ (x1 - 268435456) → Q (some (.inl (-1))) σ) ∧ ((x1 - 268435456) < 60 → 0 ≤ (x1 - 268435456) ∧ (x1 - 268435456) < 60 ∧ Q (some (.inl (σ 28 (x1 - 268435456).toNat))) σ))) : mj_B mjc_L mjc_Ms (d + 1) 85 [.inr (.inl 6), .inl x1] σ Q := by
  refine mj_B_of (M := mjcM85) (ls := [some (.inr (.inl 6)), some (.inl x1), none]) rfl (mj_c1_all rfl) (Nat.le_of_ble_eq_true rfl) rfl ?_
  refine mr_iload (pc' := 1) rfl rfl rfl ?_
  refine mr_const (pc' := 3) rfl rfl (by unfold mj_r; decide) ?_
  obtain ⟨h0, h⟩ := h
  refine mr_isub (pc' := 4) rfl rfl h0 ?_
  refine mr_istore (pc' := 5) rfl rfl trivial (Nat.le_of_ble_eq_true rfl) rfl ?_
  refine mr_iload (pc' := 6) rfl rfl rfl ?_
  refine mr_if_lt (pc' := 9) rfl rfl (fun c => ?_) (fun c => ?_)
  · replace h := h.1 c
    refine mr_const (pc' := 25) rfl rfl (by unfold mj_r; decide) ?_
    exact mr_iret rfl rfl trivial h
  · replace h := h.2 c
    refine mr_iload (pc' := 10) rfl rfl rfl ?_
    refine mr_const (pc' := 12) rfl rfl (by unfold mj_r; decide) ?_
    refine mr_ic_ge (pc' := 15) rfl rfl (fun c => ?_) (fun c => ?_)
    · replace h := h.1 c
      refine mr_const (pc' := 25) rfl rfl (by unfold mj_r; decide) ?_
      exact mr_iret rfl rfl trivial h
    · replace h := h.2 c
      refine mr_aload (pc' := 16) rfl rfl rfl ?_
      refine mr_getr (ci := 0) (pc' := 19) rfl rfl rfl rfl ?_
      refine mr_iload (pc' := 20) rfl rfl rfl ?_
      obtain ⟨h0, h1, h⟩ := h
      refine mr_iald (pc' := 21) rfl rfl rfl h0 h1 ?_
      refine mr_goto rfl ?_
      exact mr_iret rfl rfl trivial h
theorem s_c85 {d : Nat} {σ : mj_S} {Q : mj_Q} {x1 : Int} (p0 : z_dr x1) (h : Q (some (.inl (z_st σ x1))) σ) : mj_B mjc_L mjc_Ms (d + 1) 85 [.inr (.inl 6), .inl x1] σ Q := by
  refine wq_c85 ?_
  simp only [z_st, z_dr] at *
  repeat' (first | apply And.intro | intro _)
  all_goals first | exact h | omega | (unfold mj_r at *; omega) | trivial | exact bo_fit | assumption | ((try subst_vars); (try simp only [z_rd] at *); (repeat' split at h) <;> first | exact h | (exfalso; omega) | (simp_all; done) | (simp_all; omega))
set_option maxRecDepth 20000 in
/-- ListSpeaker$Machine.below_ -/
theorem wq_c94 {d : Nat} {σ : mj_S} {Q : mj_Q} {x1 : Int} (h : mj_r ((σ 7 7) - 1) ∧ mj_r (((σ 7 7) - 1) - x1) ∧ ((((σ 7 7) - 1) - x1) < 0 → Q (some (.inl 268435456)) σ) ∧ (0 ≤ (((σ 7 7) - 1) - x1) → (100 ≤ (((σ 7 7) - 1) - x1) → Q (some (.inl 268435456)) σ) ∧ ((((σ 7 7) - 1) - x1) < 100 → 0 ≤ (((σ 7 7) - 1) - x1) ∧ (((σ 7 7) - 1) - x1) < 100 ∧ Q (some (.inl (σ 29 (((σ 7 7) - 1) - x1).toNat))) σ))) : mj_B mjc_L mjc_Ms (d + 1) 94 [.inr (.inl 7), .inl x1] σ Q := by
  refine mj_B_of (M := mjcM94) (ls := [some (.inr (.inl 7)), some (.inl x1), none]) rfl (mj_c1_all rfl) (Nat.le_of_ble_eq_true rfl) rfl ?_
  refine mr_aload (pc' := 1) rfl rfl rfl ?_
  refine mr_get (ci := 0) (pc' := 4) rfl rfl rfl rfl ?_
  refine mr_const (pc' := 5) rfl rfl (by unfold mj_r; decide) ?_
  obtain ⟨h0, h⟩ := h
  refine mr_isub (pc' := 6) rfl rfl h0 ?_
  refine mr_iload (pc' := 7) rfl rfl rfl ?_
  obtain ⟨h0, h⟩ := h
  refine mr_isub (pc' := 8) rfl rfl h0 ?_
  refine mr_istore (pc' := 9) rfl rfl trivial (Nat.le_of_ble_eq_true rfl) rfl ?_
  refine mr_iload (pc' := 10) rfl rfl rfl ?_
  refine mr_if_lt (pc' := 13) rfl rfl (fun c => ?_) (fun c => ?_)
  · replace h := h.1 c
    refine mr_const (pc' := 30) rfl rfl (by unfold mj_r; decide) ?_
    exact mr_iret rfl rfl trivial h
  · replace h := h.2 c
    refine mr_iload (pc' := 14) rfl rfl rfl ?_
    refine mr_const (pc' := 16) rfl rfl (by unfold mj_r; decide) ?_
    refine mr_ic_ge (pc' := 19) rfl rfl (fun c => ?_) (fun c => ?_)
    · replace h := h.1 c
      refine mr_const (pc' := 30) rfl rfl (by unfold mj_r; decide) ?_
      exact mr_iret rfl rfl trivial h
    · replace h := h.2 c
      refine mr_aload (pc' := 20) rfl rfl rfl ?_
      refine mr_getr (ci := 0) (pc' := 23) rfl rfl rfl rfl ?_
      refine mr_iload (pc' := 24) rfl rfl rfl ?_
      obtain ⟨h0, h1, h⟩ := h
      refine mr_iald (pc' := 25) rfl rfl rfl h0 h1 ?_
      refine mr_goto rfl ?_
      exact mr_iret rfl rfl trivial h
theorem s_c94 {d : Nat} {σ : mj_S} {Q : mj_Q} {x1 : Int} (p0 : mj_r (σ 7 7 - 1)) (p1 : mj_r (σ 7 7 - 1 - x1)) (h : Q (some (.inl (z_bl σ x1))) σ) : mj_B mjc_L mjc_Ms (d + 1) 94 [.inr (.inl 7), .inl x1] σ Q := by
  refine wq_c94 ?_
  simp only [z_bl] at *
  repeat' (first | apply And.intro | intro _)
  all_goals first | exact h | omega | (unfold mj_r at *; omega) | trivial | exact bo_fit | assumption | ((try subst_vars); (try simp only [z_rd] at *); (repeat' split at h) <;> first | exact h | (exfalso; omega) | (simp_all; done) | (simp_all; omega))
set_option maxRecDepth 20000 in
/-- ListSpeaker$Machine.variable_ -/
theorem wq_c95 {d : Nat} {σ : mj_S} {Q : mj_Q} {x1 : Int} (h : mj_r ((σ 7 8) + x1) ∧ (((σ 7 8) + x1) < 0 → Q (some (.inl 268435456)) σ) ∧ (0 ≤ ((σ 7 8) + x1) → (100 ≤ ((σ 7 8) + x1) → Q (some (.inl 268435456)) σ) ∧ (((σ 7 8) + x1) < 100 → 0 ≤ ((σ 7 8) + x1) ∧ ((σ 7 8) + x1) < 100 ∧ Q (some (.inl (σ 29 ((σ 7 8) + x1).toNat))) σ))) : mj_B mjc_L mjc_Ms (d + 1) 95 [.inr (.inl 7), .inl x1] σ Q := by
  refine mj_B_of (M := mjcM95) (ls := [some (.inr (.inl 7)), some (.inl x1), none]) rfl (mj_c1_all rfl) (Nat.le_of_ble_eq_true rfl) rfl ?_
  refine mr_aload (pc' := 1) rfl rfl rfl ?_
  refine mr_get (ci := 0) (pc' := 4) rfl rfl rfl rfl ?_
  refine mr_iload (pc' := 5) rfl rfl rfl ?_
  obtain ⟨h0, h⟩ := h
  refine mr_iadd (pc' := 6) rfl rfl h0 ?_
  refine mr_istore (pc' := 7) rfl rfl trivial (Nat.le_of_ble_eq_true rfl) rfl ?_
  refine mr_iload (pc' := 8) rfl rfl rfl ?_
  refine mr_if_lt (pc' := 11) rfl rfl (fun c => ?_) (fun c => ?_)
  · replace h := h.1 c
    refine mr_const (pc' := 28) rfl rfl (by unfold mj_r; decide) ?_
    exact mr_iret rfl rfl trivial h
  · replace h := h.2 c
    refine mr_iload (pc' := 12) rfl rfl rfl ?_
    refine mr_const (pc' := 14) rfl rfl (by unfold mj_r; decide) ?_
    refine mr_ic_ge (pc' := 17) rfl rfl (fun c => ?_) (fun c => ?_)
    · replace h := h.1 c
      refine mr_const (pc' := 28) rfl rfl (by unfold mj_r; decide) ?_
      exact mr_iret rfl rfl trivial h
    · replace h := h.2 c
      refine mr_aload (pc' := 18) rfl rfl rfl ?_
      refine mr_getr (ci := 0) (pc' := 21) rfl rfl rfl rfl ?_
      refine mr_iload (pc' := 22) rfl rfl rfl ?_
      obtain ⟨h0, h1, h⟩ := h
      refine mr_iald (pc' := 23) rfl rfl rfl h0 h1 ?_
      refine mr_goto rfl ?_
      exact mr_iret rfl rfl trivial h
theorem s_c95 {d : Nat} {σ : mj_S} {Q : mj_Q} {x1 : Int} (p0 : mj_r (σ 7 8 + x1)) (h : Q (some (.inl (z_vr σ x1))) σ) : mj_B mjc_L mjc_Ms (d + 1) 95 [.inr (.inl 7), .inl x1] σ Q := by
  refine wq_c95 ?_
  simp only [z_vr] at *
  repeat' (first | apply And.intro | intro _)
  all_goals first | exact h | omega | (unfold mj_r at *; omega) | trivial | exact bo_fit | assumption | ((try subst_vars); (try simp only [z_rd] at *); (repeat' split at h) <;> first | exact h | (exfalso; omega) | (simp_all; done) | (simp_all; omega))
set_option maxRecDepth 20000 in
/-- ListSpeaker$Machine.jump_ -/
theorem wq_c97 {d : Nat} {σ : mj_S} {Q : mj_Q} {x1 : Int} (h : ∀ σ1, σ1 = mj_up σ 7 10 x1 → Q (some (.inl 0)) σ1) : mj_B mjc_L mjc_Ms (d + 1) 97 [.inr (.inl 7), .inl x1] σ Q := by
  refine mj_B_of (M := mjcM97) (ls := [some (.inr (.inl 7)), some (.inl x1)]) rfl (mj_c1_all rfl) (Nat.le_of_ble_eq_true rfl) rfl ?_
  refine mr_aload (pc' := 1) rfl rfl rfl ?_
  refine mr_iload (pc' := 2) rfl rfl rfl ?_
  refine mr_put (pc' := 5) rfl rfl rfl rfl (fun σ1 e9 => ?_)
  replace h := h σ1 e9
  refine mr_const (pc' := 6) rfl rfl (by unfold mj_r; decide) ?_
  exact mr_iret rfl rfl trivial h
theorem s_c97 {d : Nat} {σ : mj_S} {Q : mj_Q} {x1 : Int}  (h : ∀ σ', σ' = mj_up σ 7 10 x1 → Q (some (.inl 0)) σ') : mj_B mjc_L mjc_Ms (d + 1) 97 [.inr (.inl 7), .inl x1] σ Q := by
  refine wq_c97 ?_
  replace h := h _ rfl
  repeat' (first | apply And.intro | intro _)
  all_goals first | exact h | omega | (unfold mj_r at *; omega) | trivial | exact bo_fit | assumption | ((try subst_vars); (try simp only [z_rd] at *); (repeat' split at h) <;> first | exact h | (exfalso; omega) | (simp_all; done) | (simp_all; omega))
set_option maxRecDepth 20000 in
/-- ListSpeaker$Machine.truth_ -/
theorem wq_c103 {d : Nat} {σ : mj_S} {Q : mj_Q} {x1 : Int} (h : (x1 = 0 → Q (some (.inl 268435456)) σ) ∧ (¬ x1 = 0 → Q (some (.inl 268435457)) σ)) : mj_B mjc_L mjc_Ms (d + 1) 103 [.inl x1] σ Q := by
  refine mj_B_of (M := mjcM103) (ls := [some (.inl x1)]) rfl (mj_c1_all rfl) (Nat.le_of_ble_eq_true rfl) rfl ?_
  refine mr_iload (pc' := 1) rfl rfl rfl ?_
  refine mr_if_eq (pc' := 4) rfl rfl (fun c => ?_) (fun c => ?_)
  · replace h := h.1 c
    refine mr_const (pc' := 11) rfl rfl (by unfold mj_r; decide) ?_
    exact mr_iret rfl rfl trivial h
  · replace h := h.2 c
    refine mr_const (pc' := 6) rfl rfl (by unfold mj_r; decide) ?_
    refine mr_goto rfl ?_
    exact mr_iret rfl rfl trivial h
theorem s_c103 {d : Nat} {σ : mj_S} {Q : mj_Q} {x1 : Int}  (h : Q (some (.inl (z_tr x1))) σ) : mj_B mjc_L mjc_Ms (d + 1) 103 [.inl x1] σ Q := by
  refine wq_c103 ?_
  simp only [z_tr] at *
  repeat' (first | apply And.intro | intro _)
  all_goals first | exact h | omega | (unfold mj_r at *; omega) | trivial | exact bo_fit | assumption | ((try subst_vars); (try simp only [z_rd] at *); (repeat' split at h) <;> first | exact h | (exfalso; omega) | (simp_all; done) | (simp_all; omega))
set_option maxRecDepth 20000 in
/-- ListSpeaker$Machine.remember_ -/
theorem wq_c109 {d : Nat} {σ : mj_S} {Q : mj_Q} {x1 x2 x3 x4 : Int} (h : (x1 < 0 → Q none σ) ∧ (0 ≤ x1 → (100 ≤ x1 → Q none σ) ∧ (x1 < 100 → 0 ≤ x1 ∧ x1 < 100 ∧ ∀ σ1, σ1 = mj_up σ 30 x1.toNat x2 → 0 ≤ x1 ∧ x1 < 100 ∧ ∀ σ2, σ2 = mj_up σ1 31 x1.toNat x3 → 0 ≤ x1 ∧ x1 < 100 ∧ ∀ σ3, σ3 = mj_up σ2 32 x1.toNat x4 → Q none σ3))) : mj_B mjc_L mjc_Ms (d + 1) 109 [.inr (.inl 7), .inl x1, .inl x2, .inl x3, .inl x4] σ Q := by
  refine mj_B_of (M := mjcM109) (ls := [some (.inr (.inl 7)), some (.inl x1), some (.inl x2), some (.inl x3), some (.inl x4)]) rfl (mj_c1_all rfl) (Nat.le_of_ble_eq_true rfl) rfl ?_
  refine mr_iload (pc' := 1) rfl rfl rfl ?_
  refine mr_if_lt (pc' := 4) rfl rfl (fun c => ?_) (fun c => ?_)
  · replace h := h.1 c
    exact mr_ret rfl rfl h
  · replace h := h.2 c
    refine mr_iload (pc' := 5) rfl rfl rfl ?_
    refine mr_const (pc' := 7) rfl rfl (by unfold mj_r; decide) ?_
    refine mr_ic_ge (pc' := 10) rfl rfl (fun c => ?_) (fun c => ?_)
    · replace h := h.1 c
      exact mr_ret rfl rfl h
    · replace h := h.2 c
      refine mr_aload (pc' := 11) rfl rfl rfl ?_
      refine mr_getr (ci := 0) (pc' := 14) rfl rfl rfl rfl ?_
      refine mr_iload (pc' := 15) rfl rfl rfl ?_
      refine mr_iload (pc' := 16) rfl rfl rfl ?_
      obtain ⟨h0, h1, h⟩ := h
      refine mr_iast (pc' := 17) rfl rfl rfl h0 h1 (fun σ1 e9 => ?_)
      replace h := h σ1 e9
      refine mr_aload (pc' := 18) rfl rfl rfl ?_
      refine mr_getr (ci := 0) (pc' := 21) rfl rfl rfl rfl ?_
      refine mr_iload (pc' := 22) rfl rfl rfl ?_
      refine mr_iload (pc' := 23) rfl rfl rfl ?_
      obtain ⟨h0, h1, h⟩ := h
      refine mr_iast (pc' := 24) rfl rfl rfl h0 h1 (fun σ2 e9 => ?_)
      replace h := h σ2 e9
      refine mr_aload (pc' := 25) rfl rfl rfl ?_
      refine mr_getr (ci := 0) (pc' := 28) rfl rfl rfl rfl ?_
      refine mr_iload (pc' := 29) rfl rfl rfl ?_
      refine mr_iload (pc' := 31) rfl rfl rfl ?_
      obtain ⟨h0, h1, h⟩ := h
      refine mr_iast (pc' := 32) rfl rfl rfl h0 h1 (fun σ3 e9 => ?_)
      replace h := h σ3 e9
      exact mr_ret rfl rfl h
theorem s_c109 {d : Nat} {σ : mj_S} {Q : mj_Q} {x1 x2 x3 x4 : Int}  (h : ∀ σ', σ' = z_rm σ x1 x2 x3 x4 → Q none σ') : mj_B mjc_L mjc_Ms (d + 1) 109 [.inr (.inl 7), .inl x1, .inl x2, .inl x3, .inl x4] σ Q := by
  refine wq_c109 ?_
  replace h := h _ rfl
  simp only [z_rm] at *
  repeat' (first | apply And.intro | intro _)
  all_goals first | exact h | omega | (unfold mj_r at *; omega) | trivial | exact bo_fit | assumption | ((try subst_vars); (try simp only [z_rd] at *); (repeat' split at h) <;> first | exact h | (exfalso; omega) | (simp_all; done) | (simp_all; omega))
set_option maxRecDepth 20000 in
/-- ListSpeaker$Paper.await_ -/
theorem wq_c116 {d : Nat} {σ : mj_S} {Q : mj_Q} {x1 : Int} (h : (602 ≤ (σ 8 5) → Q none σ) ∧ ((σ 8 5) < 602 → 0 ≤ (σ 8 5) ∧ (σ 8 5) < 602 ∧ ∀ σ1, σ1 = mj_up σ 34 (σ 8 5).toNat x1 → mj_r ((σ1 8 5) + 1) ∧ ∀ σ2, σ2 = mj_up σ1 8 5 ((σ1 8 5) + 1) → Q none σ2)) : mj_B mjc_L mjc_Ms (d + 1) 116 [.inr (.inl 8), .inl x1] σ Q := by
  refine mj_B_of (M := mjcM116) (ls := [some (.inr (.inl 8)), some (.inl x1)]) rfl (mj_c1_all rfl) (Nat.le_of_ble_eq_true rfl) rfl ?_
  refine mr_aload (pc' := 1) rfl rfl rfl ?_
  refine mr_get (ci := 0) (pc' := 4) rfl rfl rfl rfl ?_
  refine mr_const (pc' := 7) rfl rfl (by unfold mj_r; decide) ?_
  refine mr_ic_ge (pc' := 10) rfl rfl (fun c => ?_) (fun c => ?_)
  · replace h := h.1 c
    exact mr_ret rfl rfl h
  · replace h := h.2 c
    refine mr_aload (pc' := 11) rfl rfl rfl ?_
    refine mr_getr (ci := 0) (pc' := 14) rfl rfl rfl rfl ?_
    refine mr_aload (pc' := 15) rfl rfl rfl ?_
    refine mr_get (ci := 0) (pc' := 18) rfl rfl rfl rfl ?_
    refine mr_iload (pc' := 19) rfl rfl rfl ?_
    obtain ⟨h0, h1, h⟩ := h
    refine mr_iast (pc' := 20) rfl rfl rfl h0 h1 (fun σ1 e9 => ?_)
    replace h := h σ1 e9
    refine mr_aload (pc' := 21) rfl rfl rfl ?_
    refine mr_dup (pc' := 22) rfl rfl trivial ?_
    refine mr_get (ci := 0) (pc' := 25) rfl rfl rfl rfl ?_
    refine mr_const (pc' := 26) rfl rfl (by unfold mj_r; decide) ?_
    obtain ⟨h0, h⟩ := h
    refine mr_iadd (pc' := 27) rfl rfl h0 ?_
    refine mr_put (pc' := 30) rfl rfl rfl rfl (fun σ2 e9 => ?_)
    replace h := h σ2 e9
    exact mr_ret rfl rfl h
theorem s_c116 {d : Nat} {σ : mj_S} {Q : mj_Q} {x1 : Int} (p0 : 0 ≤ σ 8 5) (h : ∀ σ', σ' = z_pa σ x1 → Q none σ') : mj_B mjc_L mjc_Ms (d + 1) 116 [.inr (.inl 8), .inl x1] σ Q := by
  refine wq_c116 ?_
  replace h := h _ rfl
  simp only [z_pa] at *
  repeat' (first | apply And.intro | intro _)
  all_goals first | exact h | omega | (unfold mj_r at *; omega) | trivial | exact bo_fit | assumption | ((try subst_vars); (try simp only [z_rd] at *); (repeat' split at h) <;> first | exact h | (exfalso; omega) | (simp_all; done) | (simp_all; omega))
set_option maxRecDepth 20000 in
/-- ListSpeaker$Paper.put_ -/
theorem wq_c122 {d : Nat} {σ : mj_S} {Q : mj_Q} {x1 : Int} (h : (400 ≤ (σ 8 4) → Q none σ) ∧ ((σ 8 4) < 400 → 0 ≤ (σ 8 4) ∧ (σ 8 4) < 400 ∧ mj_fit .char x1 ∧ ∀ σ1, σ1 = mj_up σ 33 (σ 8 4).toNat x1 → mj_r ((σ1 8 4) + 1) ∧ ∀ σ2, σ2 = mj_up σ1 8 4 ((σ1 8 4) + 1) → Q none σ2)) : mj_B mjc_L mjc_Ms (d + 1) 122 [.inr (.inl 8), .inl x1] σ Q := by
  refine mj_B_of (M := mjcM122) (ls := [some (.inr (.inl 8)), some (.inl x1)]) rfl (mj_c1_all rfl) (Nat.le_of_ble_eq_true rfl) rfl ?_
  refine mr_aload (pc' := 1) rfl rfl rfl ?_
  refine mr_get (ci := 0) (pc' := 4) rfl rfl rfl rfl ?_
  refine mr_const (pc' := 7) rfl rfl (by unfold mj_r; decide) ?_
  refine mr_ic_ge (pc' := 10) rfl rfl (fun c => ?_) (fun c => ?_)
  · replace h := h.1 c
    exact mr_ret rfl rfl h
  · replace h := h.2 c
    refine mr_aload (pc' := 11) rfl rfl rfl ?_
    refine mr_getr (ci := 0) (pc' := 14) rfl rfl rfl rfl ?_
    refine mr_aload (pc' := 15) rfl rfl rfl ?_
    refine mr_get (ci := 0) (pc' := 18) rfl rfl rfl rfl ?_
    refine mr_iload (pc' := 19) rfl rfl rfl ?_
    obtain ⟨h0, h1, h2, h⟩ := h
    refine mr_cast (pc' := 20) rfl rfl rfl h0 h1 h2 (fun σ1 e9 => ?_)
    replace h := h σ1 e9
    refine mr_aload (pc' := 21) rfl rfl rfl ?_
    refine mr_dup (pc' := 22) rfl rfl trivial ?_
    refine mr_get (ci := 0) (pc' := 25) rfl rfl rfl rfl ?_
    refine mr_const (pc' := 26) rfl rfl (by unfold mj_r; decide) ?_
    obtain ⟨h0, h⟩ := h
    refine mr_iadd (pc' := 27) rfl rfl h0 ?_
    refine mr_put (pc' := 30) rfl rfl rfl rfl (fun σ2 e9 => ?_)
    replace h := h σ2 e9
    exact mr_ret rfl rfl h
theorem s_c122 {d : Nat} {σ : mj_S} {Q : mj_Q} {x1 : Int} (p0 : 0 ≤ σ 8 4) (p1 : mj_fit .char x1) (h : ∀ σ', σ' = z_pp σ x1 → Q none σ') : mj_B mjc_L mjc_Ms (d + 1) 122 [.inr (.inl 8), .inl x1] σ Q := by
  refine wq_c122 ?_
  replace h := h _ rfl
  unfold z_pp at h
  refine ⟨fun c => ?_, fun c => ⟨p0, c, p1, fun σ1 e1 => ?_⟩⟩
  · rw [if_neg (by omega)] at h; exact h
  · rw [if_pos c] at h
    have a1 : σ1 8 4 = σ 8 4 := by rw [e1, z_rd]; simp
    refine ⟨by unfold mj_r; omega, fun σ2 e2 => ?_⟩
    rw [e2, a1, e1]; exact h
set_option maxRecDepth 20000 in
/-- ListSpeaker$Code.put_ -/
theorem wq_c59 {d : Nat} {σ : mj_S} {Q : mj_Q} {x1 x2 : Int} (h : 0 ≤ σ 4 3 ∧ ∀ σ1, σ1 = z_put σ x1 x2 0 → Q (some (.inl (if σ 4 3 < 2400 then σ 4 3 else -1))) σ1) : mj_B mjc_L mjc_Ms (d + 2) 59 [.inr (.inl 4), .inl x1, .inl x2] σ Q := by
  refine mj_B_of (M := mjcM59) (ls := [some (.inr (.inl 4)), some (.inl x1), some (.inl x2)]) rfl (mj_c1_all rfl) (Nat.le_of_ble_eq_true rfl) rfl ?_
  refine mr_aload (pc' := 1) rfl rfl rfl ?_
  refine mr_iload (pc' := 2) rfl rfl rfl ?_
  refine mr_iload (pc' := 3) rfl rfl rfl ?_
  refine mr_const (pc' := 4) rfl rfl (by unfold mj_r; decide) ?_
  obtain ⟨h0, h⟩ := h
  refine mr_call (t := [(4, 0)]) (pc' := 7) rfl [.inr (.inl 4), .inl x1, .inl x2, .inl 0] rfl rfl rfl (mj_recvV rfl) (Nat.le_of_ble_eq_true rfl) (s_c60 h0 (fun σ1 e9 => ?_))
  replace h := h σ1 e9
  exact mr_iret rfl rfl trivial h
theorem s_c59 {d : Nat} {σ : mj_S} {Q : mj_Q} {x1 x2 : Int} (p0 : 0 ≤ σ 4 3) (h : ∀ σ', σ' = z_put σ x1 x2 0 → Q (some (.inl (if σ 4 3 < 2400 then σ 4 3 else -1))) σ') : mj_B mjc_L mjc_Ms (d + 2) 59 [.inr (.inl 4), .inl x1, .inl x2] σ Q := by
  refine wq_c59 ?_
  exact ⟨p0, h⟩
set_option maxRecDepth 20000 in
/-- ListSpeaker$Maker.nameIn_ -/
theorem wq_c65 {d : Nat} {σ : mj_S} {Q : mj_Q} {x1 x2 : Int} (h : (x2 = 0 → Q (some (.inl x1)) σ) ∧ (¬ x2 = 0 → z_dr x1 ∧ Q (some (.inl (z_cd (σ 11) x1))) σ)) : mj_B mjc_L mjc_Ms (d + 2) 65 [.inr (.inl 5), .inl x1, .inl x2] σ Q := by
  refine mj_B_of (M := mjcM65) (ls := [some (.inr (.inl 5)), some (.inl x1), some (.inl x2)]) rfl (mj_c1_all rfl) (Nat.le_of_ble_eq_true rfl) rfl ?_
  refine mr_iload (pc' := 1) rfl rfl rfl ?_
  refine mr_if_eq (pc' := 4) rfl rfl (fun c => ?_) (fun c => ?_)
  · replace h := h.1 c
    refine mr_iload (pc' := 16) rfl rfl rfl ?_
    exact mr_iret rfl rfl trivial h
  · replace h := h.2 c
    refine mr_aload (pc' := 5) rfl rfl rfl ?_
    refine mr_getr (ci := 0) (pc' := 8) rfl rfl rfl rfl ?_
    refine mr_iload (pc' := 9) rfl rfl rfl ?_
    obtain ⟨h0, h⟩ := h
    refine mr_call (t := [(2, 0)]) (pc' := 12) rfl [.inr (.inl 2), .inl x1] rfl rfl rfl (mj_recvV rfl) (Nat.le_of_ble_eq_true rfl) (s_c20 h0 ?_)
    refine mr_goto rfl ?_
    exact mr_iret rfl rfl trivial h
theorem s_c65 {d : Nat} {σ : mj_S} {Q : mj_Q} {x1 x2 : Int} (p0 : z_dr x1) (h : Q (some (.inl (z_ni σ x1 x2))) σ) : mj_B mjc_L mjc_Ms (d + 2) 65 [.inr (.inl 5), .inl x1, .inl x2] σ Q := by
  refine wq_c65 ?_
  simp only [z_ni] at *
  repeat' (first | apply And.intro | intro _)
  all_goals first | exact h | omega | (unfold mj_r at *; omega) | trivial | exact bo_fit | assumption | ((try subst_vars); (try simp only [z_rd] at *); (repeat' split at h) <;> first | exact h | (exfalso; omega) | (simp_all; done) | (simp_all; omega))
set_option maxRecDepth 20000 in
/-- ListSpeaker$Maker.mayBeVariable_ -/
theorem wq_c66 {d : Nat} {σ : mj_S} {Q : mj_Q} {x1 : Int} (h : (¬ (268435456 ≤ x1 ∧ x1 < 536870912) → Q (some (.inl 0)) σ) ∧ (268435456 ≤ x1 ∧ x1 < 536870912 → (x1 = 268435456 → Q (some (.inl 0)) σ) ∧ (¬ x1 = 268435456 → (x1 = 268435457 → Q (some (.inl 0)) σ) ∧ (¬ x1 = 268435457 → (x1 = 268435458 → Q (some (.inl 0)) σ) ∧ (¬ x1 = 268435458 → (x1 = 268435465 → Q (some (.inl 0)) σ) ∧ (¬ x1 = 268435465 → Q (some (.inl 1)) σ)))))) : mj_B mjc_L mjc_Ms (d + 2) 66 [.inl x1] σ Q := by
  refine mj_B_of (M := mjcM66) (ls := [some (.inl x1)]) rfl (mj_c1_all rfl) (Nat.le_of_ble_eq_true rfl) rfl ?_
  refine mr_iload (pc' := 1) rfl rfl rfl ?_
  refine mr_call (t := []) (pc' := 4) rfl [.inl x1] rfl rfl rfl trivial (Nat.le_of_ble_eq_true rfl) (s_c8  ?_)
  refine mr_if_eq (pc' := 7) rfl rfl (fun c => ?_) (fun c => ?_)
  · replace h := h.1 (bo_0 c)
    refine mr_const (pc' := 36) rfl rfl (by unfold mj_r; decide) ?_
    exact mr_iret rfl rfl (by simp [mj_fit]) h
  · replace h := h.2 (bo_1 c)
    refine mr_iload (pc' := 8) rfl rfl rfl ?_
    refine mr_const (pc' := 10) rfl rfl (by unfold mj_r; decide) ?_
    refine mr_ic_eq (pc' := 13) rfl rfl (fun c => ?_) (fun c => ?_)
    · replace h := h.1 c
      refine mr_const (pc' := 36) rfl rfl (by unfold mj_r; decide) ?_
      exact mr_iret rfl rfl (by simp [mj_fit]) h
    · replace h := h.2 c
      refine mr_iload (pc' := 14) rfl rfl rfl ?_
      refine mr_const (pc' := 16) rfl rfl (by unfold mj_r; decide) ?_
      refine mr_ic_eq (pc' := 19) rfl rfl (fun c => ?_) (fun c => ?_)
      · replace h := h.1 c
        refine mr_const (pc' := 36) rfl rfl (by unfold mj_r; decide) ?_
        exact mr_iret rfl rfl (by simp [mj_fit]) h
      · replace h := h.2 c
        refine mr_iload (pc' := 20) rfl rfl rfl ?_
        refine mr_const (pc' := 22) rfl rfl (by unfold mj_r; decide) ?_
        refine mr_ic_eq (pc' := 25) rfl rfl (fun c => ?_) (fun c => ?_)
        · replace h := h.1 c
          refine mr_const (pc' := 36) rfl rfl (by unfold mj_r; decide) ?_
          exact mr_iret rfl rfl (by simp [mj_fit]) h
        · replace h := h.2 c
          refine mr_iload (pc' := 26) rfl rfl rfl ?_
          refine mr_const (pc' := 28) rfl rfl (by unfold mj_r; decide) ?_
          refine mr_ic_eq (pc' := 31) rfl rfl (fun c => ?_) (fun c => ?_)
          · replace h := h.1 c
            refine mr_const (pc' := 36) rfl rfl (by unfold mj_r; decide) ?_
            exact mr_iret rfl rfl (by simp [mj_fit]) h
          · replace h := h.2 c
            refine mr_const (pc' := 32) rfl rfl (by unfold mj_r; decide) ?_
            refine mr_goto rfl ?_
            exact mr_iret rfl rfl (by simp [mj_fit]) h
theorem s_c66 {d : Nat} {σ : mj_S} {Q : mj_Q} {x1 : Int}  (h : Q (some (.inl (if z_va x1 then 1 else 0))) σ) : mj_B mjc_L mjc_Ms (d + 2) 66 [.inl x1] σ Q := by
  refine wq_c66 ?_
  simp only [z_va] at *
  repeat' (first | apply And.intro | intro _)
  all_goals first | exact h | omega | (unfold mj_r at *; omega) | trivial | exact bo_fit | assumption | ((try subst_vars); (try simp only [z_rd] at *); (repeat' split at h) <;> first | exact h | (exfalso; omega) | (simp_all; done) | (simp_all; omega))
set_option maxRecDepth 20000 in
/-- ListSpeaker$Machine.value_ -/
theorem wq_c88 {d : Nat} {σ : mj_S} {Q : mj_Q} (h : mj_r (σ 7 7 - 1) ∧ mj_r (σ 7 7 - 1 - 0) ∧ Q (some (.inl (z_bl σ 0))) σ) : mj_B mjc_L mjc_Ms (d + 2) 88 [.inr (.inl 7)] σ Q := by
  refine mj_B_of (M := mjcM88) (ls := [some (.inr (.inl 7))]) rfl (mj_c1_all rfl) (Nat.le_of_ble_eq_true rfl) rfl ?_
  refine mr_aload (pc' := 1) rfl rfl rfl ?_
  refine mr_const (pc' := 2) rfl rfl (by unfold mj_r; decide) ?_
  obtain ⟨h0, h1, h⟩ := h
  refine mr_call (t := [(7, 0)]) (pc' := 5) rfl [.inr (.inl 7), .inl 0] rfl rfl rfl (mj_recvV rfl) (Nat.le_of_ble_eq_true rfl) (s_c94 h0 h1 ?_)
  exact mr_iret rfl rfl trivial h
theorem s_c88 {d : Nat} {σ : mj_S} {Q : mj_Q} (p0 : mj_r (σ 7 7 - 1)) (h : Q (some (.inl (z_bl σ 0))) σ) : mj_B mjc_L mjc_Ms (d + 2) 88 [.inr (.inl 7)] σ Q := by
  refine wq_c88 ?_
  repeat' (first | apply And.intro | intro _)
  all_goals first | exact h | omega | (unfold mj_r at *; omega) | trivial | exact bo_fit | assumption | ((try subst_vars); (try simp only [z_rd] at *); (repeat' split at h) <;> first | exact h | (exfalso; omega) | (simp_all; done) | (simp_all; omega))
set_option maxRecDepth 20000 in
/-- ListSpeaker$Machine.asNumber_ -/
theorem wq_c104 {d : Nat} {σ : mj_S} {Q : mj_Q} {x1 : Int} (h : (¬ (0 ≤ x1 ∧ x1 ≤ 268435455) → Q (some (.inl 0)) σ) ∧ (0 ≤ x1 ∧ x1 ≤ 268435455 → Q (some (.inl x1)) σ)) : mj_B mjc_L mjc_Ms (d + 2) 104 [.inl x1] σ Q := by
  refine mj_B_of (M := mjcM104) (ls := [some (.inl x1)]) rfl (mj_c1_all rfl) (Nat.le_of_ble_eq_true rfl) rfl ?_
  refine mr_iload (pc' := 1) rfl rfl rfl ?_
  refine mr_call (t := []) (pc' := 4) rfl [.inl x1] rfl rfl rfl trivial (Nat.le_of_ble_eq_true rfl) (s_c7  ?_)
  refine mr_if_eq (pc' := 7) rfl rfl (fun c => ?_) (fun c => ?_)
  · replace h := h.1 (bo_0 c)
    refine mr_const (pc' := 12) rfl rfl (by unfold mj_r; decide) ?_
    exact mr_iret rfl rfl trivial h
  · replace h := h.2 (bo_1 c)
    refine mr_iload (pc' := 8) rfl rfl rfl ?_
    refine mr_goto rfl ?_
    exact mr_iret rfl rfl trivial h
theorem s_c104 {d : Nat} {σ : mj_S} {Q : mj_Q} {x1 : Int}  (h : Q (some (.inl (z_nu x1))) σ) : mj_B mjc_L mjc_Ms (d + 2) 104 [.inl x1] σ Q := by
  refine wq_c104 ?_
  simp only [z_nu] at *
  repeat' (first | apply And.intro | intro _)
  all_goals first | exact h | omega | (unfold mj_r at *; omega) | trivial | exact bo_fit | assumption | ((try subst_vars); (try simp only [z_rd] at *); (repeat' split at h) <;> first | exact h | (exfalso; omega) | (simp_all; done) | (simp_all; omega))
set_option maxRecDepth 20000 in
/-- ListSpeakerModel.stop_ -/
theorem wq_m2 {d : Nat} {σ : mj_S} {Q : mj_Q} {x1 : Int} (h : (¬ (σ 0 5) = 0 → Q (some (.inl 268435456)) σ) ∧ ((σ 0 5) = 0 → ∀ σ1, σ1 = mj_up σ 0 5 x1 → Q (some (.inl 268435456)) σ1)) : mj_B mjm_L mjm_Ms (d + 1) 2 [.inr (.inl 0), .inl x1] σ Q := by
  refine mj_B_of (M := mjmM2) (ls := [some (.inr (.inl 0)), some (.inl x1)]) rfl (mj_c1_all rfl) (Nat.le_of_ble_eq_true rfl) rfl ?_
  refine mr_aload (pc' := 1) rfl rfl rfl ?_
  refine mr_get (ci := 0) (pc' := 4) rfl rfl rfl rfl ?_
  refine mr_if_ne (pc' := 7) rfl rfl (fun c => ?_) (fun c => ?_)
  · replace h := h.1 c
    refine mr_const (pc' := 14) rfl rfl (by unfold mj_r; decide) ?_
    exact mr_iret rfl rfl trivial h
  · replace h := h.2 c
    refine mr_aload (pc' := 8) rfl rfl rfl ?_
    refine mr_iload (pc' := 9) rfl rfl rfl ?_
    refine mr_put (pc' := 12) rfl rfl rfl rfl (fun σ1 e9 => ?_)
    replace h := h σ1 e9
    refine mr_const (pc' := 14) rfl rfl (by unfold mj_r; decide) ?_
    exact mr_iret rfl rfl trivial h
theorem s_m2 {d : Nat} {σ : mj_S} {Q : mj_Q} {x1 : Int}  (h : ∀ σ', σ' = z_sp σ x1 → Q (some (.inl 268435456)) σ') : mj_B mjm_L mjm_Ms (d + 1) 2 [.inr (.inl 0), .inl x1] σ Q := by
  refine wq_m2 ?_
  replace h := h _ rfl
  simp only [z_sp] at *
  repeat' (first | apply And.intro | intro _)
  all_goals first | exact h | omega | (unfold mj_r at *; omega) | trivial | exact bo_fit | assumption | ((try subst_vars); (try simp only [z_rd] at *); (repeat' split at h) <;> first | exact h | (exfalso; omega) | (simp_all; done) | (simp_all; omega))
set_option maxRecDepth 20000 in
/-- ListSpeakerModel.isPair_ -/
theorem wq_m3 {d : Nat} {σ : mj_S} {Q : mj_Q} {x1 : Int} (h : (x1 < 536870912 → Q (some (.inl 0)) σ) ∧ (536870912 ≤ x1 → Q (some (.inl 1)) σ)) : mj_B mjm_L mjm_Ms (d + 1) 3 [.inl x1] σ Q := by
  refine mj_B_of (M := mjmM3) (ls := [some (.inl x1)]) rfl (mj_c1_all rfl) (Nat.le_of_ble_eq_true rfl) rfl ?_
  refine mr_iload (pc' := 1) rfl rfl rfl ?_
  refine mr_const (pc' := 3) rfl rfl (by unfold mj_r; decide) ?_
  refine mr_ic_lt (pc' := 6) rfl rfl (fun c => ?_) (fun c => ?_)
  · replace h := h.1 c
    refine mr_const (pc' := 11) rfl rfl (by unfold mj_r; decide) ?_
    exact mr_iret rfl rfl (by simp [mj_fit]) h
  · replace h := h.2 c
    refine mr_const (pc' := 7) rfl rfl (by unfold mj_r; decide) ?_
    refine mr_goto rfl ?_
    exact mr_iret rfl rfl (by simp [mj_fit]) h
theorem s_m3 {d : Nat} {σ : mj_S} {Q : mj_Q} {x1 : Int}  (h : Q (some (.inl (if 536870912 ≤ x1 then 1 else 0))) σ) : mj_B mjm_L mjm_Ms (d + 1) 3 [.inl x1] σ Q := by
  refine wq_m3 ?_
  repeat' (first | apply And.intro | intro _)
  all_goals first | exact h | omega | (unfold mj_r at *; omega) | trivial | exact bo_fit | assumption | ((try subst_vars); (try simp only [z_rd] at *); (repeat' split at h) <;> first | exact h | (exfalso; omega) | (simp_all; done) | (simp_all; omega))
set_option maxRecDepth 20000 in
/-- ListSpeakerModel.isSymbol_ -/
theorem wq_m4 {d : Nat} {σ : mj_S} {Q : mj_Q} {x1 : Int} (h : (x1 < 268435456 → Q (some (.inl 0)) σ) ∧ (268435456 ≤ x1 → (536870912 ≤ x1 → Q (some (.inl 0)) σ) ∧ (x1 < 536870912 → Q (some (.inl 1)) σ))) : mj_B mjm_L mjm_Ms (d + 1) 4 [.inl x1] σ Q := by
  refine mj_B_of (M := mjmM4) (ls := [some (.inl x1)]) rfl (mj_c1_all rfl) (Nat.le_of_ble_eq_true rfl) rfl ?_
  refine mr_iload (pc' := 1) rfl rfl rfl ?_
  refine mr_const (pc' := 3) rfl rfl (by unfold mj_r; decide) ?_
  refine mr_ic_lt (pc' := 6) rfl rfl (fun c => ?_) (fun c => ?_)
  · replace h := h.1 c
    refine mr_const (pc' := 17) rfl rfl (by unfold mj_r; decide) ?_
    exact mr_iret rfl rfl (by simp [mj_fit]) h
  · replace h := h.2 c
    refine mr_iload (pc' := 7) rfl rfl rfl ?_
    refine mr_const (pc' := 9) rfl rfl (by unfold mj_r; decide) ?_
    refine mr_ic_ge (pc' := 12) rfl rfl (fun c => ?_) (fun c => ?_)
    · replace h := h.1 c
      refine mr_const (pc' := 17) rfl rfl (by unfold mj_r; decide) ?_
      exact mr_iret rfl rfl (by simp [mj_fit]) h
    · replace h := h.2 c
      refine mr_const (pc' := 13) rfl rfl (by unfold mj_r; decide) ?_
      refine mr_goto rfl ?_
      exact mr_iret rfl rfl (by simp [mj_fit]) h
theorem s_m4 {d : Nat} {σ : mj_S} {Q : mj_Q} {x1 : Int}  (h : Q (some (.inl (if 268435456 ≤ x1 ∧ x1 < 536870912 then 1 else 0))) σ) : mj_B mjm_L mjm_Ms (d + 1) 4 [.inl x1] σ Q := by
  refine wq_m4 ?_
  repeat' (first | apply And.intro | intro _)
  all_goals first | exact h | omega | (unfold mj_r at *; omega) | trivial | exact bo_fit | assumption | ((try subst_vars); (try simp only [z_rd] at *); (repeat' split at h) <;> first | exact h | (exfalso; omega) | (simp_all; done) | (simp_all; omega))
set_option maxRecDepth 20000 in
/-- ListSpeakerModel.first_ -/
theorem wq_m5 {d : Nat} {σ : mj_S} {Q : mj_Q} {x1 : Int} (h : mj_r (x1 - 536870912) ∧ 0 ≤ (x1 - 536870912) ∧ (x1 - 536870912) < 600 ∧ Q (some (.inl (σ 4 (x1 - 536870912).toNat))) σ) : mj_B mjm_L mjm_Ms (d + 1) 5 [.inr (.inl 0), .inl x1] σ Q := by
  refine mj_B_of (M := mjmM5) (ls := [some (.inr (.inl 0)), some (.inl x1)]) rfl (mj_c1_all rfl) (Nat.le_of_ble_eq_true rfl) rfl ?_
  refine mr_aload (pc' := 1) rfl rfl rfl ?_
  refine mr_getr (ci := 0) (pc' := 4) rfl rfl rfl rfl ?_
  refine mr_iload (pc' := 5) rfl rfl rfl ?_
  refine mr_const (pc' := 7) rfl rfl (by unfold mj_r; decide) ?_
  obtain ⟨h0, h⟩ := h
  refine mr_isub (pc' := 8) rfl rfl h0 ?_
  obtain ⟨h0, h1, h⟩ := h
  refine mr_iald (pc' := 9) rfl rfl rfl h0 h1 ?_
  exact mr_iret rfl rfl trivial h
theorem s_m5 {d : Nat} {σ : mj_S} {Q : mj_Q} {x1 : Int} (p0 : z_pr x1) (h : Q (some (.inl (z_cd (σ 4) x1))) σ) : mj_B mjm_L mjm_Ms (d + 1) 5 [.inr (.inl 0), .inl x1] σ Q := by
  refine wq_m5 ?_
  simp only [z_cd, z_pr] at *
  repeat' (first | apply And.intro | intro _)
  all_goals first | exact h | omega | (unfold mj_r at *; omega) | trivial | exact bo_fit | assumption | ((try subst_vars); (try simp only [z_rd] at *); (repeat' split at h) <;> first | exact h | (exfalso; omega) | (simp_all; done) | (simp_all; omega))
set_option maxRecDepth 20000 in
/-- ListSpeakerModel.rest_ -/
theorem wq_m6 {d : Nat} {σ : mj_S} {Q : mj_Q} {x1 : Int} (h : mj_r (x1 - 536870912) ∧ 0 ≤ (x1 - 536870912) ∧ (x1 - 536870912) < 600 ∧ Q (some (.inl (σ 5 (x1 - 536870912).toNat))) σ) : mj_B mjm_L mjm_Ms (d + 1) 6 [.inr (.inl 0), .inl x1] σ Q := by
  refine mj_B_of (M := mjmM6) (ls := [some (.inr (.inl 0)), some (.inl x1)]) rfl (mj_c1_all rfl) (Nat.le_of_ble_eq_true rfl) rfl ?_
  refine mr_aload (pc' := 1) rfl rfl rfl ?_
  refine mr_getr (ci := 0) (pc' := 4) rfl rfl rfl rfl ?_
  refine mr_iload (pc' := 5) rfl rfl rfl ?_
  refine mr_const (pc' := 7) rfl rfl (by unfold mj_r; decide) ?_
  obtain ⟨h0, h⟩ := h
  refine mr_isub (pc' := 8) rfl rfl h0 ?_
  obtain ⟨h0, h1, h⟩ := h
  refine mr_iald (pc' := 9) rfl rfl rfl h0 h1 ?_
  exact mr_iret rfl rfl trivial h
theorem s_m6 {d : Nat} {σ : mj_S} {Q : mj_Q} {x1 : Int} (p0 : z_pr x1) (h : Q (some (.inl (z_cd (σ 5) x1))) σ) : mj_B mjm_L mjm_Ms (d + 1) 6 [.inr (.inl 0), .inl x1] σ Q := by
  refine wq_m6 ?_
  simp only [z_cd, z_pr] at *
  repeat' (first | apply And.intro | intro _)
  all_goals first | exact h | omega | (unfold mj_r at *; omega) | trivial | exact bo_fit | assumption | ((try subst_vars); (try simp only [z_rd] at *); (repeat' split at h) <;> first | exact h | (exfalso; omega) | (simp_all; done) | (simp_all; omega))
set_option maxRecDepth 20000 in
/-- ListSpeakerModel.look_ -/
theorem wq_m11 {d : Nat} {σ : mj_S} {Q : mj_Q} (h : ((σ 0 2) ≤ (σ 0 4) → Q (some (.inl (-1))) σ) ∧ ((σ 0 4) < (σ 0 2) → 0 ≤ (σ 0 4) ∧ (σ 0 4) < 300 ∧ Q (some (.inl (σ 1 (σ 0 4).toNat))) σ)) : mj_B mjm_L mjm_Ms (d + 1) 11 [.inr (.inl 0)] σ Q := by
  refine mj_B_of (M := mjmM11) (ls := [some (.inr (.inl 0))]) rfl (mj_c1_all rfl) (Nat.le_of_ble_eq_true rfl) rfl ?_
  refine mr_aload (pc' := 1) rfl rfl rfl ?_
  refine mr_get (ci := 0) (pc' := 4) rfl rfl rfl rfl ?_
  refine mr_aload (pc' := 5) rfl rfl rfl ?_
  refine mr_get (ci := 0) (pc' := 8) rfl rfl rfl rfl ?_
  refine mr_ic_ge (pc' := 11) rfl rfl (fun c => ?_) (fun c => ?_)
  · replace h := h.1 c
    refine mr_const (pc' := 24) rfl rfl (by unfold mj_r; decide) ?_
    exact mr_iret rfl rfl trivial h
  · replace h := h.2 c
    refine mr_aload (pc' := 12) rfl rfl rfl ?_
    refine mr_getr (ci := 0) (pc' := 15) rfl rfl rfl rfl ?_
    refine mr_aload (pc' := 16) rfl rfl rfl ?_
    refine mr_get (ci := 0) (pc' := 19) rfl rfl rfl rfl ?_
    obtain ⟨h0, h1, h⟩ := h
    refine mr_cald (pc' := 20) rfl rfl rfl h0 h1 ?_
    refine mr_goto rfl ?_
    exact mr_iret rfl rfl trivial h
theorem s_m11 {d : Nat} {σ : mj_S} {Q : mj_Q} (p0 : 0 ≤ σ 0 4) (p1 : σ 0 2 ≤ 300) (h : Q (some (.inl (z_lk σ))) σ) : mj_B mjm_L mjm_Ms (d + 1) 11 [.inr (.inl 0)] σ Q := by
  refine wq_m11 ?_
  simp only [z_lk] at *
  repeat' (first | apply And.intro | intro _)
  all_goals first | exact h | omega | (unfold mj_r at *; omega) | trivial | exact bo_fit | assumption | ((try subst_vars); (try simp only [z_rd] at *); (repeat' split at h) <;> first | exact h | (exfalso; omega) | (simp_all; done) | (simp_all; omega))
set_option maxRecDepth 20000 in
/-- ListSpeakerModel.isRow_ -/
theorem wq_m13 {d : Nat} {σ : mj_S} {Q : mj_Q} {x1 : Int} (h : (x1 < 0 → Q (some (.inl 0)) σ) ∧ (0 ≤ x1 → (x1 = 32 → Q (some (.inl 0)) σ) ∧ (¬ x1 = 32 → (x1 = 10 → Q (some (.inl 0)) σ) ∧ (¬ x1 = 10 → (x1 = 59 → Q (some (.inl 0)) σ) ∧ (¬ x1 = 59 → (x1 = 40 → Q (some (.inl 0)) σ) ∧ (¬ x1 = 40 → (x1 = 41 → Q (some (.inl 0)) σ) ∧ (¬ x1 = 41 → (x1 = 39 → Q (some (.inl 0)) σ) ∧ (¬ x1 = 39 → Q (some (.inl 1)) σ)))))))) : mj_B mjm_L mjm_Ms (d + 1) 13 [.inr (.inl 0), .inl x1] σ Q := by
  refine mj_B_of (M := mjmM13) (ls := [some (.inr (.inl 0)), some (.inl x1)]) rfl (mj_c1_all rfl) (Nat.le_of_ble_eq_true rfl) rfl ?_
  refine mr_iload (pc' := 1) rfl rfl rfl ?_
  refine mr_if_lt (pc' := 4) rfl rfl (fun c => ?_) (fun c => ?_)
  · replace h := h.1 c
    refine mr_const (pc' := 45) rfl rfl (by unfold mj_r; decide) ?_
    exact mr_iret rfl rfl (by simp [mj_fit]) h
  · replace h := h.2 c
    refine mr_iload (pc' := 5) rfl rfl rfl ?_
    refine mr_const (pc' := 7) rfl rfl (by unfold mj_r; decide) ?_
    refine mr_ic_eq (pc' := 10) rfl rfl (fun c => ?_) (fun c => ?_)
    · replace h := h.1 c
      refine mr_const (pc' := 45) rfl rfl (by unfold mj_r; decide) ?_
      exact mr_iret rfl rfl (by simp [mj_fit]) h
    · replace h := h.2 c
      refine mr_iload (pc' := 11) rfl rfl rfl ?_
      refine mr_const (pc' := 13) rfl rfl (by unfold mj_r; decide) ?_
      refine mr_ic_eq (pc' := 16) rfl rfl (fun c => ?_) (fun c => ?_)
      · replace h := h.1 c
        refine mr_const (pc' := 45) rfl rfl (by unfold mj_r; decide) ?_
        exact mr_iret rfl rfl (by simp [mj_fit]) h
      · replace h := h.2 c
        refine mr_iload (pc' := 17) rfl rfl rfl ?_
        refine mr_const (pc' := 19) rfl rfl (by unfold mj_r; decide) ?_
        refine mr_ic_eq (pc' := 22) rfl rfl (fun c => ?_) (fun c => ?_)
        · replace h := h.1 c
          refine mr_const (pc' := 45) rfl rfl (by unfold mj_r; decide) ?_
          exact mr_iret rfl rfl (by simp [mj_fit]) h
        · replace h := h.2 c
          refine mr_iload (pc' := 23) rfl rfl rfl ?_
          refine mr_const (pc' := 25) rfl rfl (by unfold mj_r; decide) ?_
          refine mr_ic_eq (pc' := 28) rfl rfl (fun c => ?_) (fun c => ?_)
          · replace h := h.1 c
            refine mr_const (pc' := 45) rfl rfl (by unfold mj_r; decide) ?_
            exact mr_iret rfl rfl (by simp [mj_fit]) h
          · replace h := h.2 c
            refine mr_iload (pc' := 29) rfl rfl rfl ?_
            refine mr_const (pc' := 31) rfl rfl (by unfold mj_r; decide) ?_
            refine mr_ic_eq (pc' := 34) rfl rfl (fun c => ?_) (fun c => ?_)
            · replace h := h.1 c
              refine mr_const (pc' := 45) rfl rfl (by unfold mj_r; decide) ?_
              exact mr_iret rfl rfl (by simp [mj_fit]) h
            · replace h := h.2 c
              refine mr_iload (pc' := 35) rfl rfl rfl ?_
              refine mr_const (pc' := 37) rfl rfl (by unfold mj_r; decide) ?_
              refine mr_ic_eq (pc' := 40) rfl rfl (fun c => ?_) (fun c => ?_)
              · replace h := h.1 c
                refine mr_const (pc' := 45) rfl rfl (by unfold mj_r; decide) ?_
                exact mr_iret rfl rfl (by simp [mj_fit]) h
              · replace h := h.2 c
                refine mr_const (pc' := 41) rfl rfl (by unfold mj_r; decide) ?_
                refine mr_goto rfl ?_
                exact mr_iret rfl rfl (by simp [mj_fit]) h
theorem s_m13 {d : Nat} {σ : mj_S} {Q : mj_Q} {x1 : Int}  (h : Q (some (.inl (if 0 ≤ x1 ∧ ¬ z_er x1 then 1 else 0))) σ) : mj_B mjm_L mjm_Ms (d + 1) 13 [.inr (.inl 0), .inl x1] σ Q := by
  refine wq_m13 ?_
  simp only [z_er] at *
  repeat' (first | apply And.intro | intro _)
  all_goals first | exact h | omega | (unfold mj_r at *; omega) | trivial | exact bo_fit | assumption | ((try subst_vars); (try simp only [z_rd] at *); (repeat' split at h) <;> first | exact h | (exfalso; omega) | (simp_all; done) | (simp_all; omega))
set_option maxRecDepth 20000 in
/-- ListSpeakerModel.isDigit_ -/
theorem wq_m14 {d : Nat} {σ : mj_S} {Q : mj_Q} {x1 : Int} (h : (x1 < 48 → Q (some (.inl 0)) σ) ∧ (48 ≤ x1 → (57 < x1 → Q (some (.inl 0)) σ) ∧ (x1 ≤ 57 → Q (some (.inl 1)) σ))) : mj_B mjm_L mjm_Ms (d + 1) 14 [.inl x1] σ Q := by
  refine mj_B_of (M := mjmM14) (ls := [some (.inl x1)]) rfl (mj_c1_all rfl) (Nat.le_of_ble_eq_true rfl) rfl ?_
  refine mr_iload (pc' := 1) rfl rfl rfl ?_
  refine mr_const (pc' := 3) rfl rfl (by unfold mj_r; decide) ?_
  refine mr_ic_lt (pc' := 6) rfl rfl (fun c => ?_) (fun c => ?_)
  · replace h := h.1 c
    refine mr_const (pc' := 17) rfl rfl (by unfold mj_r; decide) ?_
    exact mr_iret rfl rfl (by simp [mj_fit]) h
  · replace h := h.2 c
    refine mr_iload (pc' := 7) rfl rfl rfl ?_
    refine mr_const (pc' := 9) rfl rfl (by unfold mj_r; decide) ?_
    refine mr_ic_gt (pc' := 12) rfl rfl (fun c => ?_) (fun c => ?_)
    · replace h := h.1 c
      refine mr_const (pc' := 17) rfl rfl (by unfold mj_r; decide) ?_
      exact mr_iret rfl rfl (by simp [mj_fit]) h
    · replace h := h.2 c
      refine mr_const (pc' := 13) rfl rfl (by unfold mj_r; decide) ?_
      refine mr_goto rfl ?_
      exact mr_iret rfl rfl (by simp [mj_fit]) h
theorem s_m14 {d : Nat} {σ : mj_S} {Q : mj_Q} {x1 : Int}  (h : Q (some (.inl (if z_dg x1 then 1 else 0))) σ) : mj_B mjm_L mjm_Ms (d + 1) 14 [.inl x1] σ Q := by
  refine wq_m14 ?_
  simp only [z_dg] at *
  repeat' (first | apply And.intro | intro _)
  all_goals first | exact h | omega | (unfold mj_r at *; omega) | trivial | exact bo_fit | assumption | ((try subst_vars); (try simp only [z_rd] at *); (repeat' split at h) <;> first | exact h | (exfalso; omega) | (simp_all; done) | (simp_all; omega))
set_option maxRecDepth 20000 in
/-- ListSpeakerModel.isLetter_ -/
theorem wq_m15 {d : Nat} {σ : mj_S} {Q : mj_Q} {x1 : Int} (h : (x1 < 97 → (x1 = 43 → Q (some (.inl 1)) σ) ∧ (¬ x1 = 43 → (x1 = 45 → Q (some (.inl 1)) σ) ∧ (¬ x1 = 45 → (x1 = 42 → Q (some (.inl 1)) σ) ∧ (¬ x1 = 42 → (x1 = 60 → Q (some (.inl 1)) σ) ∧ (¬ x1 = 60 → (x1 = 61 → Q (some (.inl 1)) σ) ∧ (¬ x1 = 61 → (¬ x1 = 63 → Q (some (.inl 0)) σ) ∧ (x1 = 63 → Q (some (.inl 1)) σ))))))) ∧ (97 ≤ x1 → (x1 ≤ 122 → Q (some (.inl 1)) σ) ∧ (122 < x1 → (x1 = 43 → Q (some (.inl 1)) σ) ∧ (¬ x1 = 43 → (x1 = 45 → Q (some (.inl 1)) σ) ∧ (¬ x1 = 45 → (x1 = 42 → Q (some (.inl 1)) σ) ∧ (¬ x1 = 42 → (x1 = 60 → Q (some (.inl 1)) σ) ∧ (¬ x1 = 60 → (x1 = 61 → Q (some (.inl 1)) σ) ∧ (¬ x1 = 61 → (¬ x1 = 63 → Q (some (.inl 0)) σ) ∧ (x1 = 63 → Q (some (.inl 1)) σ))))))))) : mj_B mjm_L mjm_Ms (d + 1) 15 [.inl x1] σ Q := by
  refine mj_B_of (M := mjmM15) (ls := [some (.inl x1)]) rfl (mj_c1_all rfl) (Nat.le_of_ble_eq_true rfl) rfl ?_
  refine mr_iload (pc' := 1) rfl rfl rfl ?_
  refine mr_const (pc' := 3) rfl rfl (by unfold mj_r; decide) ?_
  refine mr_ic_lt (pc' := 6) rfl rfl (fun c => ?_) (fun c => ?_)
  · replace h := h.1 c
    refine mr_iload (pc' := 13) rfl rfl rfl ?_
    refine mr_const (pc' := 15) rfl rfl (by unfold mj_r; decide) ?_
    refine mr_ic_eq (pc' := 18) rfl rfl (fun c => ?_) (fun c => ?_)
    · replace h := h.1 c
      refine mr_const (pc' := 49) rfl rfl (by unfold mj_r; decide) ?_
      refine mr_goto rfl ?_
      exact mr_iret rfl rfl (by simp [mj_fit]) h
    · replace h := h.2 c
      refine mr_iload (pc' := 19) rfl rfl rfl ?_
      refine mr_const (pc' := 21) rfl rfl (by unfold mj_r; decide) ?_
      refine mr_ic_eq (pc' := 24) rfl rfl (fun c => ?_) (fun c => ?_)
      · replace h := h.1 c
        refine mr_const (pc' := 49) rfl rfl (by unfold mj_r; decide) ?_
        refine mr_goto rfl ?_
        exact mr_iret rfl rfl (by simp [mj_fit]) h
      · replace h := h.2 c
        refine mr_iload (pc' := 25) rfl rfl rfl ?_
        refine mr_const (pc' := 27) rfl rfl (by unfold mj_r; decide) ?_
        refine mr_ic_eq (pc' := 30) rfl rfl (fun c => ?_) (fun c => ?_)
        · replace h := h.1 c
          refine mr_const (pc' := 49) rfl rfl (by unfold mj_r; decide) ?_
          refine mr_goto rfl ?_
          exact mr_iret rfl rfl (by simp [mj_fit]) h
        · replace h := h.2 c
          refine mr_iload (pc' := 31) rfl rfl rfl ?_
          refine mr_const (pc' := 33) rfl rfl (by unfold mj_r; decide) ?_
          refine mr_ic_eq (pc' := 36) rfl rfl (fun c => ?_) (fun c => ?_)
          · replace h := h.1 c
            refine mr_const (pc' := 49) rfl rfl (by unfold mj_r; decide) ?_
            refine mr_goto rfl ?_
            exact mr_iret rfl rfl (by simp [mj_fit]) h
          · replace h := h.2 c
            refine mr_iload (pc' := 37) rfl rfl rfl ?_
            refine mr_const (pc' := 39) rfl rfl (by unfold mj_r; decide) ?_
            refine mr_ic_eq (pc' := 42) rfl rfl (fun c => ?_) (fun c => ?_)
            · replace h := h.1 c
              refine mr_const (pc' := 49) rfl rfl (by unfold mj_r; decide) ?_
              refine mr_goto rfl ?_
              exact mr_iret rfl rfl (by simp [mj_fit]) h
            · replace h := h.2 c
              refine mr_iload (pc' := 43) rfl rfl rfl ?_
              refine mr_const (pc' := 45) rfl rfl (by unfold mj_r; decide) ?_
              refine mr_ic_ne (pc' := 48) rfl rfl (fun c => ?_) (fun c => ?_)
              · replace h := h.1 c
                refine mr_const (pc' := 53) rfl rfl (by unfold mj_r; decide) ?_
                exact mr_iret rfl rfl (by simp [mj_fit]) h
              · replace h := h.2 c
                refine mr_const (pc' := 49) rfl rfl (by unfold mj_r; decide) ?_
                refine mr_goto rfl ?_
                exact mr_iret rfl rfl (by simp [mj_fit]) h
  · replace h := h.2 c
    refine mr_iload (pc' := 7) rfl rfl rfl ?_
    refine mr_const (pc' := 9) rfl rfl (by unfold mj_r; decide) ?_
    refine mr_ic_le (pc' := 12) rfl rfl (fun c => ?_) (fun c => ?_)
    · replace h := h.1 c
      refine mr_const (pc' := 49) rfl rfl (by unfold mj_r; decide) ?_
      refine mr_goto rfl ?_
      exact mr_iret rfl rfl (by simp [mj_fit]) h
    · replace h := h.2 c
      refine mr_iload (pc' := 13) rfl rfl rfl ?_
      refine mr_const (pc' := 15) rfl rfl (by unfold mj_r; decide) ?_
      refine mr_ic_eq (pc' := 18) rfl rfl (fun c => ?_) (fun c => ?_)
      · replace h := h.1 c
        refine mr_const (pc' := 49) rfl rfl (by unfold mj_r; decide) ?_
        refine mr_goto rfl ?_
        exact mr_iret rfl rfl (by simp [mj_fit]) h
      · replace h := h.2 c
        refine mr_iload (pc' := 19) rfl rfl rfl ?_
        refine mr_const (pc' := 21) rfl rfl (by unfold mj_r; decide) ?_
        refine mr_ic_eq (pc' := 24) rfl rfl (fun c => ?_) (fun c => ?_)
        · replace h := h.1 c
          refine mr_const (pc' := 49) rfl rfl (by unfold mj_r; decide) ?_
          refine mr_goto rfl ?_
          exact mr_iret rfl rfl (by simp [mj_fit]) h
        · replace h := h.2 c
          refine mr_iload (pc' := 25) rfl rfl rfl ?_
          refine mr_const (pc' := 27) rfl rfl (by unfold mj_r; decide) ?_
          refine mr_ic_eq (pc' := 30) rfl rfl (fun c => ?_) (fun c => ?_)
          · replace h := h.1 c
            refine mr_const (pc' := 49) rfl rfl (by unfold mj_r; decide) ?_
            refine mr_goto rfl ?_
            exact mr_iret rfl rfl (by simp [mj_fit]) h
          · replace h := h.2 c
            refine mr_iload (pc' := 31) rfl rfl rfl ?_
            refine mr_const (pc' := 33) rfl rfl (by unfold mj_r; decide) ?_
            refine mr_ic_eq (pc' := 36) rfl rfl (fun c => ?_) (fun c => ?_)
            · replace h := h.1 c
              refine mr_const (pc' := 49) rfl rfl (by unfold mj_r; decide) ?_
              refine mr_goto rfl ?_
              exact mr_iret rfl rfl (by simp [mj_fit]) h
            · replace h := h.2 c
              refine mr_iload (pc' := 37) rfl rfl rfl ?_
              refine mr_const (pc' := 39) rfl rfl (by unfold mj_r; decide) ?_
              refine mr_ic_eq (pc' := 42) rfl rfl (fun c => ?_) (fun c => ?_)
              · replace h := h.1 c
                refine mr_const (pc' := 49) rfl rfl (by unfold mj_r; decide) ?_
                refine mr_goto rfl ?_
                exact mr_iret rfl rfl (by simp [mj_fit]) h
              · replace h := h.2 c
                refine mr_iload (pc' := 43) rfl rfl rfl ?_
                refine mr_const (pc' := 45) rfl rfl (by unfold mj_r; decide) ?_
                refine mr_ic_ne (pc' := 48) rfl rfl (fun c => ?_) (fun c => ?_)
                · replace h := h.1 c
                  refine mr_const (pc' := 53) rfl rfl (by unfold mj_r; decide) ?_
                  exact mr_iret rfl rfl (by simp [mj_fit]) h
                · replace h := h.2 c
                  refine mr_const (pc' := 49) rfl rfl (by unfold mj_r; decide) ?_
                  refine mr_goto rfl ?_
                  exact mr_iret rfl rfl (by simp [mj_fit]) h
theorem s_m15 {d : Nat} {σ : mj_S} {Q : mj_Q} {x1 : Int}  (h : Q (some (.inl (if z_le x1 then 1 else 0))) σ) : mj_B mjm_L mjm_Ms (d + 1) 15 [.inl x1] σ Q := by
  refine wq_m15 ?_
  simp only [z_le] at *
  repeat' (first | apply And.intro | intro _)
  all_goals first | exact h | omega | (unfold mj_r at *; omega) | trivial | exact bo_fit | assumption | ((try subst_vars); (try simp only [z_rd] at *); (repeat' split at h) <;> first | exact h | (exfalso; omega) | (simp_all; done) | (simp_all; omega))
set_option maxRecDepth 20000 in
/-- ListSpeakerModel.later_ -/
theorem wq_m24 {d : Nat} {σ : mj_S} {Q : mj_Q} {x1 x2 x3 x4 : Int} (h : 0 ≤ (σ 0 26) ∧ (σ 0 26) < 3000 ∧ ∀ σ1, σ1 = mj_up σ 16 (σ 0 26).toNat x1 → 0 ≤ (σ1 0 26) ∧ (σ1 0 26) < 3000 ∧ ∀ σ2, σ2 = mj_up σ1 17 (σ1 0 26).toNat x2 → 0 ≤ (σ2 0 26) ∧ (σ2 0 26) < 3000 ∧ ∀ σ3, σ3 = mj_up σ2 18 (σ2 0 26).toNat x3 → 0 ≤ (σ3 0 26) ∧ (σ3 0 26) < 3000 ∧ mj_fit .boolean x4 ∧ ∀ σ4, σ4 = mj_up σ3 19 (σ3 0 26).toNat x4 → mj_r ((σ4 0 26) + 1) ∧ ∀ σ5, σ5 = mj_up σ4 0 26 ((σ4 0 26) + 1) → Q none σ5) : mj_B mjm_L mjm_Ms (d + 1) 24 [.inr (.inl 0), .inl x1, .inl x2, .inl x3, .inl x4] σ Q := by
  refine mj_B_of (M := mjmM24) (ls := [some (.inr (.inl 0)), some (.inl x1), some (.inl x2), some (.inl x3), some (.inl x4)]) rfl (mj_c1_all rfl) (Nat.le_of_ble_eq_true rfl) rfl ?_
  refine mr_aload (pc' := 1) rfl rfl rfl ?_
  refine mr_getr (ci := 0) (pc' := 4) rfl rfl rfl rfl ?_
  refine mr_aload (pc' := 5) rfl rfl rfl ?_
  refine mr_get (ci := 0) (pc' := 8) rfl rfl rfl rfl ?_
  refine mr_iload (pc' := 9) rfl rfl rfl ?_
  obtain ⟨h0, h1, h⟩ := h
  refine mr_iast (pc' := 10) rfl rfl rfl h0 h1 (fun σ1 e9 => ?_)
  replace h := h σ1 e9
  refine mr_aload (pc' := 11) rfl rfl rfl ?_
  refine mr_getr (ci := 0) (pc' := 14) rfl rfl rfl rfl ?_
  refine mr_aload (pc' := 15) rfl rfl rfl ?_
  refine mr_get (ci := 0) (pc' := 18) rfl rfl rfl rfl ?_
  refine mr_iload (pc' := 19) rfl rfl rfl ?_
  obtain ⟨h0, h1, h⟩ := h
  refine mr_iast (pc' := 20) rfl rfl rfl h0 h1 (fun σ2 e9 => ?_)
  replace h := h σ2 e9
  refine mr_aload (pc' := 21) rfl rfl rfl ?_
  refine mr_getr (ci := 0) (pc' := 24) rfl rfl rfl rfl ?_
  refine mr_aload (pc' := 25) rfl rfl rfl ?_
  refine mr_get (ci := 0) (pc' := 28) rfl rfl rfl rfl ?_
  refine mr_iload (pc' := 29) rfl rfl rfl ?_
  obtain ⟨h0, h1, h⟩ := h
  refine mr_iast (pc' := 30) rfl rfl rfl h0 h1 (fun σ3 e9 => ?_)
  replace h := h σ3 e9
  refine mr_aload (pc' := 31) rfl rfl rfl ?_
  refine mr_getr (ci := 0) (pc' := 34) rfl rfl rfl rfl ?_
  refine mr_aload (pc' := 35) rfl rfl rfl ?_
  refine mr_get (ci := 0) (pc' := 38) rfl rfl rfl rfl ?_
  refine mr_iload (pc' := 40) rfl rfl rfl ?_
  obtain ⟨h0, h1, h2, h⟩ := h
  refine mr_zast (pc' := 41) rfl rfl rfl h0 h1 h2 (fun σ4 e9 => ?_)
  replace h := h σ4 e9
  refine mr_aload (pc' := 42) rfl rfl rfl ?_
  refine mr_dup (pc' := 43) rfl rfl trivial ?_
  refine mr_get (ci := 0) (pc' := 46) rfl rfl rfl rfl ?_
  refine mr_const (pc' := 47) rfl rfl (by unfold mj_r; decide) ?_
  obtain ⟨h0, h⟩ := h
  refine mr_iadd (pc' := 48) rfl rfl h0 ?_
  refine mr_put (pc' := 51) rfl rfl rfl rfl (fun σ5 e9 => ?_)
  replace h := h σ5 e9
  exact mr_ret rfl rfl h
theorem s_m24 {d : Nat} {σ : mj_S} {Q : mj_Q} {x1 x2 x3 x4 : Int} (p0 : 0 ≤ σ 0 26) (p1 : σ 0 26 < 3000) (p2 : mj_fit .boolean x4) (h : ∀ σ', σ' = z_la σ x1 x2 x3 x4 → Q none σ') : mj_B mjm_L mjm_Ms (d + 1) 24 [.inr (.inl 0), .inl x1, .inl x2, .inl x3, .inl x4] σ Q := by
  refine wq_m24 ?_
  replace h := h _ rfl
  simp only [z_la] at *
  repeat' (first | apply And.intro | intro _)
  all_goals first | exact h | omega | (unfold mj_r at *; omega) | trivial | exact bo_fit | assumption | ((try subst_vars); (try simp only [z_rd] at *); (repeat' split at h) <;> first | exact h | (exfalso; omega) | (simp_all; done) | (simp_all; omega))
set_option maxRecDepth 20000 in
/-- ListSpeakerModel.bind_ -/
theorem wq_m25 {d : Nat} {σ : mj_S} {Q : mj_Q} {x1 x2 : Int} (h : 0 ≤ (σ 0 33) ∧ (σ 0 33) < 400 ∧ ∀ σ1, σ1 = mj_up σ 21 (σ 0 33).toNat x1 → 0 ≤ (σ1 0 33) ∧ (σ1 0 33) < 400 ∧ ∀ σ2, σ2 = mj_up σ1 22 (σ1 0 33).toNat x2 → mj_r ((σ2 0 33) + 1) ∧ ∀ σ3, σ3 = mj_up σ2 0 33 ((σ2 0 33) + 1) → Q none σ3) : mj_B mjm_L mjm_Ms (d + 1) 25 [.inr (.inl 0), .inl x1, .inl x2] σ Q := by
  refine mj_B_of (M := mjmM25) (ls := [some (.inr (.inl 0)), some (.inl x1), some (.inl x2)]) rfl (mj_c1_all rfl) (Nat.le_of_ble_eq_true rfl) rfl ?_
  refine mr_aload (pc' := 1) rfl rfl rfl ?_
  refine mr_getr (ci := 0) (pc' := 4) rfl rfl rfl rfl ?_
  refine mr_aload (pc' := 5) rfl rfl rfl ?_
  refine mr_get (ci := 0) (pc' := 8) rfl rfl rfl rfl ?_
  refine mr_iload (pc' := 9) rfl rfl rfl ?_
  obtain ⟨h0, h1, h⟩ := h
  refine mr_iast (pc' := 10) rfl rfl rfl h0 h1 (fun σ1 e9 => ?_)
  replace h := h σ1 e9
  refine mr_aload (pc' := 11) rfl rfl rfl ?_
  refine mr_getr (ci := 0) (pc' := 14) rfl rfl rfl rfl ?_
  refine mr_aload (pc' := 15) rfl rfl rfl ?_
  refine mr_get (ci := 0) (pc' := 18) rfl rfl rfl rfl ?_
  refine mr_iload (pc' := 19) rfl rfl rfl ?_
  obtain ⟨h0, h1, h⟩ := h
  refine mr_iast (pc' := 20) rfl rfl rfl h0 h1 (fun σ2 e9 => ?_)
  replace h := h σ2 e9
  refine mr_aload (pc' := 21) rfl rfl rfl ?_
  refine mr_dup (pc' := 22) rfl rfl trivial ?_
  refine mr_get (ci := 0) (pc' := 25) rfl rfl rfl rfl ?_
  refine mr_const (pc' := 26) rfl rfl (by unfold mj_r; decide) ?_
  obtain ⟨h0, h⟩ := h
  refine mr_iadd (pc' := 27) rfl rfl h0 ?_
  refine mr_put (pc' := 30) rfl rfl rfl rfl (fun σ3 e9 => ?_)
  replace h := h σ3 e9
  exact mr_ret rfl rfl h
theorem s_m25 {d : Nat} {σ : mj_S} {Q : mj_Q} {x1 x2 : Int} (p0 : 0 ≤ σ 0 33) (p1 : σ 0 33 < 400) (h : ∀ σ', σ' = z_bi σ x1 x2 → Q none σ') : mj_B mjm_L mjm_Ms (d + 1) 25 [.inr (.inl 0), .inl x1, .inl x2] σ Q := by
  refine wq_m25 ?_
  replace h := h _ rfl
  simp only [z_bi] at *
  repeat' (first | apply And.intro | intro _)
  all_goals first | exact h | omega | (unfold mj_r at *; omega) | trivial | exact bo_fit | assumption | ((try subst_vars); (try simp only [z_rd] at *); (repeat' split at h) <;> first | exact h | (exfalso; omega) | (simp_all; done) | (simp_all; omega))
set_option maxRecDepth 20000 in
/-- ListSpeakerModel.pop_ -/
theorem wq_m39 {d : Nat} {σ : mj_S} {Q : mj_Q} (h : mj_r ((σ 0 31) - 1) ∧ ∀ σ1, σ1 = mj_up σ 0 31 ((σ 0 31) - 1) → 0 ≤ (σ1 0 31) ∧ (σ1 0 31) < 100 ∧ Q (some (.inl (σ1 20 (σ1 0 31).toNat))) σ1) : mj_B mjm_L mjm_Ms (d + 1) 39 [.inr (.inl 0)] σ Q := by
  refine mj_B_of (M := mjmM39) (ls := [some (.inr (.inl 0))]) rfl (mj_c1_all rfl) (Nat.le_of_ble_eq_true rfl) rfl ?_
  refine mr_aload (pc' := 1) rfl rfl rfl ?_
  refine mr_dup (pc' := 2) rfl rfl trivial ?_
  refine mr_get (ci := 0) (pc' := 5) rfl rfl rfl rfl ?_
  refine mr_const (pc' := 6) rfl rfl (by unfold mj_r; decide) ?_
  obtain ⟨h0, h⟩ := h
  refine mr_isub (pc' := 7) rfl rfl h0 ?_
  refine mr_put (pc' := 10) rfl rfl rfl rfl (fun σ1 e9 => ?_)
  replace h := h σ1 e9
  refine mr_aload (pc' := 11) rfl rfl rfl ?_
  refine mr_getr (ci := 0) (pc' := 14) rfl rfl rfl rfl ?_
  refine mr_aload (pc' := 15) rfl rfl rfl ?_
  refine mr_get (ci := 0) (pc' := 18) rfl rfl rfl rfl ?_
  obtain ⟨h0, h1, h⟩ := h
  refine mr_iald (pc' := 19) rfl rfl rfl h0 h1 ?_
  exact mr_iret rfl rfl trivial h
theorem s_m39 {d : Nat} {σ : mj_S} {Q : mj_Q} (p0 : 1 ≤ σ 0 31) (p1 : σ 0 31 ≤ 100) (h : ∀ σ', σ' = mj_up σ 0 31 (σ 0 31 - 1) → Q (some (.inl (σ 20 (σ 0 31 - 1).toNat))) σ') : mj_B mjm_L mjm_Ms (d + 1) 39 [.inr (.inl 0)] σ Q := by
  refine wq_m39 ?_
  replace h := h _ rfl
  repeat' (first | apply And.intro | intro _)
  all_goals first | exact h | omega | (unfold mj_r at *; omega) | trivial | exact bo_fit | assumption | ((try subst_vars); (try simp only [z_rd] at *); (repeat' split at h) <;> first | exact h | (exfalso; omega) | (simp_all; done) | (simp_all; omega))
set_option maxRecDepth 20000 in
/-- ListSpeakerModel.truth_ -/
theorem wq_m51 {d : Nat} {σ : mj_S} {Q : mj_Q} {x1 : Int} (h : (x1 = 0 → Q (some (.inl 268435456)) σ) ∧ (¬ x1 = 0 → Q (some (.inl 268435457)) σ)) : mj_B mjm_L mjm_Ms (d + 1) 51 [.inl x1] σ Q := by
  refine mj_B_of (M := mjmM51) (ls := [some (.inl x1)]) rfl (mj_c1_all rfl) (Nat.le_of_ble_eq_true rfl) rfl ?_
  refine mr_iload (pc' := 1) rfl rfl rfl ?_
  refine mr_if_eq (pc' := 4) rfl rfl (fun c => ?_) (fun c => ?_)
  · replace h := h.1 c
    refine mr_const (pc' := 11) rfl rfl (by unfold mj_r; decide) ?_
    exact mr_iret rfl rfl trivial h
  · replace h := h.2 c
    refine mr_const (pc' := 6) rfl rfl (by unfold mj_r; decide) ?_
    refine mr_goto rfl ?_
    exact mr_iret rfl rfl trivial h
theorem s_m51 {d : Nat} {σ : mj_S} {Q : mj_Q} {x1 : Int}  (h : Q (some (.inl (z_tr x1))) σ) : mj_B mjm_L mjm_Ms (d + 1) 51 [.inl x1] σ Q := by
  refine wq_m51 ?_
  simp only [z_tr] at *
  repeat' (first | apply And.intro | intro _)
  all_goals first | exact h | omega | (unfold mj_r at *; omega) | trivial | exact bo_fit | assumption | ((try subst_vars); (try simp only [z_rd] at *); (repeat' split at h) <;> first | exact h | (exfalso; omega) | (simp_all; done) | (simp_all; omega))
set_option maxRecDepth 20000 in
/-- ListSpeakerModel.whole_ -/
theorem wq_m52 {d : Nat} {σ : mj_S} {Q : mj_Q} {x1 : Int} (h : (x1 < 0 → Q (some (.inl 0)) σ) ∧ (0 ≤ x1 → (268435455 < x1 → Q (some (.inl 0)) σ) ∧ (x1 ≤ 268435455 → Q (some (.inl x1)) σ))) : mj_B mjm_L mjm_Ms (d + 1) 52 [.inl x1] σ Q := by
  refine mj_B_of (M := mjmM52) (ls := [some (.inl x1)]) rfl (mj_c1_all rfl) (Nat.le_of_ble_eq_true rfl) rfl ?_
  refine mr_iload (pc' := 1) rfl rfl rfl ?_
  refine mr_if_lt (pc' := 4) rfl rfl (fun c => ?_) (fun c => ?_)
  · replace h := h.1 c
    refine mr_const (pc' := 16) rfl rfl (by unfold mj_r; decide) ?_
    exact mr_iret rfl rfl trivial h
  · replace h := h.2 c
    refine mr_iload (pc' := 5) rfl rfl rfl ?_
    refine mr_const (pc' := 8) rfl rfl (by unfold mj_r; decide) ?_
    refine mr_ic_gt (pc' := 11) rfl rfl (fun c => ?_) (fun c => ?_)
    · replace h := h.1 c
      refine mr_const (pc' := 16) rfl rfl (by unfold mj_r; decide) ?_
      exact mr_iret rfl rfl trivial h
    · replace h := h.2 c
      refine mr_iload (pc' := 12) rfl rfl rfl ?_
      refine mr_goto rfl ?_
      exact mr_iret rfl rfl trivial h
theorem s_m52 {d : Nat} {σ : mj_S} {Q : mj_Q} {x1 : Int}  (h : Q (some (.inl (z_nu x1))) σ) : mj_B mjm_L mjm_Ms (d + 1) 52 [.inl x1] σ Q := by
  refine wq_m52 ?_
  simp only [z_nu] at *
  repeat' (first | apply And.intro | intro _)
  all_goals first | exact h | omega | (unfold mj_r at *; omega) | trivial | exact bo_fit | assumption | ((try subst_vars); (try simp only [z_rd] at *); (repeat' split at h) <;> first | exact h | (exfalso; omega) | (simp_all; done) | (simp_all; omega))
set_option maxRecDepth 20000 in
/-- ListSpeakerModel.print_ -/
theorem wq_m54 {d : Nat} {σ : mj_S} {Q : mj_Q} {x1 : Int} (h : (¬ (σ 0 44) = 400 → 0 ≤ (σ 0 44) ∧ (σ 0 44) < 400 ∧ mj_fit .char (x1 % 65536) ∧ ∀ σ1, σ1 = mj_up σ 24 (σ 0 44).toNat (x1 % 65536) → mj_r ((σ1 0 44) + 1) ∧ ∀ σ2, σ2 = mj_up σ1 0 44 ((σ1 0 44) + 1) → Q none σ2) ∧ ((σ 0 44) = 400 → Q none σ)) : mj_B mjm_L mjm_Ms (d + 1) 54 [.inr (.inl 0), .inl x1] σ Q := by
  refine mj_B_of (M := mjmM54) (ls := [some (.inr (.inl 0)), some (.inl x1)]) rfl (mj_c1_all rfl) (Nat.le_of_ble_eq_true rfl) rfl ?_
  refine mr_aload (pc' := 1) rfl rfl rfl ?_
  refine mr_get (ci := 0) (pc' := 4) rfl rfl rfl rfl ?_
  refine mr_const (pc' := 7) rfl rfl (by unfold mj_r; decide) ?_
  refine mr_ic_ne (pc' := 10) rfl rfl (fun c => ?_) (fun c => ?_)
  · replace h := h.1 c
    refine mr_aload (pc' := 12) rfl rfl rfl ?_
    refine mr_getr (ci := 0) (pc' := 15) rfl rfl rfl rfl ?_
    refine mr_aload (pc' := 16) rfl rfl rfl ?_
    refine mr_get (ci := 0) (pc' := 19) rfl rfl rfl rfl ?_
    refine mr_iload (pc' := 20) rfl rfl rfl ?_
    refine mr_i2c (pc' := 21) rfl rfl ?_
    obtain ⟨h0, h1, h2, h⟩ := h
    refine mr_cast (pc' := 22) rfl rfl rfl h0 h1 h2 (fun σ1 e9 => ?_)
    replace h := h σ1 e9
    refine mr_aload (pc' := 23) rfl rfl rfl ?_
    refine mr_dup (pc' := 24) rfl rfl trivial ?_
    refine mr_get (ci := 0) (pc' := 27) rfl rfl rfl rfl ?_
    refine mr_const (pc' := 28) rfl rfl (by unfold mj_r; decide) ?_
    obtain ⟨h0, h⟩ := h
    refine mr_iadd (pc' := 29) rfl rfl h0 ?_
    refine mr_put (pc' := 32) rfl rfl rfl rfl (fun σ2 e9 => ?_)
    replace h := h σ2 e9
    exact mr_ret rfl rfl h
  · replace h := h.2 c
    exact mr_ret rfl rfl h
theorem s_m54 {d : Nat} {σ : mj_S} {Q : mj_Q} {x1 : Int} (p0 : 0 ≤ σ 0 44) (p1 : σ 0 44 ≤ 400) (h : ∀ σ', σ' = z_pt σ x1 → Q none σ') : mj_B mjm_L mjm_Ms (d + 1) 54 [.inr (.inl 0), .inl x1] σ Q := by
  refine wq_m54 ?_
  replace h := h _ rfl
  simp only [z_pt] at *
  repeat' (first | apply And.intro | intro _)
  all_goals first | exact h | omega | (unfold mj_r at *; omega) | trivial | exact bo_fit | assumption | ((try subst_vars); (try simp only [z_rd] at *); (repeat' split at h) <;> first | exact h | (exfalso; omega) | (simp_all; done) | (simp_all; omega))
set_option maxRecDepth 20000 in
/-- ListSpeakerModel.store_ -/
theorem wq_m18 {d : Nat} {σ : mj_S} {Q : mj_Q} {x1 x2 : Int} (h : (¬ (σ 0 11) = 400 → 0 ≤ (σ 0 11) ∧ (σ 0 11) < 600 ∧ ∀ σ1, σ1 = mj_up σ 4 (σ 0 11).toNat x1 → 0 ≤ (σ1 0 11) ∧ (σ1 0 11) < 600 ∧ ∀ σ2, σ2 = mj_up σ1 5 (σ1 0 11).toNat x2 → mj_r ((σ2 0 11) + 1) ∧ ∀ σ3, σ3 = mj_up σ2 0 11 ((σ2 0 11) + 1) → mj_r (536870912 + (σ3 0 11)) ∧ mj_r ((536870912 + (σ3 0 11)) - 1) ∧ Q (some (.inl ((536870912 + (σ3 0 11)) - 1))) σ3) ∧ ((σ 0 11) = 400 → ∀ σ4, σ4 = z_sp σ 11 → Q (some (.inl 268435456)) σ4)) : mj_B mjm_L mjm_Ms (d + 2) 18 [.inr (.inl 0), .inl x1, .inl x2] σ Q := by
  refine mj_B_of (M := mjmM18) (ls := [some (.inr (.inl 0)), some (.inl x1), some (.inl x2)]) rfl (mj_c1_all rfl) (Nat.le_of_ble_eq_true rfl) rfl ?_
  refine mr_aload (pc' := 1) rfl rfl rfl ?_
  refine mr_get (ci := 0) (pc' := 4) rfl rfl rfl rfl ?_
  refine mr_const (pc' := 7) rfl rfl (by unfold mj_r; decide) ?_
  refine mr_ic_ne (pc' := 10) rfl rfl (fun c => ?_) (fun c => ?_)
  · replace h := h.1 c
    refine mr_aload (pc' := 18) rfl rfl rfl ?_
    refine mr_getr (ci := 0) (pc' := 21) rfl rfl rfl rfl ?_
    refine mr_aload (pc' := 22) rfl rfl rfl ?_
    refine mr_get (ci := 0) (pc' := 25) rfl rfl rfl rfl ?_
    refine mr_iload (pc' := 26) rfl rfl rfl ?_
    obtain ⟨h0, h1, h⟩ := h
    refine mr_iast (pc' := 27) rfl rfl rfl h0 h1 (fun σ1 e9 => ?_)
    replace h := h σ1 e9
    refine mr_aload (pc' := 28) rfl rfl rfl ?_
    refine mr_getr (ci := 0) (pc' := 31) rfl rfl rfl rfl ?_
    refine mr_aload (pc' := 32) rfl rfl rfl ?_
    refine mr_get (ci := 0) (pc' := 35) rfl rfl rfl rfl ?_
    refine mr_iload (pc' := 36) rfl rfl rfl ?_
    obtain ⟨h0, h1, h⟩ := h
    refine mr_iast (pc' := 37) rfl rfl rfl h0 h1 (fun σ2 e9 => ?_)
    replace h := h σ2 e9
    refine mr_aload (pc' := 38) rfl rfl rfl ?_
    refine mr_dup (pc' := 39) rfl rfl trivial ?_
    refine mr_get (ci := 0) (pc' := 42) rfl rfl rfl rfl ?_
    refine mr_const (pc' := 43) rfl rfl (by unfold mj_r; decide) ?_
    obtain ⟨h0, h⟩ := h
    refine mr_iadd (pc' := 44) rfl rfl h0 ?_
    refine mr_put (pc' := 47) rfl rfl rfl rfl (fun σ3 e9 => ?_)
    replace h := h σ3 e9
    refine mr_const (pc' := 49) rfl rfl (by unfold mj_r; decide) ?_
    refine mr_aload (pc' := 50) rfl rfl rfl ?_
    refine mr_get (ci := 0) (pc' := 53) rfl rfl rfl rfl ?_
    obtain ⟨h0, h⟩ := h
    refine mr_iadd (pc' := 54) rfl rfl h0 ?_
    refine mr_const (pc' := 55) rfl rfl (by unfold mj_r; decide) ?_
    obtain ⟨h0, h⟩ := h
    refine mr_isub (pc' := 56) rfl rfl h0 ?_
    exact mr_iret rfl rfl trivial h
  · replace h := h.2 c
    refine mr_aload (pc' := 11) rfl rfl rfl ?_
    refine mr_const (pc' := 13) rfl rfl (by unfold mj_r; decide) ?_
    refine mr_call (t := [(9, 0)]) (pc' := 16) rfl [.inr (.inl 0), .inl 11] rfl rfl rfl (mj_recvV rfl) (Nat.le_of_ble_eq_true rfl) (s_m2  (fun σ4 e9 => ?_))
    replace h := h σ4 e9
    exact mr_iret rfl rfl trivial h
theorem s_m18 {d : Nat} {σ : mj_S} {Q : mj_Q} {x1 x2 : Int} (p0 : 0 ≤ σ 0 11) (p1 : σ 0 11 ≤ 400) (h : ∀ σ', σ' = z_sr σ x1 x2 → Q (some (.inl (if σ 0 11 = 400 then 268435456 else 536870912 + σ 0 11))) σ') : mj_B mjm_L mjm_Ms (d + 2) 18 [.inr (.inl 0), .inl x1, .inl x2] σ Q := by
  refine wq_m18 ?_
  replace h := h _ rfl
  unfold z_sr at h
  refine ⟨fun c => ⟨p0, by omega, fun σ1 e1 => ?_⟩, fun c => ?_⟩
  · rw [if_neg c, if_neg c] at h
    have a1 : σ1 0 11 = σ 0 11 := by rw [e1, z_rd]; simp
    refine ⟨by omega, by omega, fun σ2 e2 => ?_⟩
    have a2 : σ2 0 11 = σ 0 11 := by rw [e2, z_rd]; simpa using a1
    refine ⟨by unfold mj_r; omega, fun σ3 e3 => ?_⟩
    have a3 : σ3 0 11 = σ 0 11 + 1 := by rw [e3, z_rd]; simp [a2]
    refine ⟨by unfold mj_r; omega, by unfold mj_r; omega, ?_⟩
    rw [a3, show 536870912 + (σ 0 11 + 1) - 1 = 536870912 + σ 0 11 by omega, e3, a2, e2, a1, e1]
    exact h
  · rw [if_pos c, if_pos c] at h; intro σ4 e4; rw [e4]; exact h
set_option maxRecDepth 20000 in
/-- ListSpeakerModel.isVariable_ -/
theorem wq_m31 {d : Nat} {σ : mj_S} {Q : mj_Q} {x1 : Int} (h : (¬ (268435456 ≤ x1 ∧ x1 < 536870912) → Q (some (.inl 0)) σ) ∧ (268435456 ≤ x1 ∧ x1 < 536870912 → (x1 = 268435456 → Q (some (.inl 0)) σ) ∧ (¬ x1 = 268435456 → (x1 = 268435457 → Q (some (.inl 0)) σ) ∧ (¬ x1 = 268435457 → (x1 = 268435458 → Q (some (.inl 0)) σ) ∧ (¬ x1 = 268435458 → (x1 = 268435465 → Q (some (.inl 0)) σ) ∧ (¬ x1 = 268435465 → Q (some (.inl 1)) σ)))))) : mj_B mjm_L mjm_Ms (d + 2) 31 [.inr (.inl 0), .inl x1] σ Q := by
  refine mj_B_of (M := mjmM31) (ls := [some (.inr (.inl 0)), some (.inl x1)]) rfl (mj_c1_all rfl) (Nat.le_of_ble_eq_true rfl) rfl ?_
  refine mr_iload (pc' := 1) rfl rfl rfl ?_
  refine mr_call (t := []) (pc' := 4) rfl [.inl x1] rfl rfl rfl trivial (Nat.le_of_ble_eq_true rfl) (s_m4  ?_)
  refine mr_if_eq (pc' := 7) rfl rfl (fun c => ?_) (fun c => ?_)
  · replace h := h.1 (bo_0 c)
    refine mr_const (pc' := 36) rfl rfl (by unfold mj_r; decide) ?_
    exact mr_iret rfl rfl (by simp [mj_fit]) h
  · replace h := h.2 (bo_1 c)
    refine mr_iload (pc' := 8) rfl rfl rfl ?_
    refine mr_const (pc' := 10) rfl rfl (by unfold mj_r; decide) ?_
    refine mr_ic_eq (pc' := 13) rfl rfl (fun c => ?_) (fun c => ?_)
    · replace h := h.1 c
      refine mr_const (pc' := 36) rfl rfl (by unfold mj_r; decide) ?_
      exact mr_iret rfl rfl (by simp [mj_fit]) h
    · replace h := h.2 c
      refine mr_iload (pc' := 14) rfl rfl rfl ?_
      refine mr_const (pc' := 16) rfl rfl (by unfold mj_r; decide) ?_
      refine mr_ic_eq (pc' := 19) rfl rfl (fun c => ?_) (fun c => ?_)
      · replace h := h.1 c
        refine mr_const (pc' := 36) rfl rfl (by unfold mj_r; decide) ?_
        exact mr_iret rfl rfl (by simp [mj_fit]) h
      · replace h := h.2 c
        refine mr_iload (pc' := 20) rfl rfl rfl ?_
        refine mr_const (pc' := 22) rfl rfl (by unfold mj_r; decide) ?_
        refine mr_ic_eq (pc' := 25) rfl rfl (fun c => ?_) (fun c => ?_)
        · replace h := h.1 c
          refine mr_const (pc' := 36) rfl rfl (by unfold mj_r; decide) ?_
          exact mr_iret rfl rfl (by simp [mj_fit]) h
        · replace h := h.2 c
          refine mr_iload (pc' := 26) rfl rfl rfl ?_
          refine mr_const (pc' := 28) rfl rfl (by unfold mj_r; decide) ?_
          refine mr_ic_eq (pc' := 31) rfl rfl (fun c => ?_) (fun c => ?_)
          · replace h := h.1 c
            refine mr_const (pc' := 36) rfl rfl (by unfold mj_r; decide) ?_
            exact mr_iret rfl rfl (by simp [mj_fit]) h
          · replace h := h.2 c
            refine mr_const (pc' := 32) rfl rfl (by unfold mj_r; decide) ?_
            refine mr_goto rfl ?_
            exact mr_iret rfl rfl (by simp [mj_fit]) h
theorem s_m31 {d : Nat} {σ : mj_S} {Q : mj_Q} {x1 : Int}  (h : Q (some (.inl (if z_va x1 then 1 else 0))) σ) : mj_B mjm_L mjm_Ms (d + 2) 31 [.inr (.inl 0), .inl x1] σ Q := by
  refine wq_m31 ?_
  simp only [z_va] at *
  repeat' (first | apply And.intro | intro _)
  all_goals first | exact h | omega | (unfold mj_r at *; omega) | trivial | exact bo_fit | assumption | ((try subst_vars); (try simp only [z_rd] at *); (repeat' split at h) <;> first | exact h | (exfalso; omega) | (simp_all; done) | (simp_all; omega))
set_option maxRecDepth 20000 in
/-- ListSpeakerModel.step_ -/
theorem wq_m37 {d : Nat} {σ : mj_S} {Q : mj_Q} (h : (¬ (σ 0 41) = (σ 0 40) → mj_r ((σ 0 41) + 1) ∧ ∀ σ1, σ1 = mj_up σ 0 41 ((σ 0 41) + 1) → Q (some (.inl 1)) σ1) ∧ ((σ 0 41) = (σ 0 40) → ∀ σ2, σ2 = z_sp σ 5 → Q (some (.inl 0)) σ2)) : mj_B mjm_L mjm_Ms (d + 2) 37 [.inr (.inl 0)] σ Q := by
  refine mj_B_of (M := mjmM37) (ls := [some (.inr (.inl 0))]) rfl (mj_c1_all rfl) (Nat.le_of_ble_eq_true rfl) rfl ?_
  refine mr_aload (pc' := 1) rfl rfl rfl ?_
  refine mr_get (ci := 0) (pc' := 4) rfl rfl rfl rfl ?_
  refine mr_aload (pc' := 5) rfl rfl rfl ?_
  refine mr_get (ci := 0) (pc' := 8) rfl rfl rfl rfl ?_
  refine mr_ic_ne (pc' := 11) rfl rfl (fun c => ?_) (fun c => ?_)
  · replace h := h.1 c
    refine mr_aload (pc' := 20) rfl rfl rfl ?_
    refine mr_dup (pc' := 21) rfl rfl trivial ?_
    refine mr_get (ci := 0) (pc' := 24) rfl rfl rfl rfl ?_
    refine mr_const (pc' := 25) rfl rfl (by unfold mj_r; decide) ?_
    obtain ⟨h0, h⟩ := h
    refine mr_iadd (pc' := 26) rfl rfl h0 ?_
    refine mr_put (pc' := 29) rfl rfl rfl rfl (fun σ1 e9 => ?_)
    replace h := h σ1 e9
    refine mr_const (pc' := 30) rfl rfl (by unfold mj_r; decide) ?_
    exact mr_iret rfl rfl (by simp [mj_fit]) h
  · replace h := h.2 c
    refine mr_aload (pc' := 12) rfl rfl rfl ?_
    refine mr_const (pc' := 13) rfl rfl (by unfold mj_r; decide) ?_
    refine mr_call (t := [(9, 0)]) (pc' := 16) rfl [.inr (.inl 0), .inl 5] rfl rfl rfl (mj_recvV rfl) (Nat.le_of_ble_eq_true rfl) (s_m2  (fun σ2 e9 => ?_))
    replace h := h σ2 e9
    refine mr_pop (pc' := 17) rfl rfl trivial ?_
    refine mr_const (pc' := 18) rfl rfl (by unfold mj_r; decide) ?_
    exact mr_iret rfl rfl (by simp [mj_fit]) h
theorem s_m37 {d : Nat} {σ : mj_S} {Q : mj_Q} (p0 : mj_r (σ 0 41 + 1)) (h : ∀ σ', σ' = z_se σ → Q (some (.inl (if ¬ σ 0 41 = σ 0 40 then 1 else 0))) σ') : mj_B mjm_L mjm_Ms (d + 2) 37 [.inr (.inl 0)] σ Q := by
  refine wq_m37 ?_
  replace h := h _ rfl
  simp only [z_se] at *
  repeat' (first | apply And.intro | intro _)
  all_goals first | exact h | omega | (unfold mj_r at *; omega) | trivial | exact bo_fit | assumption | ((try subst_vars); (try simp only [z_rd] at *); (repeat' split at h) <;> first | exact h | (exfalso; omega) | (simp_all; done) | (simp_all; omega))
set_option maxRecDepth 20000 in
/-- ListSpeakerModel.push_ -/
theorem wq_m38 {d : Nat} {σ : mj_S} {Q : mj_Q} {x1 : Int} (h : (¬ (σ 0 31) = 100 → 0 ≤ (σ 0 31) ∧ (σ 0 31) < 100 ∧ ∀ σ1, σ1 = mj_up σ 20 (σ 0 31).toNat x1 → mj_r ((σ1 0 31) + 1) ∧ ∀ σ2, σ2 = mj_up σ1 0 31 ((σ1 0 31) + 1) → ((σ2 0 31) ≤ (σ2 0 42) → ∀ σ3, σ3 = mj_up σ2 0 42 (σ2 0 42) → Q none σ3) ∧ ((σ2 0 42) < (σ2 0 31) → ∀ σ4, σ4 = mj_up σ2 0 42 (σ2 0 31) → Q none σ4)) ∧ ((σ 0 31) = 100 → ∀ σ5, σ5 = z_sp σ 9 → Q none σ5)) : mj_B mjm_L mjm_Ms (d + 2) 38 [.inr (.inl 0), .inl x1] σ Q := by
  refine mj_B_of (M := mjmM38) (ls := [some (.inr (.inl 0)), some (.inl x1)]) rfl (mj_c1_all rfl) (Nat.le_of_ble_eq_true rfl) rfl ?_
  refine mr_aload (pc' := 1) rfl rfl rfl ?_
  refine mr_get (ci := 0) (pc' := 4) rfl rfl rfl rfl ?_
  refine mr_const (pc' := 6) rfl rfl (by unfold mj_r; decide) ?_
  refine mr_ic_ne (pc' := 9) rfl rfl (fun c => ?_) (fun c => ?_)
  · replace h := h.1 c
    refine mr_aload (pc' := 18) rfl rfl rfl ?_
    refine mr_getr (ci := 0) (pc' := 21) rfl rfl rfl rfl ?_
    refine mr_aload (pc' := 22) rfl rfl rfl ?_
    refine mr_get (ci := 0) (pc' := 25) rfl rfl rfl rfl ?_
    refine mr_iload (pc' := 26) rfl rfl rfl ?_
    obtain ⟨h0, h1, h⟩ := h
    refine mr_iast (pc' := 27) rfl rfl rfl h0 h1 (fun σ1 e9 => ?_)
    replace h := h σ1 e9
    refine mr_aload (pc' := 28) rfl rfl rfl ?_
    refine mr_dup (pc' := 29) rfl rfl trivial ?_
    refine mr_get (ci := 0) (pc' := 32) rfl rfl rfl rfl ?_
    refine mr_const (pc' := 33) rfl rfl (by unfold mj_r; decide) ?_
    obtain ⟨h0, h⟩ := h
    refine mr_iadd (pc' := 34) rfl rfl h0 ?_
    refine mr_put (pc' := 37) rfl rfl rfl rfl (fun σ2 e9 => ?_)
    replace h := h σ2 e9
    refine mr_aload (pc' := 38) rfl rfl rfl ?_
    refine mr_aload (pc' := 39) rfl rfl rfl ?_
    refine mr_get (ci := 0) (pc' := 42) rfl rfl rfl rfl ?_
    refine mr_aload (pc' := 43) rfl rfl rfl ?_
    refine mr_get (ci := 0) (pc' := 46) rfl rfl rfl rfl ?_
    refine mr_ic_le (pc' := 49) rfl rfl (fun c => ?_) (fun c => ?_)
    · replace h := h.1 c
      refine mr_aload (pc' := 57) rfl rfl rfl ?_
      refine mr_get (ci := 0) (pc' := 60) rfl rfl rfl rfl ?_
      refine mr_put (pc' := 63) rfl rfl rfl rfl (fun σ3 e9 => ?_)
      replace h := h σ3 e9
      exact mr_ret rfl rfl h
    · replace h := h.2 c
      refine mr_aload (pc' := 50) rfl rfl rfl ?_
      refine mr_get (ci := 0) (pc' := 53) rfl rfl rfl rfl ?_
      refine mr_goto rfl ?_
      refine mr_put (pc' := 63) rfl rfl rfl rfl (fun σ4 e9 => ?_)
      replace h := h σ4 e9
      exact mr_ret rfl rfl h
  · replace h := h.2 c
    refine mr_aload (pc' := 10) rfl rfl rfl ?_
    refine mr_const (pc' := 12) rfl rfl (by unfold mj_r; decide) ?_
    refine mr_call (t := [(9, 0)]) (pc' := 15) rfl [.inr (.inl 0), .inl 9] rfl rfl rfl (mj_recvV rfl) (Nat.le_of_ble_eq_true rfl) (s_m2  (fun σ5 e9 => ?_))
    replace h := h σ5 e9
    refine mr_pop (pc' := 16) rfl rfl trivial ?_
    exact mr_ret rfl rfl h
theorem s_m38 {d : Nat} {σ : mj_S} {Q : mj_Q} {x1 : Int} (p0 : 0 ≤ σ 0 31) (p1 : σ 0 31 ≤ 100) (h : ∀ σ', σ' = z_pu σ x1 → Q none σ') : mj_B mjm_L mjm_Ms (d + 2) 38 [.inr (.inl 0), .inl x1] σ Q := by
  refine wq_m38 ?_
  replace h := h _ rfl
  simp only [z_pu] at *
  repeat' (first | apply And.intro | intro _)
  all_goals first | exact h | omega | (unfold mj_r at *; omega) | trivial | exact bo_fit | assumption | ((try subst_vars); (try simp only [z_rd] at *); (repeat' split at h) <;> first | exact h | (exfalso; omega) | (simp_all; done) | (simp_all; omega))
