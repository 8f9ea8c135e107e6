def qh_m29_33 (d : Nat) (Q : mj_Q) (y1 : Int) (σ : mj_S) : Prop := mj_P mjm_L mjm_Ms d mjmo29 ((Option.none : Option Jvm.ClassFile.FieldType)) Q 33 [some (.inr (.inl 0)), some (.inl y1), none, none, none, none, none, none] [] σ
def qh_m29_87 (d : Nat) (Q : mj_Q) (y1 y2 y3 y4 : Int) (σ : mj_S) : Prop := mj_P mjm_L mjm_Ms d mjmo29 ((Option.none : Option Jvm.ClassFile.FieldType)) Q 87 [some (.inr (.inl 0)), some (.inl y1), some (.inl y2), some (.inl y3), some (.inl y4), none, none, none] [] σ
def qh_m29_97 (d : Nat) (Q : mj_Q) (y1 y2 y3 y4 : Int) (σ : mj_S) : Prop := mj_P mjm_L mjm_Ms d mjmo29 ((Option.none : Option Jvm.ClassFile.FieldType)) Q 97 [some (.inr (.inl 0)), some (.inl y1), some (.inl y2), some (.inl y3), some (.inl y4), none, none, none] [] σ
def qh_m29_150 (d : Nat) (Q : mj_Q) (y1 y2 y3 y4 : Int) (σ : mj_S) : Prop := mj_P mjm_L mjm_Ms d mjmo29 ((Option.none : Option Jvm.ClassFile.FieldType)) Q 150 [some (.inr (.inl 0)), some (.inl y1), some (.inl y2), some (.inl y3), some (.inl y4), none, none, none] [] σ
def qh_m29_107 (d : Nat) (Q : mj_Q) (y1 y2 y3 y4 : Int) (σ : mj_S) : Prop := mj_P mjm_L mjm_Ms d mjmo29 ((Option.none : Option Jvm.ClassFile.FieldType)) Q 107 [some (.inr (.inl 0)), some (.inl y1), some (.inl y2), some (.inl y3), some (.inl y4), none, none, none] [] σ
def qh_m29_157 (d : Nat) (Q : mj_Q) (y1 y2 y3 y4 y5 : Int) (σ : mj_S) : Prop := mj_P mjm_L mjm_Ms d mjmo29 ((Option.none : Option Jvm.ClassFile.FieldType)) Q 157 [some (.inr (.inl 0)), some (.inl y1), some (.inl y2), some (.inl y3), some (.inl y4), some (.inl y5), none, none] [] σ
def qh_m29_130 (d : Nat) (Q : mj_Q) (y1 y2 y3 y4 : Int) (σ : mj_S) : Prop := mj_P mjm_L mjm_Ms d mjmo29 ((Option.none : Option Jvm.ClassFile.FieldType)) Q 130 [some (.inr (.inl 0)), some (.inl y1), some (.inl y2), some (.inl y3), some (.inl y4), none, none, none] [] σ
def qh_m29_203 (d : Nat) (Q : mj_Q) (y1 y2 y3 y4 y5 y6 : Int) (σ : mj_S) : Prop := mj_P mjm_L mjm_Ms d mjmo29 ((Option.none : Option Jvm.ClassFile.FieldType)) Q 203 [some (.inr (.inl 0)), some (.inl y1), some (.inl y2), some (.inl y3), some (.inl y4), some (.inl y5), some (.inl y6), none] [] σ
def qh_m29_144 (d : Nat) (Q : mj_Q) (y1 y2 y3 y4 : Int) (σ : mj_S) : Prop := mj_P mjm_L mjm_Ms d mjmo29 ((Option.none : Option Jvm.ClassFile.FieldType)) Q 144 [some (.inr (.inl 0)), some (.inl y1), some (.inl y2), some (.inl y3), some (.inl y4), none, none, none] [] σ
def qh_m29_154 (d : Nat) (Q : mj_Q) (y1 y2 y3 y4 : Int) (σ : mj_S) : Prop := mj_P mjm_L mjm_Ms d mjmo29 ((Option.none : Option Jvm.ClassFile.FieldType)) Q 154 [some (.inr (.inl 0)), some (.inl y1), some (.inl y2), some (.inl y3), some (.inl y4), none, none, none] [] σ
set_option maxRecDepth 20000 in
theorem qw_m29_33 {d : Nat} {Q : mj_Q} {y1 : Int} {σ : mj_S} (h : (536870912 ≤ y1 → mj_B mjm_L mjm_Ms (d + 1) 7 [.inr (.inl 0), .inl y1] σ (fun r σ1 => ∃ v2, r = some (.inl v2) ∧ mj_r (v2 - 1) ∧ ((v2 - 1) < 0 → ∀ σ3, σ3 = z_sp σ1 1 → Q none σ3) ∧ (0 ≤ (v2 - 1) → z_pr y1 ∧ (268435456 ≤ (z_cd (σ1 4) y1) ∧ (z_cd (σ1 4) y1) < 536870912 → z_pr y1 ∧ mj_r ((z_cd (σ1 4) y1) - 268435456) ∧ z_pr y1 ∧ qh_m29_87 (d + 1) Q y1 (v2 - 1) ((z_cd (σ1 4) y1) - 268435456) (z_cd (σ1 5) y1) σ1) ∧ (¬ (268435456 ≤ (z_cd (σ1 4) y1) ∧ (z_cd (σ1 4) y1) < 536870912) → ∀ σ4, σ4 = z_sp σ1 1 → Q none σ4)))) ∧ (¬ (536870912 ≤ y1) → Q none σ)) : qh_m29_33 (d + 1) Q y1 σ := by
  show mj_P mjm_L mjm_Ms (d + 1) mjmo29 ((Option.none : Option Jvm.ClassFile.FieldType)) Q 33 [some (.inr (.inl 0)), some (.inl y1), none, none, none, none, none, none] [] σ
  refine mr_iload (pc' := 34) rfl rfl rfl ?_
  refine mr_call (t := []) (pc' := 37) rfl [.inl y1] rfl rfl rfl trivial (Nat.le_of_ble_eq_true rfl) (s_m3  ?_)
  refine mr_if_ne (pc' := 40) rfl rfl (fun c => ?_) (fun c => ?_)
  · replace h := h.1 (bo_1 c)
    refine mr_aload (pc' := 42) rfl rfl rfl ?_
    refine mr_iload (pc' := 43) rfl rfl rfl ?_
    refine mr_call (t := [(9, 0)]) (pc' := 46) rfl [.inr (.inl 0), .inl y1] rfl rfl rfl (mj_recvV rfl) (Nat.le_of_ble_eq_true rfl) (mj_B_mono _ _ _ _ _ _ (fun r σ1 h => ?_) h)
    obtain ⟨v2, rfl, h⟩ := h
    refine mr_const (pc' := 47) rfl rfl (by unfold mj_r; decide) ?_
    obtain ⟨h0, h⟩ := h
    refine mr_isub (pc' := 48) rfl rfl h0 ?_
    refine mr_istore (pc' := 49) rfl rfl trivial (Nat.le_of_ble_eq_true rfl) rfl ?_
    refine mr_iload (pc' := 50) rfl rfl rfl ?_
    refine mr_if_lt (pc' := 53) rfl rfl (fun c => ?_) (fun c => ?_)
    · replace h := h.1 c
      refine mr_aload (pc' := 65) rfl rfl rfl ?_
      refine mr_const (pc' := 66) rfl rfl (by unfold mj_r; decide) ?_
      refine mr_call (t := [(9, 0)]) (pc' := 69) rfl [.inr (.inl 0), .inl 1] rfl rfl rfl (mj_recvV rfl) (Nat.le_of_ble_eq_true rfl) (s_m2  (fun σ3 e9 => ?_))
      replace h := h σ3 e9
      refine mr_pop (pc' := 70) rfl rfl trivial ?_
      exact mr_ret rfl rfl h
    · replace h := h.2 c
      refine mr_aload (pc' := 54) rfl rfl rfl ?_
      refine mr_iload (pc' := 55) rfl rfl rfl ?_
      obtain ⟨h0, h⟩ := h
      refine mr_call (t := [(9, 0)]) (pc' := 58) rfl [.inr (.inl 0), .inl y1] rfl rfl rfl (mj_recvV rfl) (Nat.le_of_ble_eq_true rfl) (s_m5 h0 ?_)
      refine mr_call (t := []) (pc' := 61) rfl [.inl (z_cd (σ1 4) y1)] rfl rfl rfl trivial (Nat.le_of_ble_eq_true rfl) (s_m4  ?_)
      refine mr_if_ne (pc' := 64) rfl rfl (fun c => ?_) (fun c => ?_)
      · replace h := h.1 (bo_1 c)
        refine mr_aload (pc' := 72) rfl rfl rfl ?_
        refine mr_iload (pc' := 73) rfl rfl rfl ?_
        obtain ⟨h0, h⟩ := h
        refine mr_call (t := [(9, 0)]) (pc' := 76) rfl [.inr (.inl 0), .inl y1] rfl rfl rfl (mj_recvV rfl) (Nat.le_of_ble_eq_true rfl) (s_m5 h0 ?_)
        refine mr_const (pc' := 78) rfl rfl (by unfold mj_r; decide) ?_
        obtain ⟨h0, h⟩ := h
        refine mr_isub (pc' := 79) rfl rfl h0 ?_
        refine mr_istore (pc' := 80) rfl rfl trivial (Nat.le_of_ble_eq_true rfl) rfl ?_
        refine mr_aload (pc' := 81) rfl rfl rfl ?_
        refine mr_iload (pc' := 82) rfl rfl rfl ?_
        obtain ⟨h0, h⟩ := h
        refine mr_call (t := [(9, 0)]) (pc' := 85) rfl [.inr (.inl 0), .inl y1] rfl rfl rfl (mj_recvV rfl) (Nat.le_of_ble_eq_true rfl) (s_m6 h0 ?_)
        refine mr_istore (pc' := 87) rfl rfl trivial (Nat.le_of_ble_eq_true rfl) rfl ?_
        exact mj_W_ls (mj_B_mono _) (mj_lev_of _ _ (by simp [mj_levb])) h
      · replace h := h.2 (bo_0 c)
        refine mr_aload (pc' := 65) rfl rfl rfl ?_
        refine mr_const (pc' := 66) rfl rfl (by unfold mj_r; decide) ?_
        refine mr_call (t := [(9, 0)]) (pc' := 69) rfl [.inr (.inl 0), .inl 1] rfl rfl rfl (mj_recvV rfl) (Nat.le_of_ble_eq_true rfl) (s_m2  (fun σ4 e9 => ?_))
        replace h := h σ4 e9
        refine mr_pop (pc' := 70) rfl rfl trivial ?_
        exact mr_ret rfl rfl h
  · replace h := h.2 (bo_0 c)
    exact mr_ret rfl rfl h
set_option maxRecDepth 20000 in
theorem qw_m29_87 {d : Nat} {Q : mj_Q} {y1 y2 y3 y4 : Int} {σ : mj_S} (h : (¬ y3 = 2 → qh_m29_97 (d + 1) Q y1 y2 y3 y4 σ) ∧ (y3 = 2 → (¬ y2 = 1 → qh_m29_150 (d + 1) Q y1 y2 y3 y4 σ) ∧ (y2 = 1 → qh_m29_97 (d + 1) Q y1 y2 y3 y4 σ))) : qh_m29_87 (d + 1) Q y1 y2 y3 y4 σ := by
  show mj_P mjm_L mjm_Ms (d + 1) mjmo29 ((Option.none : Option Jvm.ClassFile.FieldType)) Q 87 [some (.inr (.inl 0)), some (.inl y1), some (.inl y2), some (.inl y3), some (.inl y4), none, none, none] [] σ
  refine mr_iload (pc' := 88) rfl rfl rfl ?_
  refine mr_const (pc' := 89) rfl rfl (by unfold mj_r; decide) ?_
  refine mr_ic_ne (pc' := 92) rfl rfl (fun c => ?_) (fun c => ?_)
  · replace h := h.1 c
    exact mj_W_ls (mj_B_mono _) (mj_lev_of _ _ (by simp [mj_levb])) h
  · replace h := h.2 c
    refine mr_iload (pc' := 93) rfl rfl rfl ?_
    refine mr_const (pc' := 94) rfl rfl (by unfold mj_r; decide) ?_
    refine mr_ic_ne (pc' := 97) rfl rfl (fun c => ?_) (fun c => ?_)
    · replace h := h.1 c
      exact mj_W_ls (mj_B_mono _) (mj_lev_of _ _ (by simp [mj_levb])) h
    · replace h := h.2 c
      exact mj_W_ls (mj_B_mono _) (mj_lev_of _ _ (by simp [mj_levb])) h
set_option maxRecDepth 20000 in
theorem qw_m29_97 {d : Nat} {Q : mj_Q} {y1 y2 y3 y4 : Int} {σ : mj_S} (h : (¬ y3 = 3 → qh_m29_107 (d + 1) Q y1 y2 y3 y4 σ) ∧ (y3 = 3 → (¬ y2 = 3 → qh_m29_150 (d + 1) Q y1 y2 y3 y4 σ) ∧ (y2 = 3 → qh_m29_107 (d + 1) Q y1 y2 y3 y4 σ))) : qh_m29_97 (d + 1) Q y1 y2 y3 y4 σ := by
  show mj_P mjm_L mjm_Ms (d + 1) mjmo29 ((Option.none : Option Jvm.ClassFile.FieldType)) Q 97 [some (.inr (.inl 0)), some (.inl y1), some (.inl y2), some (.inl y3), some (.inl y4), none, none, none] [] σ
  refine mr_iload (pc' := 98) rfl rfl rfl ?_
  refine mr_const (pc' := 99) rfl rfl (by unfold mj_r; decide) ?_
  refine mr_ic_ne (pc' := 102) rfl rfl (fun c => ?_) (fun c => ?_)
  · replace h := h.1 c
    exact mj_W_ls (mj_B_mono _) (mj_lev_of _ _ (by simp [mj_levb])) h
  · replace h := h.2 c
    refine mr_iload (pc' := 103) rfl rfl rfl ?_
    refine mr_const (pc' := 104) rfl rfl (by unfold mj_r; decide) ?_
    refine mr_ic_ne (pc' := 107) rfl rfl (fun c => ?_) (fun c => ?_)
    · replace h := h.1 c
      exact mj_W_ls (mj_B_mono _) (mj_lev_of _ _ (by simp [mj_levb])) h
    · replace h := h.2 c
      exact mj_W_ls (mj_B_mono _) (mj_lev_of _ _ (by simp [mj_levb])) h
set_option maxRecDepth 20000 in
theorem qw_m29_150 {d : Nat} {Q : mj_Q} {y1 y2 y3 y4 : Int} {σ : mj_S} (h : qh_m29_157 (d + 1) Q y1 y2 y3 y4 1 σ) : qh_m29_150 (d + 1) Q y1 y2 y3 y4 σ := by
  show mj_P mjm_L mjm_Ms (d + 1) mjmo29 ((Option.none : Option Jvm.ClassFile.FieldType)) Q 150 [some (.inr (.inl 0)), some (.inl y1), some (.inl y2), some (.inl y3), some (.inl y4), none, none, none] [] σ
  refine mr_const (pc' := 151) rfl rfl (by unfold mj_r; decide) ?_
  refine mr_goto rfl ?_
  refine mr_istore (pc' := 157) rfl rfl trivial (Nat.le_of_ble_eq_true rfl) rfl ?_
  exact mj_W_ls (mj_B_mono _) (mj_lev_of _ _ (by simp [mj_levb])) h
set_option maxRecDepth 20000 in
theorem qw_m29_107 {d : Nat} {Q : mj_Q} {y1 y2 y3 y4 : Int} {σ : mj_S} (h : (¬ y3 = 4 → qh_m29_130 (d + 1) Q y1 y2 y3 y4 σ) ∧ (y3 = 4 → (¬ y2 = 2 → qh_m29_150 (d + 1) Q y1 y2 y3 y4 σ) ∧ (y2 = 2 → z_pr y4 ∧ mj_B mjm_L mjm_Ms (d + 1) 32 [.inr (.inl 0), .inl (z_cd (σ 4) y4)] σ (fun r σ1 => ∃ v2, r = some (.inl v2) ∧ (v2 = 0 → qh_m29_150 (d + 1) Q y1 y2 y3 y4 σ1) ∧ (¬ v2 = 0 → qh_m29_130 (d + 1) Q y1 y2 y3 y4 σ1))))) : qh_m29_107 (d + 1) Q y1 y2 y3 y4 σ := by
  show mj_P mjm_L mjm_Ms (d + 1) mjmo29 ((Option.none : Option Jvm.ClassFile.FieldType)) Q 107 [some (.inr (.inl 0)), some (.inl y1), some (.inl y2), some (.inl y3), some (.inl y4), none, none, none] [] σ
  refine mr_iload (pc' := 108) rfl rfl rfl ?_
  refine mr_const (pc' := 109) rfl rfl (by unfold mj_r; decide) ?_
  refine mr_ic_ne (pc' := 112) rfl rfl (fun c => ?_) (fun c => ?_)
  · replace h := h.1 c
    exact mj_W_ls (mj_B_mono _) (mj_lev_of _ _ (by simp [mj_levb])) h
  · replace h := h.2 c
    refine mr_iload (pc' := 113) rfl rfl rfl ?_
    refine mr_const (pc' := 114) rfl rfl (by unfold mj_r; decide) ?_
    refine mr_ic_ne (pc' := 117) rfl rfl (fun c => ?_) (fun c => ?_)
    · replace h := h.1 c
      exact mj_W_ls (mj_B_mono _) (mj_lev_of _ _ (by simp [mj_levb])) h
    · replace h := h.2 c
      refine mr_aload (pc' := 118) rfl rfl rfl ?_
      refine mr_aload (pc' := 119) rfl rfl rfl ?_
      refine mr_iload (pc' := 121) rfl rfl rfl ?_
      obtain ⟨h0, h⟩ := h
      refine mr_call (t := [(9, 0)]) (pc' := 124) rfl [.inr (.inl 0), .inl y4] rfl rfl rfl (mj_recvV rfl) (Nat.le_of_ble_eq_true rfl) (s_m5 h0 ?_)
      refine mr_call (t := [(9, 0)]) (pc' := 127) rfl [.inr (.inl 0), .inl (z_cd (σ 4) y4)] rfl rfl rfl (mj_recvV rfl) (Nat.le_of_ble_eq_true rfl) (mj_B_mono _ _ _ _ _ _ (fun r σ1 h => ?_) h)
      obtain ⟨v2, rfl, h⟩ := h
      refine mr_if_eq (pc' := 130) rfl rfl (fun c => ?_) (fun c => ?_)
      · replace h := h.1 c
        exact mj_W_ls (mj_B_mono _) (mj_lev_of _ _ (by simp [mj_levb])) h
      · replace h := h.2 c
        exact mj_W_ls (mj_B_mono _) (mj_lev_of _ _ (by simp [mj_levb])) h
set_option maxRecDepth 20000 in
theorem qw_m29_157 {d : Nat} {Q : mj_Q} {y1 y2 y3 y4 y5 : Int} {σ : mj_S} (h : (y3 < 10 → qh_m29_203 (d + 1) Q y1 y2 y3 y4 y5 1 σ) ∧ (10 ≤ y3 → (20 < y3 → qh_m29_203 (d + 1) Q y1 y2 y3 y4 y5 1 σ) ∧ (y3 ≤ 20 → (y3 = 10 → (¬ y2 = 2 → qh_m29_203 (d + 1) Q y1 y2 y3 y4 y5 0 σ) ∧ (y2 = 2 → qh_m29_203 (d + 1) Q y1 y2 y3 y4 y5 1 σ)) ∧ (¬ y3 = 10 → (y3 < 16 → (¬ y2 = 1 → qh_m29_203 (d + 1) Q y1 y2 y3 y4 y5 0 σ) ∧ (y2 = 1 → qh_m29_203 (d + 1) Q y1 y2 y3 y4 y5 1 σ)) ∧ (16 ≤ y3 → (20 ≤ y3 → (¬ y2 = 1 → qh_m29_203 (d + 1) Q y1 y2 y3 y4 y5 0 σ) ∧ (y2 = 1 → qh_m29_203 (d + 1) Q y1 y2 y3 y4 y5 1 σ)) ∧ (y3 < 20 → (¬ y2 = 2 → qh_m29_203 (d + 1) Q y1 y2 y3 y4 y5 0 σ) ∧ (y2 = 2 → qh_m29_203 (d + 1) Q y1 y2 y3 y4 y5 1 σ))))))) : qh_m29_157 (d + 1) Q y1 y2 y3 y4 y5 σ := by
  show mj_P mjm_L mjm_Ms (d + 1) mjmo29 ((Option.none : Option Jvm.ClassFile.FieldType)) Q 157 [some (.inr (.inl 0)), some (.inl y1), some (.inl y2), some (.inl y3), some (.inl y4), some (.inl y5), none, none] [] σ
  refine mr_iload (pc' := 158) rfl rfl rfl ?_
  refine mr_const (pc' := 160) rfl rfl (by unfold mj_r; decide) ?_
  refine mr_ic_lt (pc' := 163) rfl rfl (fun c => ?_) (fun c => ?_)
  · replace h := h.1 c
    refine mr_const (pc' := 197) rfl rfl (by unfold mj_r; decide) ?_
    refine mr_goto rfl ?_
    refine mr_istore (pc' := 203) rfl rfl trivial (Nat.le_of_ble_eq_true rfl) rfl ?_
    exact mj_W_ls (mj_B_mono _) (mj_lev_of _ _ (by simp [mj_levb])) h
  · replace h := h.2 c
    refine mr_iload (pc' := 164) rfl rfl rfl ?_
    refine mr_const (pc' := 166) rfl rfl (by unfold mj_r; decide) ?_
    refine mr_ic_gt (pc' := 169) rfl rfl (fun c => ?_) (fun c => ?_)
    · replace h := h.1 c
      refine mr_const (pc' := 197) rfl rfl (by unfold mj_r; decide) ?_
      refine mr_goto rfl ?_
      refine mr_istore (pc' := 203) rfl rfl trivial (Nat.le_of_ble_eq_true rfl) rfl ?_
      exact mj_W_ls (mj_B_mono _) (mj_lev_of _ _ (by simp [mj_levb])) h
    · replace h := h.2 c
      refine mr_iload (pc' := 170) rfl rfl rfl ?_
      refine mr_iload (pc' := 171) rfl rfl rfl ?_
      refine mr_const (pc' := 173) rfl rfl (by unfold mj_r; decide) ?_
      refine mr_ic_eq (pc' := 176) rfl rfl (fun c => ?_) (fun c => ?_)
      · replace h := h.1 c
        refine mr_const (pc' := 189) rfl rfl (by unfold mj_r; decide) ?_
        refine mr_goto rfl ?_
        refine mr_ic_ne (pc' := 196) rfl rfl (fun c => ?_) (fun c => ?_)
        · replace h := h.1 c
          refine mr_const (pc' := 201) rfl rfl (by unfold mj_r; decide) ?_
          refine mr_istore (pc' := 203) rfl rfl trivial (Nat.le_of_ble_eq_true rfl) rfl ?_
          exact mj_W_ls (mj_B_mono _) (mj_lev_of _ _ (by simp [mj_levb])) h
        · replace h := h.2 c
          refine mr_const (pc' := 197) rfl rfl (by unfold mj_r; decide) ?_
          refine mr_goto rfl ?_
          refine mr_istore (pc' := 203) rfl rfl trivial (Nat.le_of_ble_eq_true rfl) rfl ?_
          exact mj_W_ls (mj_B_mono _) (mj_lev_of _ _ (by simp [mj_levb])) h
      · replace h := h.2 c
        refine mr_iload (pc' := 177) rfl rfl rfl ?_
        refine mr_const (pc' := 179) rfl rfl (by unfold mj_r; decide) ?_
        refine mr_ic_lt (pc' := 182) rfl rfl (fun c => ?_) (fun c => ?_)
        · replace h := h.1 c
          refine mr_const (pc' := 193) rfl rfl (by unfold mj_r; decide) ?_
          refine mr_ic_ne (pc' := 196) rfl rfl (fun c => ?_) (fun c => ?_)
          · replace h := h.1 c
            refine mr_const (pc' := 201) rfl rfl (by unfold mj_r; decide) ?_
            refine mr_istore (pc' := 203) rfl rfl trivial (Nat.le_of_ble_eq_true rfl) rfl ?_
            exact mj_W_ls (mj_B_mono _) (mj_lev_of _ _ (by simp [mj_levb])) h
          · replace h := h.2 c
            refine mr_const (pc' := 197) rfl rfl (by unfold mj_r; decide) ?_
            refine mr_goto rfl ?_
            refine mr_istore (pc' := 203) rfl rfl trivial (Nat.le_of_ble_eq_true rfl) rfl ?_
            exact mj_W_ls (mj_B_mono _) (mj_lev_of _ _ (by simp [mj_levb])) h
        · replace h := h.2 c
          refine mr_iload (pc' := 183) rfl rfl rfl ?_
          refine mr_const (pc' := 185) rfl rfl (by unfold mj_r; decide) ?_
          refine mr_ic_ge (pc' := 188) rfl rfl (fun c => ?_) (fun c => ?_)
          · replace h := h.1 c
            refine mr_const (pc' := 193) rfl rfl (by unfold mj_r; decide) ?_
            refine mr_ic_ne (pc' := 196) rfl rfl (fun c => ?_) (fun c => ?_)
            · replace h := h.1 c
              refine mr_const (pc' := 201) rfl rfl (by unfold mj_r; decide) ?_
              refine mr_istore (pc' := 203) rfl rfl trivial (Nat.le_of_ble_eq_true rfl) rfl ?_
              exact mj_W_ls (mj_B_mono _) (mj_lev_of _ _ (by simp [mj_levb])) h
            · replace h := h.2 c
              refine mr_const (pc' := 197) rfl rfl (by unfold mj_r; decide) ?_
              refine mr_goto rfl ?_
              refine mr_istore (pc' := 203) rfl rfl trivial (Nat.le_of_ble_eq_true rfl) rfl ?_
              exact mj_W_ls (mj_B_mono _) (mj_lev_of _ _ (by simp [mj_levb])) h
          · replace h := h.2 c
            refine mr_const (pc' := 189) rfl rfl (by unfold mj_r; decide) ?_
            refine mr_goto rfl ?_
            refine mr_ic_ne (pc' := 196) rfl rfl (fun c => ?_) (fun c => ?_)
            · replace h := h.1 c
              refine mr_const (pc' := 201) rfl rfl (by unfold mj_r; decide) ?_
              refine mr_istore (pc' := 203) rfl rfl trivial (Nat.le_of_ble_eq_true rfl) rfl ?_
              exact mj_W_ls (mj_B_mono _) (mj_lev_of _ _ (by simp [mj_levb])) h
            · replace h := h.2 c
              refine mr_const (pc' := 197) rfl rfl (by unfold mj_r; decide) ?_
              refine mr_goto rfl ?_
              refine mr_istore (pc' := 203) rfl rfl trivial (Nat.le_of_ble_eq_true rfl) rfl ?_
              exact mj_W_ls (mj_B_mono _) (mj_lev_of _ _ (by simp [mj_levb])) h
set_option maxRecDepth 20000 in
theorem qw_m29_130 {d : Nat} {Q : mj_Q} {y1 y2 y3 y4 : Int} {σ : mj_S} (h : (¬ y3 = 5 → qh_m29_144 (d + 1) Q y1 y2 y3 y4 σ) ∧ (y3 = 5 → mj_B mjm_L mjm_Ms (d + 1) 30 [.inr (.inl 0), .inl y4] σ (fun r σ1 => ∃ v2, r = some (.inl v2) ∧ (v2 = 0 → qh_m29_150 (d + 1) Q y1 y2 y3 y4 σ1) ∧ (¬ v2 = 0 → qh_m29_144 (d + 1) Q y1 y2 y3 y4 σ1)))) : qh_m29_130 (d + 1) Q y1 y2 y3 y4 σ := by
  show mj_P mjm_L mjm_Ms (d + 1) mjmo29 ((Option.none : Option Jvm.ClassFile.FieldType)) Q 130 [some (.inr (.inl 0)), some (.inl y1), some (.inl y2), some (.inl y3), some (.inl y4), none, none, none] [] σ
  refine mr_iload (pc' := 131) rfl rfl rfl ?_
  refine mr_const (pc' := 132) rfl rfl (by unfold mj_r; decide) ?_
  refine mr_ic_ne (pc' := 135) rfl rfl (fun c => ?_) (fun c => ?_)
  · replace h := h.1 c
    exact mj_W_ls (mj_B_mono _) (mj_lev_of _ _ (by simp [mj_levb])) h
  · replace h := h.2 c
    refine mr_aload (pc' := 136) rfl rfl rfl ?_
    refine mr_iload (pc' := 138) rfl rfl rfl ?_
    refine mr_call (t := [(9, 0)]) (pc' := 141) rfl [.inr (.inl 0), .inl y4] rfl rfl rfl (mj_recvV rfl) (Nat.le_of_ble_eq_true rfl) (mj_B_mono _ _ _ _ _ _ (fun r σ1 h => ?_) h)
    obtain ⟨v2, rfl, h⟩ := h
    refine mr_if_eq (pc' := 144) rfl rfl (fun c => ?_) (fun c => ?_)
    · replace h := h.1 c
      exact mj_W_ls (mj_B_mono _) (mj_lev_of _ _ (by simp [mj_levb])) h
    · replace h := h.2 c
      exact mj_W_ls (mj_B_mono _) (mj_lev_of _ _ (by simp [mj_levb])) h
set_option maxRecDepth 20000 in
theorem qw_m29_203 {d : Nat} {Q : mj_Q} {y1 y2 y3 y4 y5 y6 : Int} {σ : mj_S} (h : (¬ y5 = 0 → (y5 = 0 → ∀ σ1, σ1 = z_sp σ 4 → Q none σ1) ∧ (¬ y5 = 0 → ∀ σ2, σ2 = z_sp σ 1 → Q none σ2)) ∧ (y5 = 0 → (¬ y6 = 0 → (¬ y3 = 2 → (¬ y3 = 4 → (¬ y3 = 5 → 0 ≤ σ 0 26 ∧ σ 0 26 < 3000 ∧ mj_fit .boolean 0 ∧ ∀ σ3, σ3 = z_la σ 2 y4 0 0 → Q none σ3) ∧ (y3 = 5 → 0 ≤ σ 0 26 ∧ σ 0 26 < 3000 ∧ mj_fit .boolean 0 ∧ ∀ σ4, σ4 = z_la σ 2 y4 2 0 → Q none σ4)) ∧ (y3 = 4 → z_pr y4 ∧ mj_B mjm_L mjm_Ms (d + 1) 7 [.inr (.inl 0), .inl (z_cd (σ 4) y4)] σ (fun r σ5 => ∃ v6, r = some (.inl v6) ∧ 0 ≤ σ5 0 26 ∧ σ5 0 26 < 3000 ∧ mj_fit .boolean 0 ∧ ∀ σ7, σ7 = z_la σ5 18 268435456 v6 0 → mj_B mjm_L mjm_Ms (d + 1) 8 [.inr (.inl 0), .inl y4, .inl 1] σ7 (fun r σ8 => ∃ v9, r = some (.inl v9) ∧ 0 ≤ σ8 0 26 ∧ σ8 0 26 < 3000 ∧ mj_fit .boolean 0 ∧ ∀ σ10, σ10 = z_la σ8 16 v9 0 0 → z_pr y4 ∧ 0 ≤ σ10 0 26 ∧ σ10 0 26 < 3000 ∧ mj_fit .boolean 0 ∧ ∀ σ11, σ11 = z_la σ10 17 (z_cd (σ10 4) y4) 0 0 → z_pr y4 ∧ 0 ≤ σ11 0 26 ∧ σ11 0 26 < 3000 ∧ mj_fit .boolean 0 ∧ ∀ σ12, σ12 = z_la σ11 2 (z_cd (σ11 4) y4) 1 0 → Q none σ12)))) ∧ (y3 = 2 → Q none σ)) ∧ (y6 = 0 → (y5 = 0 → ∀ σ13, σ13 = z_sp σ 4 → Q none σ13) ∧ (¬ y5 = 0 → ∀ σ14, σ14 = z_sp σ 1 → Q none σ14)))) : qh_m29_203 (d + 1) Q y1 y2 y3 y4 y5 y6 σ := by
  show mj_P mjm_L mjm_Ms (d + 1) mjmo29 ((Option.none : Option Jvm.ClassFile.FieldType)) Q 203 [some (.inr (.inl 0)), some (.inl y1), some (.inl y2), some (.inl y3), some (.inl y4), some (.inl y5), some (.inl y6), none] [] σ
  refine mr_iload (pc' := 205) rfl rfl rfl ?_
  refine mr_if_ne (pc' := 208) rfl rfl (fun c => ?_) (fun c => ?_)
  · replace h := h.1 c
    refine mr_aload (pc' := 214) rfl rfl rfl ?_
    refine mr_iload (pc' := 216) rfl rfl rfl ?_
    refine mr_if_eq (pc' := 219) rfl rfl (fun c => ?_) (fun c => ?_)
    · replace h := h.1 c
      refine mr_const (pc' := 224) rfl rfl (by unfold mj_r; decide) ?_
      refine mr_call (t := [(9, 0)]) (pc' := 227) rfl [.inr (.inl 0), .inl 4] rfl rfl rfl (mj_recvV rfl) (Nat.le_of_ble_eq_true rfl) (s_m2  (fun σ1 e9 => ?_))
      replace h := h σ1 e9
      refine mr_pop (pc' := 228) rfl rfl trivial ?_
      exact mr_ret rfl rfl h
    · replace h := h.2 c
      refine mr_const (pc' := 220) rfl rfl (by unfold mj_r; decide) ?_
      refine mr_goto rfl ?_
      refine mr_call (t := [(9, 0)]) (pc' := 227) rfl [.inr (.inl 0), .inl 1] rfl rfl rfl (mj_recvV rfl) (Nat.le_of_ble_eq_true rfl) (s_m2  (fun σ2 e9 => ?_))
      replace h := h σ2 e9
      refine mr_pop (pc' := 228) rfl rfl trivial ?_
      exact mr_ret rfl rfl h
  · replace h := h.2 c
    refine mr_iload (pc' := 210) rfl rfl rfl ?_
    refine mr_if_ne (pc' := 213) rfl rfl (fun c => ?_) (fun c => ?_)
    · replace h := h.1 c
      refine mr_iload (pc' := 230) rfl rfl rfl ?_
      refine mr_const (pc' := 231) rfl rfl (by unfold mj_r; decide) ?_
      refine mr_ic_ne (pc' := 234) rfl rfl (fun c => ?_) (fun c => ?_)
      · replace h := h.1 c
        refine mr_iload (pc' := 236) rfl rfl rfl ?_
        refine mr_const (pc' := 237) rfl rfl (by unfold mj_r; decide) ?_
        refine mr_ic_ne (pc' := 240) rfl rfl (fun c => ?_) (fun c => ?_)
        · replace h := h.1 c
          refine mr_aload (pc' := 309) rfl rfl rfl ?_
          refine mr_const (pc' := 310) rfl rfl (by unfold mj_r; decide) ?_
          refine mr_iload (pc' := 312) rfl rfl rfl ?_
          refine mr_iload (pc' := 313) rfl rfl rfl ?_
          refine mr_const (pc' := 314) rfl rfl (by unfold mj_r; decide) ?_
          refine mr_ic_ne (pc' := 317) rfl rfl (fun c => ?_) (fun c => ?_)
          · replace h := h.1 c
            refine mr_const (pc' := 322) rfl rfl (by unfold mj_r; decide) ?_
            refine mr_const (pc' := 323) rfl rfl (by unfold mj_r; decide) ?_
            obtain ⟨h0, h1, h2, h⟩ := h
            refine mr_call (t := [(9, 0)]) (pc' := 326) rfl [.inr (.inl 0), .inl 2, .inl y4, .inl 0, .inl 0] rfl rfl rfl (mj_recvV rfl) (Nat.le_of_ble_eq_true rfl) (s_m24 h0 h1 h2 (fun σ3 e9 => ?_))
            replace h := h σ3 e9
            exact mr_ret rfl rfl h
          · replace h := h.2 c
            refine mr_const (pc' := 318) rfl rfl (by unfold mj_r; decide) ?_
            refine mr_goto rfl ?_
            refine mr_const (pc' := 323) rfl rfl (by unfold mj_r; decide) ?_
            obtain ⟨h0, h1, h2, h⟩ := h
            refine mr_call (t := [(9, 0)]) (pc' := 326) rfl [.inr (.inl 0), .inl 2, .inl y4, .inl 2, .inl 0] rfl rfl rfl (mj_recvV rfl) (Nat.le_of_ble_eq_true rfl) (s_m24 h0 h1 h2 (fun σ4 e9 => ?_))
            replace h := h σ4 e9
            exact mr_ret rfl rfl h
        · replace h := h.2 c
          refine mr_aload (pc' := 241) rfl rfl rfl ?_
          refine mr_aload (pc' := 242) rfl rfl rfl ?_
          refine mr_iload (pc' := 244) rfl rfl rfl ?_
          obtain ⟨h0, h⟩ := h
          refine mr_call (t := [(9, 0)]) (pc' := 247) rfl [.inr (.inl 0), .inl y4] rfl rfl rfl (mj_recvV rfl) (Nat.le_of_ble_eq_true rfl) (s_m5 h0 ?_)
          refine mr_call (t := [(9, 0)]) (pc' := 250) rfl [.inr (.inl 0), .inl (z_cd (σ 4) y4)] rfl rfl rfl (mj_recvV rfl) (Nat.le_of_ble_eq_true rfl) (mj_B_mono _ _ _ _ _ _ (fun r σ5 h => ?_) h)
          obtain ⟨v6, rfl, h⟩ := h
          refine mr_istore (pc' := 252) rfl rfl trivial (Nat.le_of_ble_eq_true rfl) rfl ?_
          refine mr_aload (pc' := 253) rfl rfl rfl ?_
          refine mr_const (pc' := 255) rfl rfl (by unfold mj_r; decide) ?_
          refine mr_const (pc' := 257) rfl rfl (by unfold mj_r; decide) ?_
          refine mr_iload (pc' := 259) rfl rfl rfl ?_
          refine mr_const (pc' := 260) rfl rfl (by unfold mj_r; decide) ?_
          obtain ⟨h0, h1, h2, h⟩ := h
          refine mr_call (t := [(9, 0)]) (pc' := 263) rfl [.inr (.inl 0), .inl 18, .inl 268435456, .inl v6, .inl 0] rfl rfl rfl (mj_recvV rfl) (Nat.le_of_ble_eq_true rfl) (s_m24 h0 h1 h2 (fun σ7 e9 => ?_))
          replace h := h σ7 e9
          refine mr_aload (pc' := 264) rfl rfl rfl ?_
          refine mr_const (pc' := 266) rfl rfl (by unfold mj_r; decide) ?_
          refine mr_aload (pc' := 267) rfl rfl rfl ?_
          refine mr_iload (pc' := 269) rfl rfl rfl ?_
          refine mr_const (pc' := 270) rfl rfl (by unfold mj_r; decide) ?_
          refine mr_call (t := [(9, 0)]) (pc' := 273) rfl [.inr (.inl 0), .inl y4, .inl 1] rfl rfl rfl (mj_recvV rfl) (Nat.le_of_ble_eq_true rfl) (mj_B_mono _ _ _ _ _ _ (fun r σ8 h => ?_) h)
          obtain ⟨v9, rfl, h⟩ := h
          refine mr_const (pc' := 274) rfl rfl (by unfold mj_r; decide) ?_
          refine mr_const (pc' := 275) rfl rfl (by unfold mj_r; decide) ?_
          obtain ⟨h0, h1, h2, h⟩ := h
          refine mr_call (t := [(9, 0)]) (pc' := 278) rfl [.inr (.inl 0), .inl 16, .inl v9, .inl 0, .inl 0] rfl rfl rfl (mj_recvV rfl) (Nat.le_of_ble_eq_true rfl) (s_m24 h0 h1 h2 (fun σ10 e9 => ?_))
          replace h := h σ10 e9
          refine mr_aload (pc' := 279) rfl rfl rfl ?_
          refine mr_const (pc' := 281) rfl rfl (by unfold mj_r; decide) ?_
          refine mr_aload (pc' := 282) rfl rfl rfl ?_
          refine mr_iload (pc' := 284) rfl rfl rfl ?_
          obtain ⟨h0, h⟩ := h
          refine mr_call (t := [(9, 0)]) (pc' := 287) rfl [.inr (.inl 0), .inl y4] rfl rfl rfl (mj_recvV rfl) (Nat.le_of_ble_eq_true rfl) (s_m5 h0 ?_)
          refine mr_const (pc' := 288) rfl rfl (by unfold mj_r; decide) ?_
          refine mr_const (pc' := 289) rfl rfl (by unfold mj_r; decide) ?_
          obtain ⟨h0, h1, h2, h⟩ := h
          refine mr_call (t := [(9, 0)]) (pc' := 292) rfl [.inr (.inl 0), .inl 17, .inl (z_cd (σ10 4) y4), .inl 0, .inl 0] rfl rfl rfl (mj_recvV rfl) (Nat.le_of_ble_eq_true rfl) (s_m24 h0 h1 h2 (fun σ11 e9 => ?_))
          replace h := h σ11 e9
          refine mr_aload (pc' := 293) rfl rfl rfl ?_
          refine mr_const (pc' := 294) rfl rfl (by unfold mj_r; decide) ?_
          refine mr_aload (pc' := 295) rfl rfl rfl ?_
          refine mr_iload (pc' := 297) rfl rfl rfl ?_
          obtain ⟨h0, h⟩ := h
          refine mr_call (t := [(9, 0)]) (pc' := 300) rfl [.inr (.inl 0), .inl y4] rfl rfl rfl (mj_recvV rfl) (Nat.le_of_ble_eq_true rfl) (s_m5 h0 ?_)
          refine mr_const (pc' := 301) rfl rfl (by unfold mj_r; decide) ?_
          refine mr_const (pc' := 302) rfl rfl (by unfold mj_r; decide) ?_
          obtain ⟨h0, h1, h2, h⟩ := h
          refine mr_call (t := [(9, 0)]) (pc' := 305) rfl [.inr (.inl 0), .inl 2, .inl (z_cd (σ11 4) y4), .inl 1, .inl 0] rfl rfl rfl (mj_recvV rfl) (Nat.le_of_ble_eq_true rfl) (s_m24 h0 h1 h2 (fun σ12 e9 => ?_))
          replace h := h σ12 e9
          refine mr_goto rfl ?_
          exact mr_ret rfl rfl h
      · replace h := h.2 c
        exact mr_ret rfl rfl h
    · replace h := h.2 c
      refine mr_aload (pc' := 214) rfl rfl rfl ?_
      refine mr_iload (pc' := 216) rfl rfl rfl ?_
      refine mr_if_eq (pc' := 219) rfl rfl (fun c => ?_) (fun c => ?_)
      · replace h := h.1 c
        refine mr_const (pc' := 224) rfl rfl (by unfold mj_r; decide) ?_
        refine mr_call (t := [(9, 0)]) (pc' := 227) rfl [.inr (.inl 0), .inl 4] rfl rfl rfl (mj_recvV rfl) (Nat.le_of_ble_eq_true rfl) (s_m2  (fun σ13 e9 => ?_))
        replace h := h σ13 e9
        refine mr_pop (pc' := 228) rfl rfl trivial ?_
        exact mr_ret rfl rfl h
      · replace h := h.2 c
        refine mr_const (pc' := 220) rfl rfl (by unfold mj_r; decide) ?_
        refine mr_goto rfl ?_
        refine mr_call (t := [(9, 0)]) (pc' := 227) rfl [.inr (.inl 0), .inl 1] rfl rfl rfl (mj_recvV rfl) (Nat.le_of_ble_eq_true rfl) (s_m2  (fun σ14 e9 => ?_))
        replace h := h σ14 e9
        refine mr_pop (pc' := 228) rfl rfl trivial ?_
        exact mr_ret rfl rfl h
set_option maxRecDepth 20000 in
theorem qw_m29_144 {d : Nat} {Q : mj_Q} {y1 y2 y3 y4 : Int} {σ : mj_S} (h : (¬ y3 = 9 → qh_m29_154 (d + 1) Q y1 y2 y3 y4 σ) ∧ (y3 = 9 → qh_m29_150 (d + 1) Q y1 y2 y3 y4 σ)) : qh_m29_144 (d + 1) Q y1 y2 y3 y4 σ := by
  show mj_P mjm_L mjm_Ms (d + 1) mjmo29 ((Option.none : Option Jvm.ClassFile.FieldType)) Q 144 [some (.inr (.inl 0)), some (.inl y1), some (.inl y2), some (.inl y3), some (.inl y4), none, none, none] [] σ
  refine mr_iload (pc' := 145) rfl rfl rfl ?_
  refine mr_const (pc' := 147) rfl rfl (by unfold mj_r; decide) ?_
  refine mr_ic_ne (pc' := 150) rfl rfl (fun c => ?_) (fun c => ?_)
  · replace h := h.1 c
    exact mj_W_ls (mj_B_mono _) (mj_lev_of _ _ (by simp [mj_levb])) h
  · replace h := h.2 c
    exact mj_W_ls (mj_B_mono _) (mj_lev_of _ _ (by simp [mj_levb])) h
set_option maxRecDepth 20000 in
theorem qw_m29_154 {d : Nat} {Q : mj_Q} {y1 y2 y3 y4 : Int} {σ : mj_S} (h : qh_m29_157 (d + 1) Q y1 y2 y3 y4 0 σ) : qh_m29_154 (d + 1) Q y1 y2 y3 y4 σ := by
  show mj_P mjm_L mjm_Ms (d + 1) mjmo29 ((Option.none : Option Jvm.ClassFile.FieldType)) Q 154 [some (.inr (.inl 0)), some (.inl y1), some (.inl y2), some (.inl y3), some (.inl y4), none, none, none] [] σ
  refine mr_const (pc' := 155) rfl rfl (by unfold mj_r; decide) ?_
  refine mr_istore (pc' := 157) rfl rfl trivial (Nat.le_of_ble_eq_true rfl) rfl ?_
  exact mj_W_ls (mj_B_mono _) (mj_lev_of _ _ (by simp [mj_levb])) h
set_option maxRecDepth 20000 in
/-- ListSpeakerModel.one_ -/
theorem wq_m29 {d : Nat} {σ : mj_S} {Q : mj_Q} {x1 : Int} (h : (¬ (268435456 ≤ x1 ∧ x1 < 536870912) → qh_m29_33 (d + 1) Q x1 σ) ∧ (268435456 ≤ x1 ∧ x1 < 536870912 → (x1 = 268435456 → qh_m29_33 (d + 1) Q x1 σ) ∧ (¬ x1 = 268435456 → (x1 = 268435457 → qh_m29_33 (d + 1) Q x1 σ) ∧ (¬ x1 = 268435457 → mj_B mjm_L mjm_Ms (d + 1) 26 [.inr (.inl 0), .inl x1] σ (fun r σ1 => ∃ v2, r = some (.inl v2) ∧ (0 ≤ v2 → qh_m29_33 (d + 1) Q x1 σ1) ∧ (v2 < 0 → ∀ σ3, σ3 = z_sp σ1 2 → qh_m29_33 (d + 1) Q x1 σ3)))))) : mj_B mjm_L mjm_Ms (d + 2) 29 [.inr (.inl 0), .inl x1] σ Q := by
  refine mj_B_of (M := mjmM29) (ls := [some (.inr (.inl 0)), some (.inl x1), none, none, none, none, none, none]) rfl (mj_c1_all rfl) (Nat.le_of_ble_eq_true rfl) rfl ?_
  refine mr_iload (pc' := 1) rfl rfl rfl ?_
  refine mr_call (t := []) (pc' := 4) rfl [.inl x1] rfl rfl rfl trivial (Nat.le_of_ble_eq_true rfl) (s_m4  ?_)
  refine mr_if_eq (pc' := 7) rfl rfl (fun c => ?_) (fun c => ?_)
  · replace h := h.1 (bo_0 c)
    exact mj_W_ls (mj_B_mono _) (mj_lev_of _ _ (by simp [mj_levb])) h
  · replace h := h.2 (bo_1 c)
    refine mr_iload (pc' := 8) rfl rfl rfl ?_
    refine mr_const (pc' := 10) rfl rfl (by unfold mj_r; decide) ?_
    refine mr_ic_eq (pc' := 13) rfl rfl (fun c => ?_) (fun c => ?_)
    · replace h := h.1 c
      exact mj_W_ls (mj_B_mono _) (mj_lev_of _ _ (by simp [mj_levb])) h
    · replace h := h.2 c
      refine mr_iload (pc' := 14) rfl rfl rfl ?_
      refine mr_const (pc' := 16) rfl rfl (by unfold mj_r; decide) ?_
      refine mr_ic_eq (pc' := 19) rfl rfl (fun c => ?_) (fun c => ?_)
      · replace h := h.1 c
        exact mj_W_ls (mj_B_mono _) (mj_lev_of _ _ (by simp [mj_levb])) h
      · replace h := h.2 c
        refine mr_aload (pc' := 20) rfl rfl rfl ?_
        refine mr_iload (pc' := 21) rfl rfl rfl ?_
        refine mr_call (t := [(9, 0)]) (pc' := 24) rfl [.inr (.inl 0), .inl x1] rfl rfl rfl (mj_recvV rfl) (Nat.le_of_ble_eq_true rfl) (mj_B_mono _ _ _ _ _ _ (fun r σ1 h => ?_) h)
        obtain ⟨v2, rfl, h⟩ := h
        refine mr_if_ge (pc' := 27) rfl rfl (fun c => ?_) (fun c => ?_)
        · replace h := h.1 c
          exact mj_W_ls (mj_B_mono _) (mj_lev_of _ _ (by simp [mj_levb])) h
        · replace h := h.2 c
          refine mr_aload (pc' := 28) rfl rfl rfl ?_
          refine mr_const (pc' := 29) rfl rfl (by unfold mj_r; decide) ?_
          refine mr_call (t := [(9, 0)]) (pc' := 32) rfl [.inr (.inl 0), .inl 2] rfl rfl rfl (mj_recvV rfl) (Nat.le_of_ble_eq_true rfl) (s_m2  (fun σ3 e9 => ?_))
          replace h := h σ3 e9
          refine mr_pop (pc' := 33) rfl rfl trivial ?_
          exact mj_W_ls (mj_B_mono _) (mj_lev_of _ _ (by simp [mj_levb])) h
def qh_m30_16 (d : Nat) (Q : mj_Q) (y1 y2 y3 : Int) (σ : mj_S) : Prop := mj_P mjm_L mjm_Ms d mjmo30 ((Option.some Jvm.ClassFile.FieldType.boolean)) Q 16 [some (.inr (.inl 0)), some (.inl y1), some (.inl y2), some (.inl y3)] [] σ
set_option maxRecDepth 20000 in
theorem qw_m30_16 {d : Nat} {Q : mj_Q} {y1 y2 y3 : Int} {σ : mj_S} (h : (¬ (536870912 ≤ y3) → mj_fit .boolean y2 ∧ Q (some (.inl y2)) σ) ∧ (536870912 ≤ y3 → (y2 = 0 → mj_fit .boolean y2 ∧ Q (some (.inl y2)) σ) ∧ (¬ y2 = 0 → z_pr y3 ∧ mj_B mjm_L mjm_Ms (d + 1) 7 [.inr (.inl 0), .inl (z_cd (σ 4) y3)] σ (fun r σ1 => ∃ v2, r = some (.inl v2) ∧ (¬ v2 = 2 → z_pr y3 ∧ qh_m30_16 (d + 1) Q y1 0 (z_cd (σ1 5) y3) σ1) ∧ (v2 = 2 → z_pr y3 ∧ qh_m30_16 (d + 1) Q y1 1 (z_cd (σ1 5) y3) σ1))))) : qh_m30_16 (d + 1) Q y1 y2 y3 σ := by
  show mj_P mjm_L mjm_Ms (d + 1) mjmo30 ((Option.some Jvm.ClassFile.FieldType.boolean)) Q 16 [some (.inr (.inl 0)), some (.inl y1), some (.inl y2), some (.inl y3)] [] σ
  refine mr_iload (pc' := 17) rfl rfl rfl ?_
  refine mr_call (t := []) (pc' := 20) rfl [.inl y3] rfl rfl rfl trivial (Nat.le_of_ble_eq_true rfl) (s_m3  ?_)
  refine mr_if_eq (pc' := 23) rfl rfl (fun c => ?_) (fun c => ?_)
  · replace h := h.1 (bo_0 c)
    refine mr_iload (pc' := 56) rfl rfl rfl ?_
    exact mr_iret rfl rfl h.1 h.2
  · replace h := h.2 (bo_1 c)
    refine mr_iload (pc' := 24) rfl rfl rfl ?_
    refine mr_if_eq (pc' := 27) rfl rfl (fun c => ?_) (fun c => ?_)
    · replace h := h.1 c
      refine mr_iload (pc' := 56) rfl rfl rfl ?_
      exact mr_iret rfl rfl h.1 h.2
    · replace h := h.2 c
      refine mr_aload (pc' := 28) rfl rfl rfl ?_
      refine mr_aload (pc' := 29) rfl rfl rfl ?_
      refine mr_iload (pc' := 30) rfl rfl rfl ?_
      obtain ⟨h0, h⟩ := h
      refine mr_call (t := [(9, 0)]) (pc' := 33) rfl [.inr (.inl 0), .inl y3] rfl rfl rfl (mj_recvV rfl) (Nat.le_of_ble_eq_true rfl) (s_m5 h0 ?_)
      refine mr_call (t := [(9, 0)]) (pc' := 36) rfl [.inr (.inl 0), .inl (z_cd (σ 4) y3)] rfl rfl rfl (mj_recvV rfl) (Nat.le_of_ble_eq_true rfl) (mj_B_mono _ _ _ _ _ _ (fun r σ1 h => ?_) h)
      obtain ⟨v2, rfl, h⟩ := h
      refine mr_const (pc' := 37) rfl rfl (by unfold mj_r; decide) ?_
      refine mr_ic_ne (pc' := 40) rfl rfl (fun c => ?_) (fun c => ?_)
      · replace h := h.1 c
        refine mr_const (pc' := 45) rfl rfl (by unfold mj_r; decide) ?_
        refine mr_istore (pc' := 46) rfl rfl trivial (Nat.le_of_ble_eq_true rfl) rfl ?_
        refine mr_aload (pc' := 47) rfl rfl rfl ?_
        refine mr_iload (pc' := 48) rfl rfl rfl ?_
        obtain ⟨h0, h⟩ := h
        refine mr_call (t := [(9, 0)]) (pc' := 51) rfl [.inr (.inl 0), .inl y3] rfl rfl rfl (mj_recvV rfl) (Nat.le_of_ble_eq_true rfl) (s_m6 h0 ?_)
        refine mr_istore (pc' := 52) rfl rfl trivial (Nat.le_of_ble_eq_true rfl) rfl ?_
        refine mr_goto rfl ?_
        exact mj_W_ls (mj_B_mono _) (mj_lev_of _ _ (by simp [mj_levb])) h
      · replace h := h.2 c
        refine mr_const (pc' := 41) rfl rfl (by unfold mj_r; decide) ?_
        refine mr_goto rfl ?_
        refine mr_istore (pc' := 46) rfl rfl trivial (Nat.le_of_ble_eq_true rfl) rfl ?_
        refine mr_aload (pc' := 47) rfl rfl rfl ?_
        refine mr_iload (pc' := 48) rfl rfl rfl ?_
        obtain ⟨h0, h⟩ := h
        refine mr_call (t := [(9, 0)]) (pc' := 51) rfl [.inr (.inl 0), .inl y3] rfl rfl rfl (mj_recvV rfl) (Nat.le_of_ble_eq_true rfl) (s_m6 h0 ?_)
        refine mr_istore (pc' := 52) rfl rfl trivial (Nat.le_of_ble_eq_true rfl) rfl ?_
        refine mr_goto rfl ?_
        exact mj_W_ls (mj_B_mono _) (mj_lev_of _ _ (by simp [mj_levb])) h
set_option maxRecDepth 20000 in
/-- ListSpeakerModel.arePairs_ -/
theorem wq_m30 {d : Nat} {σ : mj_S} {Q : mj_Q} {x1 : Int} (h : mj_B mjm_L mjm_Ms (d + 1) 7 [.inr (.inl 0), .inl x1] σ (fun r σ1 => ∃ v2, r = some (.inl v2) ∧ (v2 < 0 → qh_m30_16 (d + 1) Q x1 0 x1 σ1) ∧ (0 ≤ v2 → qh_m30_16 (d + 1) Q x1 1 x1 σ1))) : mj_B mjm_L mjm_Ms (d + 2) 30 [.inr (.inl 0), .inl x1] σ Q := by
  refine mj_B_of (M := mjmM30) (ls := [some (.inr (.inl 0)), some (.inl x1), none, none]) rfl (mj_c1_all rfl) (Nat.le_of_ble_eq_true rfl) rfl ?_
  refine mr_aload (pc' := 1) rfl rfl rfl ?_
  refine mr_iload (pc' := 2) rfl rfl rfl ?_
  refine mr_call (t := [(9, 0)]) (pc' := 5) rfl [.inr (.inl 0), .inl x1] rfl rfl rfl (mj_recvV rfl) (Nat.le_of_ble_eq_true rfl) (mj_B_mono _ _ _ _ _ _ (fun r σ1 h => ?_) h)
  obtain ⟨v2, rfl, h⟩ := h
  refine mr_if_lt (pc' := 8) rfl rfl (fun c => ?_) (fun c => ?_)
  · replace h := h.1 c
    refine mr_const (pc' := 13) rfl rfl (by unfold mj_r; decide) ?_
    refine mr_istore (pc' := 14) rfl rfl trivial (Nat.le_of_ble_eq_true rfl) rfl ?_
    refine mr_iload (pc' := 15) rfl rfl rfl ?_
    refine mr_istore (pc' := 16) rfl rfl trivial (Nat.le_of_ble_eq_true rfl) rfl ?_
    exact mj_W_ls (mj_B_mono _) (mj_lev_of _ _ (by simp [mj_levb])) h
  · replace h := h.2 c
    refine mr_const (pc' := 9) rfl rfl (by unfold mj_r; decide) ?_
    refine mr_goto rfl ?_
    refine mr_istore (pc' := 14) rfl rfl trivial (Nat.le_of_ble_eq_true rfl) rfl ?_
    refine mr_iload (pc' := 15) rfl rfl rfl ?_
    refine mr_istore (pc' := 16) rfl rfl trivial (Nat.le_of_ble_eq_true rfl) rfl ?_
    exact mj_W_ls (mj_B_mono _) (mj_lev_of _ _ (by simp [mj_levb])) h
def qh_m32_8 (d : Nat) (Q : mj_Q) (y1 y2 y3 : Int) (σ : mj_S) : Prop := mj_P mjm_L mjm_Ms d mjmo32 ((Option.some Jvm.ClassFile.FieldType.boolean)) Q 8 [some (.inr (.inl 0)), some (.inl y1), some (.inl y2), some (.inl y3), none] [] σ
def qh_m32_36 (d : Nat) (Q : mj_Q) (y1 y2 y3 y4 : Int) (σ : mj_S) : Prop := mj_P mjm_L mjm_Ms d mjmo32 ((Option.some Jvm.ClassFile.FieldType.boolean)) Q 36 [some (.inr (.inl 0)), some (.inl y1), some (.inl y2), some (.inl y3), some (.inl y4)] [] σ
set_option maxRecDepth 20000 in
theorem qw_m32_8 {d : Nat} {Q : mj_Q} {y1 y2 y3 : Int} {σ : mj_S} (h : (¬ (536870912 ≤ y3) → mj_fit .boolean y2 ∧ Q (some (.inl y2)) σ) ∧ (536870912 ≤ y3 → (y2 = 0 → mj_fit .boolean y2 ∧ Q (some (.inl y2)) σ) ∧ (¬ y2 = 0 → z_pr y3 ∧ z_pr (z_cd (σ 4) y3) ∧ qh_m32_36 (d + 2) Q y1 (if z_va (z_cd (σ 4) (z_cd (σ 4) y3)) then 1 else 0) y3 y1 σ))) : qh_m32_8 (d + 2) Q y1 y2 y3 σ := by
  show mj_P mjm_L mjm_Ms (d + 2) mjmo32 ((Option.some Jvm.ClassFile.FieldType.boolean)) Q 8 [some (.inr (.inl 0)), some (.inl y1), some (.inl y2), some (.inl y3), none] [] σ
  refine mr_iload (pc' := 9) rfl rfl rfl ?_
  refine mr_call (t := []) (pc' := 12) rfl [.inl y3] rfl rfl rfl trivial (Nat.le_of_ble_eq_true rfl) (s_m3  ?_)
  refine mr_if_eq (pc' := 15) rfl rfl (fun c => ?_) (fun c => ?_)
  · replace h := h.1 (bo_0 c)
    refine mr_iload (pc' := 95) rfl rfl rfl ?_
    exact mr_iret rfl rfl h.1 h.2
  · replace h := h.2 (bo_1 c)
    refine mr_iload (pc' := 16) rfl rfl rfl ?_
    refine mr_if_eq (pc' := 19) rfl rfl (fun c => ?_) (fun c => ?_)
    · replace h := h.1 c
      refine mr_iload (pc' := 95) rfl rfl rfl ?_
      exact mr_iret rfl rfl h.1 h.2
    · replace h := h.2 c
      refine mr_aload (pc' := 20) rfl rfl rfl ?_
      refine mr_aload (pc' := 21) rfl rfl rfl ?_
      refine mr_aload (pc' := 22) rfl rfl rfl ?_
      refine mr_iload (pc' := 23) rfl rfl rfl ?_
      obtain ⟨h0, h⟩ := h
      refine mr_call (t := [(9, 0)]) (pc' := 26) rfl [.inr (.inl 0), .inl y3] rfl rfl rfl (mj_recvV rfl) (Nat.le_of_ble_eq_true rfl) (s_m5 h0 ?_)
      obtain ⟨h0, h⟩ := h
      refine mr_call (t := [(9, 0)]) (pc' := 29) rfl [.inr (.inl 0), .inl (z_cd (σ 4) y3)] rfl rfl rfl (mj_recvV rfl) (Nat.le_of_ble_eq_true rfl) (s_m5 h0 ?_)
      refine mr_call (t := [(9, 0)]) (pc' := 32) rfl [.inr (.inl 0), .inl (z_cd (σ 4) (z_cd (σ 4) y3))] rfl rfl rfl (mj_recvV rfl) (Nat.le_of_ble_eq_true rfl) (s_m31  ?_)
      refine mr_istore (pc' := 33) rfl rfl trivial (Nat.le_of_ble_eq_true rfl) rfl ?_
      refine mr_iload (pc' := 34) rfl rfl rfl ?_
      refine mr_istore (pc' := 36) rfl rfl trivial (Nat.le_of_ble_eq_true rfl) rfl ?_
      exact mj_W_ls (mj_B_mono _) (mj_lev_of _ _ (by simp [mj_levb])) h
set_option maxRecDepth 20000 in
theorem qw_m32_36 {d : Nat} {Q : mj_Q} {y1 y2 y3 y4 : Int} {σ : mj_S} (h : (y4 = y3 → z_pr y3 ∧ qh_m32_8 (d + 2) Q y1 y2 (z_cd (σ 5) y3) σ) ∧ (¬ y4 = y3 → (y2 = 0 → z_pr y4 ∧ qh_m32_36 (d + 2) Q y1 0 y3 (z_cd (σ 5) y4) σ) ∧ (¬ y2 = 0 → z_pr y4 ∧ z_pr (z_cd (σ 4) y4) ∧ z_pr y3 ∧ z_pr (z_cd (σ 4) y3) ∧ ((z_cd (σ 4) (z_cd (σ 4) y4)) = (z_cd (σ 4) (z_cd (σ 4) y3)) → z_pr y4 ∧ qh_m32_36 (d + 2) Q y1 0 y3 (z_cd (σ 5) y4) σ) ∧ (¬ (z_cd (σ 4) (z_cd (σ 4) y4)) = (z_cd (σ 4) (z_cd (σ 4) y3)) → z_pr y4 ∧ qh_m32_36 (d + 2) Q y1 1 y3 (z_cd (σ 5) y4) σ)))) : qh_m32_36 (d + 2) Q y1 y2 y3 y4 σ := by
  show mj_P mjm_L mjm_Ms (d + 2) mjmo32 ((Option.some Jvm.ClassFile.FieldType.boolean)) Q 36 [some (.inr (.inl 0)), some (.inl y1), some (.inl y2), some (.inl y3), some (.inl y4)] [] σ
  refine mr_iload (pc' := 38) rfl rfl rfl ?_
  refine mr_iload (pc' := 39) rfl rfl rfl ?_
  refine mr_ic_eq (pc' := 42) rfl rfl (fun c => ?_) (fun c => ?_)
  · replace h := h.1 c
    refine mr_aload (pc' := 86) rfl rfl rfl ?_
    refine mr_iload (pc' := 87) rfl rfl rfl ?_
    obtain ⟨h0, h⟩ := h
    refine mr_call (t := [(9, 0)]) (pc' := 90) rfl [.inr (.inl 0), .inl y3] rfl rfl rfl (mj_recvV rfl) (Nat.le_of_ble_eq_true rfl) (s_m6 h0 ?_)
    refine mr_istore (pc' := 91) rfl rfl trivial (Nat.le_of_ble_eq_true rfl) rfl ?_
    refine mr_goto rfl ?_
    exact mj_W_ls (mj_B_mono _) (mj_lev_of _ _ (by simp [mj_levb])) h
  · replace h := h.2 c
    refine mr_iload (pc' := 43) rfl rfl rfl ?_
    refine mr_if_eq (pc' := 46) rfl rfl (fun c => ?_) (fun c => ?_)
    · replace h := h.1 c
      refine mr_const (pc' := 73) rfl rfl (by unfold mj_r; decide) ?_
      refine mr_istore (pc' := 74) rfl rfl trivial (Nat.le_of_ble_eq_true rfl) rfl ?_
      refine mr_aload (pc' := 75) rfl rfl rfl ?_
      refine mr_iload (pc' := 77) rfl rfl rfl ?_
      obtain ⟨h0, h⟩ := h
      refine mr_call (t := [(9, 0)]) (pc' := 80) rfl [.inr (.inl 0), .inl y4] rfl rfl rfl (mj_recvV rfl) (Nat.le_of_ble_eq_true rfl) (s_m6 h0 ?_)
      refine mr_istore (pc' := 82) rfl rfl trivial (Nat.le_of_ble_eq_true rfl) rfl ?_
      refine mr_goto rfl ?_
      exact mj_W_ls (mj_B_mono _) (mj_lev_of _ _ (by simp [mj_levb])) h
    · replace h := h.2 c
      refine mr_aload (pc' := 47) rfl rfl rfl ?_
      refine mr_aload (pc' := 48) rfl rfl rfl ?_
      refine mr_iload (pc' := 50) rfl rfl rfl ?_
      obtain ⟨h0, h⟩ := h
      refine mr_call (t := [(9, 0)]) (pc' := 53) rfl [.inr (.inl 0), .inl y4] rfl rfl rfl (mj_recvV rfl) (Nat.le_of_ble_eq_true rfl) (s_m5 h0 ?_)
      obtain ⟨h0, h⟩ := h
      refine mr_call (t := [(9, 0)]) (pc' := 56) rfl [.inr (.inl 0), .inl (z_cd (σ 4) y4)] rfl rfl rfl (mj_recvV rfl) (Nat.le_of_ble_eq_true rfl) (s_m5 h0 ?_)
      refine mr_aload (pc' := 57) rfl rfl rfl ?_
      refine mr_aload (pc' := 58) rfl rfl rfl ?_
      refine mr_iload (pc' := 59) rfl rfl rfl ?_
      obtain ⟨h0, h⟩ := h
      refine mr_call (t := [(9, 0)]) (pc' := 62) rfl [.inr (.inl 0), .inl y3] rfl rfl rfl (mj_recvV rfl) (Nat.le_of_ble_eq_true rfl) (s_m5 h0 ?_)
      obtain ⟨h0, h⟩ := h
      refine mr_call (t := [(9, 0)]) (pc' := 65) rfl [.inr (.inl 0), .inl (z_cd (σ 4) y3)] rfl rfl rfl (mj_recvV rfl) (Nat.le_of_ble_eq_true rfl) (s_m5 h0 ?_)
      refine mr_ic_eq (pc' := 68) rfl rfl (fun c => ?_) (fun c => ?_)
      · replace h := h.1 c
        refine mr_const (pc' := 73) rfl rfl (by unfold mj_r; decide) ?_
        refine mr_istore (pc' := 74) rfl rfl trivial (Nat.le_of_ble_eq_true rfl) rfl ?_
        refine mr_aload (pc' := 75) rfl rfl rfl ?_
        refine mr_iload (pc' := 77) rfl rfl rfl ?_
        obtain ⟨h0, h⟩ := h
        refine mr_call (t := [(9, 0)]) (pc' := 80) rfl [.inr (.inl 0), .inl y4] rfl rfl rfl (mj_recvV rfl) (Nat.le_of_ble_eq_true rfl) (s_m6 h0 ?_)
        refine mr_istore (pc' := 82) rfl rfl trivial (Nat.le_of_ble_eq_true rfl) rfl ?_
        refine mr_goto rfl ?_
        exact mj_W_ls (mj_B_mono _) (mj_lev_of _ _ (by simp [mj_levb])) h
      · replace h := h.2 c
        refine mr_const (pc' := 69) rfl rfl (by unfold mj_r; decide) ?_
        refine mr_goto rfl ?_
        refine mr_istore (pc' := 74) rfl rfl trivial (Nat.le_of_ble_eq_true rfl) rfl ?_
        refine mr_aload (pc' := 75) rfl rfl rfl ?_
        refine mr_iload (pc' := 77) rfl rfl rfl ?_
        obtain ⟨h0, h⟩ := h
        refine mr_call (t := [(9, 0)]) (pc' := 80) rfl [.inr (.inl 0), .inl y4] rfl rfl rfl (mj_recvV rfl) (Nat.le_of_ble_eq_true rfl) (s_m6 h0 ?_)
        refine mr_istore (pc' := 82) rfl rfl trivial (Nat.le_of_ble_eq_true rfl) rfl ?_
        refine mr_goto rfl ?_
        exact mj_W_ls (mj_B_mono _) (mj_lev_of _ _ (by simp [mj_levb])) h
set_option maxRecDepth 20000 in
/-- ListSpeakerModel.isLet_ -/
theorem wq_m32 {d : Nat} {σ : mj_S} {Q : mj_Q} {x1 : Int} (h : mj_B mjm_L mjm_Ms (d + 2) 30 [.inr (.inl 0), .inl x1] σ (fun r σ1 => ∃ v2, r = some (.inl v2) ∧ qh_m32_8 (d + 2) Q x1 v2 x1 σ1)) : mj_B mjm_L mjm_Ms (d + 3) 32 [.inr (.inl 0), .inl x1] σ Q := by
  refine mj_B_of (M := mjmM32) (ls := [some (.inr (.inl 0)), some (.inl x1), none, none, none]) rfl (mj_c1_all rfl) (Nat.le_of_ble_eq_true rfl) rfl ?_
  refine mr_aload (pc' := 1) rfl rfl rfl ?_
  refine mr_iload (pc' := 2) rfl rfl rfl ?_
  refine mr_call (t := [(9, 0)]) (pc' := 5) rfl [.inr (.inl 0), .inl x1] rfl rfl rfl (mj_recvV rfl) (Nat.le_of_ble_eq_true rfl) (mj_B_mono _ _ _ _ _ _ (fun r σ1 h => ?_) h)
  obtain ⟨v2, rfl, h⟩ := h
  refine mr_istore (pc' := 6) rfl rfl trivial (Nat.le_of_ble_eq_true rfl) rfl ?_
  refine mr_iload (pc' := 7) rfl rfl rfl ?_
  refine mr_istore (pc' := 8) rfl rfl trivial (Nat.le_of_ble_eq_true rfl) rfl ?_
  exact mj_W_ls (mj_B_mono _) (mj_lev_of _ _ (by simp [mj_levb])) h
def qh_m33_25 (d : Nat) (Q : mj_Q) (y1 y2 y3 : Int) (σ : mj_S) : Prop := mj_P mjm_L mjm_Ms d mjmo33 ((Option.some Jvm.ClassFile.FieldType.boolean)) Q 25 [some (.inr (.inl 0)), some (.inl y1), some (.inl y2), some (.inl y3), none] [] σ
def qh_m33_49 (d : Nat) (Q : mj_Q) (y1 y2 y3 y4 : Int) (σ : mj_S) : Prop := mj_P mjm_L mjm_Ms d mjmo33 ((Option.some Jvm.ClassFile.FieldType.boolean)) Q 49 [some (.inr (.inl 0)), some (.inl y1), some (.inl y2), some (.inl y3), some (.inl y4)] [] σ
set_option maxRecDepth 20000 in
theorem qw_m33_25 {d : Nat} {Q : mj_Q} {y1 y2 y3 : Int} {σ : mj_S} (h : (¬ (536870912 ≤ y3) → mj_fit .boolean y2 ∧ Q (some (.inl y2)) σ) ∧ (536870912 ≤ y3 → (y2 = 0 → mj_fit .boolean y2 ∧ Q (some (.inl y2)) σ) ∧ (¬ y2 = 0 → z_pr y3 ∧ qh_m33_49 (d + 2) Q y1 (if z_va (z_cd (σ 4) y3) then 1 else 0) y3 y1 σ))) : qh_m33_25 (d + 2) Q y1 y2 y3 σ := by
  show mj_P mjm_L mjm_Ms (d + 2) mjmo33 ((Option.some Jvm.ClassFile.FieldType.boolean)) Q 25 [some (.inr (.inl 0)), some (.inl y1), some (.inl y2), some (.inl y3), none] [] σ
  refine mr_iload (pc' := 26) rfl rfl rfl ?_
  refine mr_call (t := []) (pc' := 29) rfl [.inl y3] rfl rfl rfl trivial (Nat.le_of_ble_eq_true rfl) (s_m3  ?_)
  refine mr_if_eq (pc' := 32) rfl rfl (fun c => ?_) (fun c => ?_)
  · replace h := h.1 (bo_0 c)
    refine mr_iload (pc' := 100) rfl rfl rfl ?_
    exact mr_iret rfl rfl h.1 h.2
  · replace h := h.2 (bo_1 c)
    refine mr_iload (pc' := 33) rfl rfl rfl ?_
    refine mr_if_eq (pc' := 36) rfl rfl (fun c => ?_) (fun c => ?_)
    · replace h := h.1 c
      refine mr_iload (pc' := 100) rfl rfl rfl ?_
      exact mr_iret rfl rfl h.1 h.2
    · replace h := h.2 c
      refine mr_aload (pc' := 37) rfl rfl rfl ?_
      refine mr_aload (pc' := 38) rfl rfl rfl ?_
      refine mr_iload (pc' := 39) rfl rfl rfl ?_
      obtain ⟨h0, h⟩ := h
      refine mr_call (t := [(9, 0)]) (pc' := 42) rfl [.inr (.inl 0), .inl y3] rfl rfl rfl (mj_recvV rfl) (Nat.le_of_ble_eq_true rfl) (s_m5 h0 ?_)
      refine mr_call (t := [(9, 0)]) (pc' := 45) rfl [.inr (.inl 0), .inl (z_cd (σ 4) y3)] rfl rfl rfl (mj_recvV rfl) (Nat.le_of_ble_eq_true rfl) (s_m31  ?_)
      refine mr_istore (pc' := 46) rfl rfl trivial (Nat.le_of_ble_eq_true rfl) rfl ?_
      refine mr_iload (pc' := 47) rfl rfl rfl ?_
      refine mr_istore (pc' := 49) rfl rfl trivial (Nat.le_of_ble_eq_true rfl) rfl ?_
      exact mj_W_ls (mj_B_mono _) (mj_lev_of _ _ (by simp [mj_levb])) h
set_option maxRecDepth 20000 in
theorem qw_m33_49 {d : Nat} {Q : mj_Q} {y1 y2 y3 y4 : Int} {σ : mj_S} (h : (y4 = y3 → z_pr y3 ∧ qh_m33_25 (d + 2) Q y1 y2 (z_cd (σ 5) y3) σ) ∧ (¬ y4 = y3 → (y2 = 0 → z_pr y4 ∧ qh_m33_49 (d + 2) Q y1 0 y3 (z_cd (σ 5) y4) σ) ∧ (¬ y2 = 0 → z_pr y4 ∧ z_pr y3 ∧ ((z_cd (σ 4) y4) = (z_cd (σ 4) y3) → z_pr y4 ∧ qh_m33_49 (d + 2) Q y1 0 y3 (z_cd (σ 5) y4) σ) ∧ (¬ (z_cd (σ 4) y4) = (z_cd (σ 4) y3) → z_pr y4 ∧ qh_m33_49 (d + 2) Q y1 1 y3 (z_cd (σ 5) y4) σ)))) : qh_m33_49 (d + 2) Q y1 y2 y3 y4 σ := by
  show mj_P mjm_L mjm_Ms (d + 2) mjmo33 ((Option.some Jvm.ClassFile.FieldType.boolean)) Q 49 [some (.inr (.inl 0)), some (.inl y1), some (.inl y2), some (.inl y3), some (.inl y4)] [] σ
  refine mr_iload (pc' := 51) rfl rfl rfl ?_
  refine mr_iload (pc' := 52) rfl rfl rfl ?_
  refine mr_ic_eq (pc' := 55) rfl rfl (fun c => ?_) (fun c => ?_)
  · replace h := h.1 c
    refine mr_aload (pc' := 91) rfl rfl rfl ?_
    refine mr_iload (pc' := 92) rfl rfl rfl ?_
    obtain ⟨h0, h⟩ := h
    refine mr_call (t := [(9, 0)]) (pc' := 95) rfl [.inr (.inl 0), .inl y3] rfl rfl rfl (mj_recvV rfl) (Nat.le_of_ble_eq_true rfl) (s_m6 h0 ?_)
    refine mr_istore (pc' := 96) rfl rfl trivial (Nat.le_of_ble_eq_true rfl) rfl ?_
    refine mr_goto rfl ?_
    exact mj_W_ls (mj_B_mono _) (mj_lev_of _ _ (by simp [mj_levb])) h
  · replace h := h.2 c
    refine mr_iload (pc' := 56) rfl rfl rfl ?_
    refine mr_if_eq (pc' := 59) rfl rfl (fun c => ?_) (fun c => ?_)
    · replace h := h.1 c
      refine mr_const (pc' := 78) rfl rfl (by unfold mj_r; decide) ?_
      refine mr_istore (pc' := 79) rfl rfl trivial (Nat.le_of_ble_eq_true rfl) rfl ?_
      refine mr_aload (pc' := 80) rfl rfl rfl ?_
      refine mr_iload (pc' := 82) rfl rfl rfl ?_
      obtain ⟨h0, h⟩ := h
      refine mr_call (t := [(9, 0)]) (pc' := 85) rfl [.inr (.inl 0), .inl y4] rfl rfl rfl (mj_recvV rfl) (Nat.le_of_ble_eq_true rfl) (s_m6 h0 ?_)
      refine mr_istore (pc' := 87) rfl rfl trivial (Nat.le_of_ble_eq_true rfl) rfl ?_
      refine mr_goto rfl ?_
      exact mj_W_ls (mj_B_mono _) (mj_lev_of _ _ (by simp [mj_levb])) h
    · replace h := h.2 c
      refine mr_aload (pc' := 60) rfl rfl rfl ?_
      refine mr_iload (pc' := 62) rfl rfl rfl ?_
      obtain ⟨h0, h⟩ := h
      refine mr_call (t := [(9, 0)]) (pc' := 65) rfl [.inr (.inl 0), .inl y4] rfl rfl rfl (mj_recvV rfl) (Nat.le_of_ble_eq_true rfl) (s_m5 h0 ?_)
      refine mr_aload (pc' := 66) rfl rfl rfl ?_
      refine mr_iload (pc' := 67) rfl rfl rfl ?_
      obtain ⟨h0, h⟩ := h
      refine mr_call (t := [(9, 0)]) (pc' := 70) rfl [.inr (.inl 0), .inl y3] rfl rfl rfl (mj_recvV rfl) (Nat.le_of_ble_eq_true rfl) (s_m5 h0 ?_)
      refine mr_ic_eq (pc' := 73) rfl rfl (fun c => ?_) (fun c => ?_)
      · replace h := h.1 c
        refine mr_const (pc' := 78) rfl rfl (by unfold mj_r; decide) ?_
        refine mr_istore (pc' := 79) rfl rfl trivial (Nat.le_of_ble_eq_true rfl) rfl ?_
        refine mr_aload (pc' := 80) rfl rfl rfl ?_
        refine mr_iload (pc' := 82) rfl rfl rfl ?_
        obtain ⟨h0, h⟩ := h
        refine mr_call (t := [(9, 0)]) (pc' := 85) rfl [.inr (.inl 0), .inl y4] rfl rfl rfl (mj_recvV rfl) (Nat.le_of_ble_eq_true rfl) (s_m6 h0 ?_)
        refine mr_istore (pc' := 87) rfl rfl trivial (Nat.le_of_ble_eq_true rfl) rfl ?_
        refine mr_goto rfl ?_
        exact mj_W_ls (mj_B_mono _) (mj_lev_of _ _ (by simp [mj_levb])) h
      · replace h := h.2 c
        refine mr_const (pc' := 74) rfl rfl (by unfold mj_r; decide) ?_
        refine mr_goto rfl ?_
        refine mr_istore (pc' := 79) rfl rfl trivial (Nat.le_of_ble_eq_true rfl) rfl ?_
        refine mr_aload (pc' := 80) rfl rfl rfl ?_
        refine mr_iload (pc' := 82) rfl rfl rfl ?_
        obtain ⟨h0, h⟩ := h
        refine mr_call (t := [(9, 0)]) (pc' := 85) rfl [.inr (.inl 0), .inl y4] rfl rfl rfl (mj_recvV rfl) (Nat.le_of_ble_eq_true rfl) (s_m6 h0 ?_)
        refine mr_istore (pc' := 87) rfl rfl trivial (Nat.le_of_ble_eq_true rfl) rfl ?_
        refine mr_goto rfl ?_
        exact mj_W_ls (mj_B_mono _) (mj_lev_of _ _ (by simp [mj_levb])) h
set_option maxRecDepth 20000 in
/-- ListSpeakerModel.areParameters_ -/
theorem wq_m33 {d : Nat} {σ : mj_S} {Q : mj_Q} {x1 : Int} (h : mj_B mjm_L mjm_Ms (d + 2) 7 [.inr (.inl 0), .inl x1] σ (fun r σ1 => ∃ v2, r = some (.inl v2) ∧ (v2 < 0 → qh_m33_25 (d + 2) Q x1 0 x1 σ1) ∧ (0 ≤ v2 → mj_B mjm_L mjm_Ms (d + 2) 7 [.inr (.inl 0), .inl x1] σ1 (fun r σ3 => ∃ v4, r = some (.inl v4) ∧ (5 < v4 → qh_m33_25 (d + 2) Q x1 0 x1 σ3) ∧ (v4 ≤ 5 → qh_m33_25 (d + 2) Q x1 1 x1 σ3))))) : mj_B mjm_L mjm_Ms (d + 3) 33 [.inr (.inl 0), .inl x1] σ Q := by
  refine mj_B_of (M := mjmM33) (ls := [some (.inr (.inl 0)), some (.inl x1), none, none, none]) rfl (mj_c1_all rfl) (Nat.le_of_ble_eq_true rfl) rfl ?_
  refine mr_aload (pc' := 1) rfl rfl rfl ?_
  refine mr_iload (pc' := 2) rfl rfl rfl ?_
  refine mr_call (t := [(9, 0)]) (pc' := 5) rfl [.inr (.inl 0), .inl x1] rfl rfl rfl (mj_recvV rfl) (Nat.le_of_ble_eq_true rfl) (mj_B_mono _ _ _ _ _ _ (fun r σ1 h => ?_) h)
  obtain ⟨v2, rfl, h⟩ := h
  refine mr_if_lt (pc' := 8) rfl rfl (fun c => ?_) (fun c => ?_)
  · replace h := h.1 c
    refine mr_const (pc' := 22) rfl rfl (by unfold mj_r; decide) ?_
    refine mr_istore (pc' := 23) rfl rfl trivial (Nat.le_of_ble_eq_true rfl) rfl ?_
    refine mr_iload (pc' := 24) rfl rfl rfl ?_
    refine mr_istore (pc' := 25) rfl rfl trivial (Nat.le_of_ble_eq_true rfl) rfl ?_
    exact mj_W_ls (mj_B_mono _) (mj_lev_of _ _ (by simp [mj_levb])) h
  · replace h := h.2 c
    refine mr_aload (pc' := 9) rfl rfl rfl ?_
    refine mr_iload (pc' := 10) rfl rfl rfl ?_
    refine mr_call (t := [(9, 0)]) (pc' := 13) rfl [.inr (.inl 0), .inl x1] rfl rfl rfl (mj_recvV rfl) (Nat.le_of_ble_eq_true rfl) (mj_B_mono _ _ _ _ _ _ (fun r σ3 h => ?_) h)
    obtain ⟨v4, rfl, h⟩ := h
    refine mr_const (pc' := 14) rfl rfl (by unfold mj_r; decide) ?_
    refine mr_ic_gt (pc' := 17) rfl rfl (fun c => ?_) (fun c => ?_)
    · replace h := h.1 c
      refine mr_const (pc' := 22) rfl rfl (by unfold mj_r; decide) ?_
      refine mr_istore (pc' := 23) rfl rfl trivial (Nat.le_of_ble_eq_true rfl) rfl ?_
      refine mr_iload (pc' := 24) rfl rfl rfl ?_
      refine mr_istore (pc' := 25) rfl rfl trivial (Nat.le_of_ble_eq_true rfl) rfl ?_
      exact mj_W_ls (mj_B_mono _) (mj_lev_of _ _ (by simp [mj_levb])) h
    · replace h := h.2 c
      refine mr_const (pc' := 18) rfl rfl (by unfold mj_r; decide) ?_
      refine mr_goto rfl ?_
      refine mr_istore (pc' := 23) rfl rfl trivial (Nat.le_of_ble_eq_true rfl) rfl ?_
      refine mr_iload (pc' := 24) rfl rfl rfl ?_
      refine mr_istore (pc' := 25) rfl rfl trivial (Nat.le_of_ble_eq_true rfl) rfl ?_
      exact mj_W_ls (mj_B_mono _) (mj_lev_of _ _ (by simp [mj_levb])) h
def qh_m34_2 (d : Nat) (Q : mj_Q) (y1 y2 : Int) (σ : mj_S) : Prop := mj_P mjm_L mjm_Ms d mjmo34 ((Option.some Jvm.ClassFile.FieldType.int)) Q 2 [some (.inr (.inl 0)), some (.inl y1), some (.inl y2)] [] σ
set_option maxRecDepth 20000 in
theorem qw_m34_2 {d : Nat} {Q : mj_Q} {y1 y2 : Int} {σ : mj_S} (h : ((σ 0 22) ≤ y2 → Q (some (.inl (-1))) σ) ∧ (y2 < (σ 0 22) → 0 ≤ y2 ∧ y2 < 16 ∧ (¬ (σ 13 y2.toNat) = y1 → mj_r (y2 + 1) ∧ qh_m34_2 d Q y1 (y2 + 1) σ) ∧ ((σ 13 y2.toNat) = y1 → Q (some (.inl y2)) σ))) : qh_m34_2 d Q y1 y2 σ := by
  show mj_P mjm_L mjm_Ms d mjmo34 ((Option.some Jvm.ClassFile.FieldType.int)) Q 2 [some (.inr (.inl 0)), some (.inl y1), some (.inl y2)] [] σ
  refine mr_iload (pc' := 3) rfl rfl rfl ?_
  refine mr_aload (pc' := 4) rfl rfl rfl ?_
  refine mr_get (ci := 0) (pc' := 7) rfl rfl rfl rfl ?_
  refine mr_ic_ge (pc' := 10) rfl rfl (fun c => ?_) (fun c => ?_)
  · replace h := h.1 c
    refine mr_const (pc' := 29) rfl rfl (by unfold mj_r; decide) ?_
    exact mr_iret rfl rfl trivial h
  · replace h := h.2 c
    refine mr_aload (pc' := 11) rfl rfl rfl ?_
    refine mr_getr (ci := 0) (pc' := 14) rfl rfl rfl rfl ?_
    refine mr_iload (pc' := 15) rfl rfl rfl ?_
    obtain ⟨h0, h1, h⟩ := h
    refine mr_iald (pc' := 16) rfl rfl rfl h0 h1 ?_
    refine mr_iload (pc' := 17) rfl rfl rfl ?_
    refine mr_ic_ne (pc' := 20) rfl rfl (fun c => ?_) (fun c => ?_)
    · replace h := h.1 c
      obtain ⟨h0, h⟩ := h
      refine mr_iinc (pc' := 25) rfl rfl rfl trivial h0 rfl ?_
      refine mr_goto rfl ?_
      exact mj_W_ls (mj_B_mono _) (mj_lev_of _ _ (by simp [mj_levb])) h
    · replace h := h.2 c
      refine mr_iload (pc' := 21) rfl rfl rfl ?_
      exact mr_iret rfl rfl trivial h
set_option maxRecDepth 20000 in
/-- ListSpeakerModel.functionOf_ -/
theorem wq_m34 {d : Nat} {σ : mj_S} {Q : mj_Q} {x1 : Int} (h : qh_m34_2 d Q x1 0 σ) : mj_B mjm_L mjm_Ms (d + 1) 34 [.inr (.inl 0), .inl x1] σ Q := by
  refine mj_B_of (M := mjmM34) (ls := [some (.inr (.inl 0)), some (.inl x1), none]) rfl (mj_c1_all rfl) (Nat.le_of_ble_eq_true rfl) rfl ?_
  refine mr_const (pc' := 1) rfl rfl (by unfold mj_r; decide) ?_
  refine mr_istore (pc' := 2) rfl rfl trivial (Nat.le_of_ble_eq_true rfl) rfl ?_
  exact mj_W_ls (mj_B_mono _) (mj_lev_of _ _ (by simp [mj_levb])) h
def qh_m35_51 (d : Nat) (Q : mj_Q) (y1 y2 : Int) (σ : mj_S) : Prop := mj_P mjm_L mjm_Ms d mjmo35 ((Option.some Jvm.ClassFile.FieldType.boolean)) Q 51 [some (.inr (.inl 0)), some (.inl y1), some (.inl y2), none, none] [] σ
def qh_m35_78 (d : Nat) (Q : mj_Q) (y1 y2 y3 y4 : Int) (σ : mj_S) : Prop := mj_P mjm_L mjm_Ms d mjmo35 ((Option.some Jvm.ClassFile.FieldType.boolean)) Q 78 [some (.inr (.inl 0)), some (.inl y1), some (.inl y2), some (.inl y3), some (.inl y4)] [] σ
def qh_m35_212 (d : Nat) (Q : mj_Q) (y1 y2 y3 y4 : Int) (σ : mj_S) : Prop := mj_P mjm_L mjm_Ms d mjmo35 ((Option.some Jvm.ClassFile.FieldType.boolean)) Q 212 [some (.inr (.inl 0)), some (.inl y1), some (.inl y2), some (.inl y3), some (.inl y4)] [] σ
set_option maxRecDepth 20000 in
theorem qw_m35_51 {d : Nat} {Q : mj_Q} {y1 y2 : Int} {σ : mj_S} (h : (¬ y2 = 0 → mj_B mjm_L mjm_Ms (d + 1) 8 [.inr (.inl 0), .inl y1, .inl 1] σ (fun r σ1 => ∃ v2, r = some (.inl v2) ∧ mj_B mjm_L mjm_Ms (d + 1) 8 [.inr (.inl 0), .inl y1, .inl 2] σ1 (fun r σ3 => ∃ v4, r = some (.inl v4) ∧ qh_m35_78 (d + 1) Q y1 y2 v2 v4 σ3))) ∧ (y2 = 0 → ∀ σ5, σ5 = z_sp σ 1 → Q (some (.inl 0)) σ5)) : qh_m35_51 (d + 1) Q y1 y2 σ := by
  show mj_P mjm_L mjm_Ms (d + 1) mjmo35 ((Option.some Jvm.ClassFile.FieldType.boolean)) Q 51 [some (.inr (.inl 0)), some (.inl y1), some (.inl y2), none, none] [] σ
  refine mr_iload (pc' := 52) rfl rfl rfl ?_
  refine mr_if_ne (pc' := 55) rfl rfl (fun c => ?_) (fun c => ?_)
  · replace h := h.1 c
    refine mr_aload (pc' := 64) rfl rfl rfl ?_
    refine mr_iload (pc' := 65) rfl rfl rfl ?_
    refine mr_const (pc' := 66) rfl rfl (by unfold mj_r; decide) ?_
    refine mr_call (t := [(9, 0)]) (pc' := 69) rfl [.inr (.inl 0), .inl y1, .inl 1] rfl rfl rfl (mj_recvV rfl) (Nat.le_of_ble_eq_true rfl) (mj_B_mono _ _ _ _ _ _ (fun r σ1 h => ?_) h)
    obtain ⟨v2, rfl, h⟩ := h
    refine mr_istore (pc' := 70) rfl rfl trivial (Nat.le_of_ble_eq_true rfl) rfl ?_
    refine mr_aload (pc' := 71) rfl rfl rfl ?_
    refine mr_iload (pc' := 72) rfl rfl rfl ?_
    refine mr_const (pc' := 73) rfl rfl (by unfold mj_r; decide) ?_
    refine mr_call (t := [(9, 0)]) (pc' := 76) rfl [.inr (.inl 0), .inl y1, .inl 2] rfl rfl rfl (mj_recvV rfl) (Nat.le_of_ble_eq_true rfl) (mj_B_mono _ _ _ _ _ _ (fun r σ3 h => ?_) h)
    obtain ⟨v4, rfl, h⟩ := h
    refine mr_istore (pc' := 78) rfl rfl trivial (Nat.le_of_ble_eq_true rfl) rfl ?_
    exact mj_W_ls (mj_B_mono _) (mj_lev_of _ _ (by simp [mj_levb])) h
  · replace h := h.2 c
    refine mr_aload (pc' := 56) rfl rfl rfl ?_
    refine mr_const (pc' := 57) rfl rfl (by unfold mj_r; decide) ?_
    refine mr_call (t := [(9, 0)]) (pc' := 60) rfl [.inr (.inl 0), .inl 1] rfl rfl rfl (mj_recvV rfl) (Nat.le_of_ble_eq_true rfl) (s_m2  (fun σ5 e9 => ?_))
    replace h := h σ5 e9
    refine mr_pop (pc' := 61) rfl rfl trivial ?_
    refine mr_const (pc' := 62) rfl rfl (by unfold mj_r; decide) ?_
    exact mr_iret rfl rfl (by simp [mj_fit]) h
set_option maxRecDepth 20000 in
theorem qw_m35_78 {d : Nat} {Q : mj_Q} {y1 y2 y3 y4 : Int} {σ : mj_S} (h : (¬ (536870912 ≤ y4) → mj_B mjm_L mjm_Ms (d + 1) 8 [.inr (.inl 0), .inl y1, .inl 3] σ (fun r σ1 => ∃ v2, r = some (.inl v2) ∧ mj_B mjm_L mjm_Ms (d + 1) 27 [.inr (.inl 0), .inl v2] σ1 (fun r σ3 => r = none ∧ ((σ3 0 5) ≤ 0 → mj_B mjm_L mjm_Ms (d + 1) 34 [.inr (.inl 0), .inl y3] σ3 (fun r σ4 => ∃ v5, r = some (.inl v5) ∧ (v5 < 0 → (0 ≤ v5 → qh_m35_212 (d + 1) Q y1 y2 y3 v5 σ4) ∧ (v5 < 0 → (¬ (σ4 0 22) = 16 → qh_m35_212 (d + 1) Q y1 y2 y3 v5 σ4) ∧ ((σ4 0 22) = 16 → ∀ σ6, σ6 = z_sp σ4 11 → qh_m35_212 (d + 1) Q y1 y2 y3 v5 σ6))) ∧ (0 ≤ v5 → 0 ≤ v5 ∧ v5 < 16 ∧ mj_B mjm_L mjm_Ms (d + 1) 8 [.inr (.inl 0), .inl y1, .inl 2] σ4 (fun r σ7 => ∃ v8, r = some (.inl v8) ∧ mj_B mjm_L mjm_Ms (d + 1) 36 [.inr (.inl 0), .inl (σ4 14 v5.toNat), .inl v8, .inl 0] σ7 (fun r σ9 => ∃ v10, r = some (.inl v10) ∧ (v10 = 0 → ∀ σ11, σ11 = z_sp σ9 10 → qh_m35_212 (d + 1) Q y1 y2 y3 v5 σ11) ∧ (¬ v10 = 0 → 0 ≤ v5 ∧ v5 < 16 ∧ mj_B mjm_L mjm_Ms (d + 1) 8 [.inr (.inl 0), .inl y1, .inl 3] σ9 (fun r σ12 => ∃ v13, r = some (.inl v13) ∧ mj_B mjm_L mjm_Ms (d + 1) 36 [.inr (.inl 0), .inl (σ9 15 v5.toNat), .inl v13, .inl 0] σ12 (fun r σ14 => ∃ v15, r = some (.inl v15) ∧ (¬ v15 = 0 → (0 ≤ v5 → qh_m35_212 (d + 1) Q y1 y2 y3 v5 σ14) ∧ (v5 < 0 → (¬ (σ14 0 22) = 16 → qh_m35_212 (d + 1) Q y1 y2 y3 v5 σ14) ∧ ((σ14 0 22) = 16 → ∀ σ16, σ16 = z_sp σ14 11 → qh_m35_212 (d + 1) Q y1 y2 y3 v5 σ16))) ∧ (v15 = 0 → ∀ σ17, σ17 = z_sp σ14 10 → qh_m35_212 (d + 1) Q y1 y2 y3 v5 σ17))))))))) ∧ (0 < (σ3 0 5) → Q (some (.inl 0)) σ3)))) ∧ (536870912 ≤ y4 → z_pr y4 ∧ 0 ≤ σ 0 33 ∧ σ 0 33 < 400 ∧ ∀ σ18, σ18 = z_bi σ (z_cd (σ 4) y4) 0 → z_pr y4 ∧ qh_m35_78 (d + 1) Q y1 y2 y3 (z_cd (σ18 5) y4) σ18)) : qh_m35_78 (d + 1) Q y1 y2 y3 y4 σ := by
  show mj_P mjm_L mjm_Ms (d + 1) mjmo35 ((Option.some Jvm.ClassFile.FieldType.boolean)) Q 78 [some (.inr (.inl 0)), some (.inl y1), some (.inl y2), some (.inl y3), some (.inl y4)] [] σ
  refine mr_iload (pc' := 80) rfl rfl rfl ?_
  refine mr_call (t := []) (pc' := 83) rfl [.inl y4] rfl rfl rfl trivial (Nat.le_of_ble_eq_true rfl) (s_m3  ?_)
  refine mr_if_eq (pc' := 86) rfl rfl (fun c => ?_) (fun c => ?_)
  · replace h := h.1 (bo_0 c)
    refine mr_aload (pc' := 109) rfl rfl rfl ?_
    refine mr_aload (pc' := 110) rfl rfl rfl ?_
    refine mr_iload (pc' := 111) rfl rfl rfl ?_
    refine mr_const (pc' := 112) rfl rfl (by unfold mj_r; decide) ?_
    refine mr_call (t := [(9, 0)]) (pc' := 115) rfl [.inr (.inl 0), .inl y1, .inl 3] rfl rfl rfl (mj_recvV rfl) (Nat.le_of_ble_eq_true rfl) (mj_B_mono _ _ _ _ _ _ (fun r σ1 h => ?_) h)
    obtain ⟨v2, rfl, h⟩ := h
    refine mr_call (t := [(9, 0)]) (pc' := 118) rfl [.inr (.inl 0), .inl v2] rfl rfl rfl (mj_recvV rfl) (Nat.le_of_ble_eq_true rfl) (mj_B_mono _ _ _ _ _ _ (fun r σ3 h => ?_) h)
    obtain ⟨rfl, h⟩ := h
    refine mr_aload (pc' := 119) rfl rfl rfl ?_
    refine mr_get (ci := 0) (pc' := 122) rfl rfl rfl rfl ?_
    refine mr_if_le (pc' := 125) rfl rfl (fun c => ?_) (fun c => ?_)
    · replace h := h.1 c
      refine mr_aload (pc' := 128) rfl rfl rfl ?_
      refine mr_iload (pc' := 129) rfl rfl rfl ?_
      refine mr_call (t := [(9, 0)]) (pc' := 132) rfl [.inr (.inl 0), .inl y3] rfl rfl rfl (mj_recvV rfl) (Nat.le_of_ble_eq_true rfl) (mj_B_mono _ _ _ _ _ _ (fun r σ4 h => ?_) h)
      obtain ⟨v5, rfl, h⟩ := h
      refine mr_istore (pc' := 134) rfl rfl trivial (Nat.le_of_ble_eq_true rfl) rfl ?_
      refine mr_iload (pc' := 136) rfl rfl rfl ?_
      refine mr_if_lt (pc' := 139) rfl rfl (fun c => ?_) (fun c => ?_)
      · replace h := h.1 c
        refine mr_iload (pc' := 193) rfl rfl rfl ?_
        refine mr_if_ge (pc' := 196) rfl rfl (fun c => ?_) (fun c => ?_)
        · replace h := h.1 c
          exact mj_W_ls (mj_B_mono _) (mj_lev_of _ _ (by simp [mj_levb])) h
        · replace h := h.2 c
          refine mr_aload (pc' := 197) rfl rfl rfl ?_
          refine mr_get (ci := 0) (pc' := 200) rfl rfl rfl rfl ?_
          refine mr_const (pc' := 202) rfl rfl (by unfold mj_r; decide) ?_
          refine mr_ic_ne (pc' := 205) rfl rfl (fun c => ?_) (fun c => ?_)
          · replace h := h.1 c
            exact mj_W_ls (mj_B_mono _) (mj_lev_of _ _ (by simp [mj_levb])) h
          · replace h := h.2 c
            refine mr_aload (pc' := 206) rfl rfl rfl ?_
            refine mr_const (pc' := 208) rfl rfl (by unfold mj_r; decide) ?_
            refine mr_call (t := [(9, 0)]) (pc' := 211) rfl [.inr (.inl 0), .inl 11] rfl rfl rfl (mj_recvV rfl) (Nat.le_of_ble_eq_true rfl) (s_m2  (fun σ6 e9 => ?_))
            replace h := h σ6 e9
            refine mr_pop (pc' := 212) rfl rfl trivial ?_
            exact mj_W_ls (mj_B_mono _) (mj_lev_of _ _ (by simp [mj_levb])) h
      · replace h := h.2 c
        refine mr_aload (pc' := 140) rfl rfl rfl ?_
        refine mr_aload (pc' := 141) rfl rfl rfl ?_
        refine mr_getr (ci := 0) (pc' := 144) rfl rfl rfl rfl ?_
        refine mr_iload (pc' := 146) rfl rfl rfl ?_
        obtain ⟨h0, h1, h⟩ := h
        refine mr_iald (pc' := 147) rfl rfl rfl h0 h1 ?_
        refine mr_aload (pc' := 148) rfl rfl rfl ?_
        refine mr_iload (pc' := 149) rfl rfl rfl ?_
        refine mr_const (pc' := 150) rfl rfl (by unfold mj_r; decide) ?_
        refine mr_call (t := [(9, 0)]) (pc' := 153) rfl [.inr (.inl 0), .inl y1, .inl 2] rfl rfl rfl (mj_recvV rfl) (Nat.le_of_ble_eq_true rfl) (mj_B_mono _ _ _ _ _ _ (fun r σ7 h => ?_) h)
        obtain ⟨v8, rfl, h⟩ := h
        refine mr_const (pc' := 154) rfl rfl (by unfold mj_r; decide) ?_
        refine mr_call (t := [(9, 0)]) (pc' := 157) rfl [.inr (.inl 0), .inl (σ4 14 v5.toNat), .inl v8, .inl 0] rfl rfl rfl (mj_recvV rfl) (Nat.le_of_ble_eq_true rfl) (mj_B_mono _ _ _ _ _ _ (fun r σ9 h => ?_) h)
        obtain ⟨v10, rfl, h⟩ := h
        refine mr_if_eq (pc' := 160) rfl rfl (fun c => ?_) (fun c => ?_)
        · replace h := h.1 c
          refine mr_aload (pc' := 182) rfl rfl rfl ?_
          refine mr_const (pc' := 184) rfl rfl (by unfold mj_r; decide) ?_
          refine mr_call (t := [(9, 0)]) (pc' := 187) rfl [.inr (.inl 0), .inl 10] rfl rfl rfl (mj_recvV rfl) (Nat.le_of_ble_eq_true rfl) (s_m2  (fun σ11 e9 => ?_))
          replace h := h σ11 e9
          refine mr_pop (pc' := 188) rfl rfl trivial ?_
          refine mr_goto rfl ?_
          exact mj_W_ls (mj_B_mono _) (mj_lev_of _ _ (by simp [mj_levb])) h
        · replace h := h.2 c
          refine mr_aload (pc' := 161) rfl rfl rfl ?_
          refine mr_aload (pc' := 162) rfl rfl rfl ?_
          refine mr_getr (ci := 0) (pc' := 165) rfl rfl rfl rfl ?_
          refine mr_iload (pc' := 167) rfl rfl rfl ?_
          obtain ⟨h0, h1, h⟩ := h
          refine mr_iald (pc' := 168) rfl rfl rfl h0 h1 ?_
          refine mr_aload (pc' := 169) rfl rfl rfl ?_
          refine mr_iload (pc' := 170) rfl rfl rfl ?_
          refine mr_const (pc' := 171) rfl rfl (by unfold mj_r; decide) ?_
          refine mr_call (t := [(9, 0)]) (pc' := 174) rfl [.inr (.inl 0), .inl y1, .inl 3] rfl rfl rfl (mj_recvV rfl) (Nat.le_of_ble_eq_true rfl) (mj_B_mono _ _ _ _ _ _ (fun r σ12 h => ?_) h)
          obtain ⟨v13, rfl, h⟩ := h
          refine mr_const (pc' := 175) rfl rfl (by unfold mj_r; decide) ?_
          refine mr_call (t := [(9, 0)]) (pc' := 178) rfl [.inr (.inl 0), .inl (σ9 15 v5.toNat), .inl v13, .inl 0] rfl rfl rfl (mj_recvV rfl) (Nat.le_of_ble_eq_true rfl) (mj_B_mono _ _ _ _ _ _ (fun r σ14 h => ?_) h)
          obtain ⟨v15, rfl, h⟩ := h
          refine mr_if_ne (pc' := 181) rfl rfl (fun c => ?_) (fun c => ?_)
          · replace h := h.1 c
            refine mr_iload (pc' := 193) rfl rfl rfl ?_
            refine mr_if_ge (pc' := 196) rfl rfl (fun c => ?_) (fun c => ?_)
            · replace h := h.1 c
              exact mj_W_ls (mj_B_mono _) (mj_lev_of _ _ (by simp [mj_levb])) h
            · replace h := h.2 c
              refine mr_aload (pc' := 197) rfl rfl rfl ?_
              refine mr_get (ci := 0) (pc' := 200) rfl rfl rfl rfl ?_
              refine mr_const (pc' := 202) rfl rfl (by unfold mj_r; decide) ?_
              refine mr_ic_ne (pc' := 205) rfl rfl (fun c => ?_) (fun c => ?_)
              · replace h := h.1 c
                exact mj_W_ls (mj_B_mono _) (mj_lev_of _ _ (by simp [mj_levb])) h
              · replace h := h.2 c
                refine mr_aload (pc' := 206) rfl rfl rfl ?_
                refine mr_const (pc' := 208) rfl rfl (by unfold mj_r; decide) ?_
                refine mr_call (t := [(9, 0)]) (pc' := 211) rfl [.inr (.inl 0), .inl 11] rfl rfl rfl (mj_recvV rfl) (Nat.le_of_ble_eq_true rfl) (s_m2  (fun σ16 e9 => ?_))
                replace h := h σ16 e9
                refine mr_pop (pc' := 212) rfl rfl trivial ?_
                exact mj_W_ls (mj_B_mono _) (mj_lev_of _ _ (by simp [mj_levb])) h
          · replace h := h.2 c
            refine mr_aload (pc' := 182) rfl rfl rfl ?_
            refine mr_const (pc' := 184) rfl rfl (by unfold mj_r; decide) ?_
            refine mr_call (t := [(9, 0)]) (pc' := 187) rfl [.inr (.inl 0), .inl 10] rfl rfl rfl (mj_recvV rfl) (Nat.le_of_ble_eq_true rfl) (s_m2  (fun σ17 e9 => ?_))
            replace h := h σ17 e9
            refine mr_pop (pc' := 188) rfl rfl trivial ?_
            refine mr_goto rfl ?_
            exact mj_W_ls (mj_B_mono _) (mj_lev_of _ _ (by simp [mj_levb])) h
    · replace h := h.2 c
      refine mr_const (pc' := 126) rfl rfl (by unfold mj_r; decide) ?_
      exact mr_iret rfl rfl (by simp [mj_fit]) h
  · replace h := h.2 (bo_1 c)
    refine mr_aload (pc' := 87) rfl rfl rfl ?_
    refine mr_aload (pc' := 88) rfl rfl rfl ?_
    refine mr_iload (pc' := 90) rfl rfl rfl ?_
    obtain ⟨h0, h⟩ := h
    refine mr_call (t := [(9, 0)]) (pc' := 93) rfl [.inr (.inl 0), .inl y4] rfl rfl rfl (mj_recvV rfl) (Nat.le_of_ble_eq_true rfl) (s_m5 h0 ?_)
    refine mr_const (pc' := 94) rfl rfl (by unfold mj_r; decide) ?_
    obtain ⟨h0, h1, h⟩ := h
    refine mr_call (t := [(9, 0)]) (pc' := 97) rfl [.inr (.inl 0), .inl (z_cd (σ 4) y4), .inl 0] rfl rfl rfl (mj_recvV rfl) (Nat.le_of_ble_eq_true rfl) (s_m25 h0 h1 (fun σ18 e9 => ?_))
    replace h := h σ18 e9
    refine mr_aload (pc' := 98) rfl rfl rfl ?_
    refine mr_iload (pc' := 100) rfl rfl rfl ?_
    obtain ⟨h0, h⟩ := h
    refine mr_call (t := [(9, 0)]) (pc' := 103) rfl [.inr (.inl 0), .inl y4] rfl rfl rfl (mj_recvV rfl) (Nat.le_of_ble_eq_true rfl) (s_m6 h0 ?_)
    refine mr_istore (pc' := 105) rfl rfl trivial (Nat.le_of_ble_eq_true rfl) rfl ?_
    refine mr_goto rfl ?_
    exact mj_W_ls (mj_B_mono _) (mj_lev_of _ _ (by simp [mj_levb])) h
set_option maxRecDepth 20000 in
theorem qw_m35_212 {d : Nat} {Q : mj_Q} {y1 y2 y3 y4 : Int} {σ : mj_S} (h : ((σ 0 5) ≤ 0 → (0 ≤ y4 → Q (some (.inl 1)) σ) ∧ (y4 < 0 → 0 ≤ (σ 0 22) ∧ (σ 0 22) < 16 ∧ ∀ σ1, σ1 = mj_up σ 13 (σ 0 22).toNat y3 → mj_B mjm_L mjm_Ms (d + 1) 8 [.inr (.inl 0), .inl y1, .inl 2] σ1 (fun r σ2 => ∃ v3, r = some (.inl v3) ∧ 0 ≤ (σ1 0 22) ∧ (σ1 0 22) < 16 ∧ ∀ σ4, σ4 = mj_up σ2 14 (σ1 0 22).toNat v3 → mj_B mjm_L mjm_Ms (d + 1) 8 [.inr (.inl 0), .inl y1, .inl 3] σ4 (fun r σ5 => ∃ v6, r = some (.inl v6) ∧ 0 ≤ (σ4 0 22) ∧ (σ4 0 22) < 16 ∧ ∀ σ7, σ7 = mj_up σ5 15 (σ4 0 22).toNat v6 → mj_r ((σ7 0 22) + 1) ∧ ∀ σ8, σ8 = mj_up σ7 0 22 ((σ7 0 22) + 1) → Q (some (.inl 1)) σ8)))) ∧ (0 < (σ 0 5) → Q (some (.inl 0)) σ)) : qh_m35_212 (d + 1) Q y1 y2 y3 y4 σ := by
  show mj_P mjm_L mjm_Ms (d + 1) mjmo35 ((Option.some Jvm.ClassFile.FieldType.boolean)) Q 212 [some (.inr (.inl 0)), some (.inl y1), some (.inl y2), some (.inl y3), some (.inl y4)] [] σ
  refine mr_aload (pc' := 213) rfl rfl rfl ?_
  refine mr_get (ci := 0) (pc' := 216) rfl rfl rfl rfl ?_
  refine mr_if_le (pc' := 219) rfl rfl (fun c => ?_) (fun c => ?_)
  · replace h := h.1 c
    refine mr_iload (pc' := 223) rfl rfl rfl ?_
    refine mr_if_ge (pc' := 226) rfl rfl (fun c => ?_) (fun c => ?_)
    · replace h := h.1 c
      refine mr_const (pc' := 277) rfl rfl (by unfold mj_r; decide) ?_
      exact mr_iret rfl rfl (by simp [mj_fit]) h
    · replace h := h.2 c
      refine mr_aload (pc' := 227) rfl rfl rfl ?_
      refine mr_getr (ci := 0) (pc' := 230) rfl rfl rfl rfl ?_
      refine mr_aload (pc' := 231) rfl rfl rfl ?_
      refine mr_get (ci := 0) (pc' := 234) rfl rfl rfl rfl ?_
      refine mr_iload (pc' := 235) rfl rfl rfl ?_
      obtain ⟨h0, h1, h⟩ := h
      refine mr_iast (pc' := 236) rfl rfl rfl h0 h1 (fun σ1 e9 => ?_)
      replace h := h σ1 e9
      refine mr_aload (pc' := 237) rfl rfl rfl ?_
      refine mr_getr (ci := 0) (pc' := 240) rfl rfl rfl rfl ?_
      refine mr_aload (pc' := 241) rfl rfl rfl ?_
      refine mr_get (ci := 0) (pc' := 244) rfl rfl rfl rfl ?_
      refine mr_aload (pc' := 245) rfl rfl rfl ?_
      refine mr_iload (pc' := 246) rfl rfl rfl ?_
      refine mr_const (pc' := 247) rfl rfl (by unfold mj_r; decide) ?_
      refine mr_call (t := [(9, 0)]) (pc' := 250) rfl [.inr (.inl 0), .inl y1, .inl 2] rfl rfl rfl (mj_recvV rfl) (Nat.le_of_ble_eq_true rfl) (mj_B_mono _ _ _ _ _ _ (fun r σ2 h => ?_) h)
      obtain ⟨v3, rfl, h⟩ := h
      obtain ⟨h0, h1, h⟩ := h
      refine mr_iast (pc' := 251) rfl rfl rfl h0 h1 (fun σ4 e9 => ?_)
      replace h := h σ4 e9
      refine mr_aload (pc' := 252) rfl rfl rfl ?_
      refine mr_getr (ci := 0) (pc' := 255) rfl rfl rfl rfl ?_
      refine mr_aload (pc' := 256) rfl rfl rfl ?_
      refine mr_get (ci := 0) (pc' := 259) rfl rfl rfl rfl ?_
      refine mr_aload (pc' := 260) rfl rfl rfl ?_
      refine mr_iload (pc' := 261) rfl rfl rfl ?_
      refine mr_const (pc' := 262) rfl rfl (by unfold mj_r; decide) ?_
      refine mr_call (t := [(9, 0)]) (pc' := 265) rfl [.inr (.inl 0), .inl y1, .inl 3] rfl rfl rfl (mj_recvV rfl) (Nat.le_of_ble_eq_true rfl) (mj_B_mono _ _ _ _ _ _ (fun r σ5 h => ?_) h)
      obtain ⟨v6, rfl, h⟩ := h
      obtain ⟨h0, h1, h⟩ := h
      refine mr_iast (pc' := 266) rfl rfl rfl h0 h1 (fun σ7 e9 => ?_)
      replace h := h σ7 e9
      refine mr_aload (pc' := 267) rfl rfl rfl ?_
      refine mr_dup (pc' := 268) rfl rfl trivial ?_
      refine mr_get (ci := 0) (pc' := 271) rfl rfl rfl rfl ?_
      refine mr_const (pc' := 272) rfl rfl (by unfold mj_r; decide) ?_
      obtain ⟨h0, h⟩ := h
      refine mr_iadd (pc' := 273) rfl rfl h0 ?_
      refine mr_put (pc' := 276) rfl rfl rfl rfl (fun σ8 e9 => ?_)
      replace h := h σ8 e9
      refine mr_const (pc' := 277) rfl rfl (by unfold mj_r; decide) ?_
      exact mr_iret rfl rfl (by simp [mj_fit]) h
  · replace h := h.2 c
    refine mr_const (pc' := 220) rfl rfl (by unfold mj_r; decide) ?_
    exact mr_iret rfl rfl (by simp [mj_fit]) h
set_option maxRecDepth 20000 in
/-- ListSpeakerModel.define_ -/
theorem wq_m35 {d : Nat} {σ : mj_S} {Q : mj_Q} {x1 : Int} (h : mj_B mjm_L mjm_Ms (d + 1) 7 [.inr (.inl 0), .inl x1] σ (fun r σ1 => ∃ v2, r = some (.inl v2) ∧ (¬ v2 = 4 → qh_m35_51 (d + 1) Q x1 0 σ1) ∧ (v2 = 4 → mj_B mjm_L mjm_Ms (d + 1) 8 [.inr (.inl 0), .inl x1, .inl 1] σ1 (fun r σ3 => ∃ v4, r = some (.inl v4) ∧ (¬ (268435456 ≤ v4 ∧ v4 < 536870912) → qh_m35_51 (d + 1) Q x1 0 σ3) ∧ (268435456 ≤ v4 ∧ v4 < 536870912 → mj_B mjm_L mjm_Ms (d + 1) 8 [.inr (.inl 0), .inl x1, .inl 1] σ3 (fun r σ5 => ∃ v6, r = some (.inl v6) ∧ (v6 ≤ 268435476 → qh_m35_51 (d + 1) Q x1 0 σ5) ∧ (268435476 < v6 → mj_B mjm_L mjm_Ms (d + 1) 8 [.inr (.inl 0), .inl x1, .inl 2] σ5 (fun r σ7 => ∃ v8, r = some (.inl v8) ∧ mj_B mjm_L mjm_Ms (d + 1) 33 [.inr (.inl 0), .inl v8] σ7 (fun r σ9 => ∃ v10, r = some (.inl v10) ∧ (v10 = 0 → qh_m35_51 (d + 1) Q x1 0 σ9) ∧ (¬ v10 = 0 → qh_m35_51 (d + 1) Q x1 1 σ9)))))))))) : mj_B mjm_L mjm_Ms (d + 2) 35 [.inr (.inl 0), .inl x1] σ Q := by
  refine mj_B_of (M := mjmM35) (ls := [some (.inr (.inl 0)), some (.inl x1), none, none, none]) rfl (mj_c1_all rfl) (Nat.le_of_ble_eq_true rfl) rfl ?_
  refine mr_aload (pc' := 1) rfl rfl rfl ?_
  refine mr_iload (pc' := 2) rfl rfl rfl ?_
  refine mr_call (t := [(9, 0)]) (pc' := 5) rfl [.inr (.inl 0), .inl x1] rfl rfl rfl (mj_recvV rfl) (Nat.le_of_ble_eq_true rfl) (mj_B_mono _ _ _ _ _ _ (fun r σ1 h => ?_) h)
  obtain ⟨v2, rfl, h⟩ := h
  refine mr_const (pc' := 6) rfl rfl (by unfold mj_r; decide) ?_
  refine mr_ic_ne (pc' := 9) rfl rfl (fun c => ?_) (fun c => ?_)
  · replace h := h.1 c
    refine mr_const (pc' := 50) rfl rfl (by unfold mj_r; decide) ?_
    refine mr_istore (pc' := 51) rfl rfl trivial (Nat.le_of_ble_eq_true rfl) rfl ?_
    exact mj_W_ls (mj_B_mono _) (mj_lev_of _ _ (by simp [mj_levb])) h
  · replace h := h.2 c
    refine mr_aload (pc' := 10) rfl rfl rfl ?_
    refine mr_iload (pc' := 11) rfl rfl rfl ?_
    refine mr_const (pc' := 12) rfl rfl (by unfold mj_r; decide) ?_
    refine mr_call (t := [(9, 0)]) (pc' := 15) rfl [.inr (.inl 0), .inl x1, .inl 1] rfl rfl rfl (mj_recvV rfl) (Nat.le_of_ble_eq_true rfl) (mj_B_mono _ _ _ _ _ _ (fun r σ3 h => ?_) h)
    obtain ⟨v4, rfl, h⟩ := h
    refine mr_call (t := []) (pc' := 18) rfl [.inl v4] rfl rfl rfl trivial (Nat.le_of_ble_eq_true rfl) (s_m4  ?_)
    refine mr_if_eq (pc' := 21) rfl rfl (fun c => ?_) (fun c => ?_)
    · replace h := h.1 (bo_0 c)
      refine mr_const (pc' := 50) rfl rfl (by unfold mj_r; decide) ?_
      refine mr_istore (pc' := 51) rfl rfl trivial (Nat.le_of_ble_eq_true rfl) rfl ?_
      exact mj_W_ls (mj_B_mono _) (mj_lev_of _ _ (by simp [mj_levb])) h
    · replace h := h.2 (bo_1 c)
      refine mr_aload (pc' := 22) rfl rfl rfl ?_
      refine mr_iload (pc' := 23) rfl rfl rfl ?_
      refine mr_const (pc' := 24) rfl rfl (by unfold mj_r; decide) ?_
      refine mr_call (t := [(9, 0)]) (pc' := 27) rfl [.inr (.inl 0), .inl x1, .inl 1] rfl rfl rfl (mj_recvV rfl) (Nat.le_of_ble_eq_true rfl) (mj_B_mono _ _ _ _ _ _ (fun r σ5 h => ?_) h)
      obtain ⟨v6, rfl, h⟩ := h
      refine mr_const (pc' := 29) rfl rfl (by unfold mj_r; decide) ?_
      refine mr_ic_le (pc' := 32) rfl rfl (fun c => ?_) (fun c => ?_)
      · replace h := h.1 c
        refine mr_const (pc' := 50) rfl rfl (by unfold mj_r; decide) ?_
        refine mr_istore (pc' := 51) rfl rfl trivial (Nat.le_of_ble_eq_true rfl) rfl ?_
        exact mj_W_ls (mj_B_mono _) (mj_lev_of _ _ (by simp [mj_levb])) h
      · replace h := h.2 c
        refine mr_aload (pc' := 33) rfl rfl rfl ?_
        refine mr_aload (pc' := 34) rfl rfl rfl ?_
        refine mr_iload (pc' := 35) rfl rfl rfl ?_
        refine mr_const (pc' := 36) rfl rfl (by unfold mj_r; decide) ?_
        refine mr_call (t := [(9, 0)]) (pc' := 39) rfl [.inr (.inl 0), .inl x1, .inl 2] rfl rfl rfl (mj_recvV rfl) (Nat.le_of_ble_eq_true rfl) (mj_B_mono _ _ _ _ _ _ (fun r σ7 h => ?_) h)
        obtain ⟨v8, rfl, h⟩ := h
        refine mr_call (t := [(9, 0)]) (pc' := 42) rfl [.inr (.inl 0), .inl v8] rfl rfl rfl (mj_recvV rfl) (Nat.le_of_ble_eq_true rfl) (mj_B_mono _ _ _ _ _ _ (fun r σ9 h => ?_) h)
        obtain ⟨v10, rfl, h⟩ := h
        refine mr_if_eq (pc' := 45) rfl rfl (fun c => ?_) (fun c => ?_)
        · replace h := h.1 c
          refine mr_const (pc' := 50) rfl rfl (by unfold mj_r; decide) ?_
          refine mr_istore (pc' := 51) rfl rfl trivial (Nat.le_of_ble_eq_true rfl) rfl ?_
          exact mj_W_ls (mj_B_mono _) (mj_lev_of _ _ (by simp [mj_levb])) h
        · replace h := h.2 c
          refine mr_const (pc' := 46) rfl rfl (by unfold mj_r; decide) ?_
          refine mr_goto rfl ?_
          refine mr_istore (pc' := 51) rfl rfl trivial (Nat.le_of_ble_eq_true rfl) rfl ?_
          exact mj_W_ls (mj_B_mono _) (mj_lev_of _ _ (by simp [mj_levb])) h
def qh_m36_17 (d : Nat) (Q : mj_Q) (y1 y2 y3 y4 : Int) (σ : mj_S) : Prop := mj_P mjm_L mjm_Ms d mjmo36 ((Option.some Jvm.ClassFile.FieldType.boolean)) Q 17 [some (.inr (.inl 0)), some (.inl y1), some (.inl y2), some (.inl y3), some (.inl y4), none, none] [] σ
set_option maxRecDepth 20000 in
theorem qw_m36_17 {d : Nat} {Q : mj_Q} {y1 y2 y3 y4 : Int} {σ : mj_S} (h : (y4 ≤ 0 → Q (some (.inl 1)) σ) ∧ (0 < y4 → mj_r (y4 + (-2)) ∧ 0 ≤ (y4 + (-2)) ∧ (y4 + (-2)) < 700 ∧ mj_r ((y4 + (-2)) + 1) ∧ 0 ≤ ((y4 + (-2)) + 1) ∧ ((y4 + (-2)) + 1) < 700 ∧ (¬ (536870912 ≤ (σ 8 (y4 + (-2)).toNat)) → ((σ 8 (y4 + (-2)).toNat) = (σ 8 ((y4 + (-2)) + 1).toNat) → qh_m36_17 (d + 2) Q y1 y2 y3 (y4 + (-2)) σ) ∧ (¬ (σ 8 (y4 + (-2)).toNat) = (σ 8 ((y4 + (-2)) + 1).toNat) → Q (some (.inl 0)) σ)) ∧ (536870912 ≤ (σ 8 (y4 + (-2)).toNat) → (¬ (536870912 ≤ (σ 8 ((y4 + (-2)) + 1).toNat)) → ((σ 8 (y4 + (-2)).toNat) = (σ 8 ((y4 + (-2)) + 1).toNat) → qh_m36_17 (d + 2) Q y1 y2 y3 (y4 + (-2)) σ) ∧ (¬ (σ 8 (y4 + (-2)).toNat) = (σ 8 ((y4 + (-2)) + 1).toNat) → Q (some (.inl 0)) σ)) ∧ (536870912 ≤ (σ 8 ((y4 + (-2)) + 1).toNat) → (y3 = 0 → z_pr (σ 8 (y4 + (-2)).toNat) ∧ 0 ≤ (y4 + (-2)) ∧ (y4 + (-2)) < 700 ∧ ∀ σ1, σ1 = mj_up σ 8 (y4 + (-2)).toNat (z_cd (σ 5) (σ 8 (y4 + (-2)).toNat)) → mj_r ((y4 + (-2)) + 1) ∧ z_pr (σ 8 ((y4 + (-2)) + 1).toNat) ∧ 0 ≤ ((y4 + (-2)) + 1) ∧ ((y4 + (-2)) + 1) < 700 ∧ ∀ σ2, σ2 = mj_up σ1 8 ((y4 + (-2)) + 1).toNat (z_cd (σ1 5) (σ 8 ((y4 + (-2)) + 1).toNat)) → mj_r ((y4 + (-2)) + 2) ∧ z_pr (σ 8 (y4 + (-2)).toNat) ∧ 0 ≤ ((y4 + (-2)) + 2) ∧ ((y4 + (-2)) + 2) < 700 ∧ ∀ σ3, σ3 = mj_up σ2 8 ((y4 + (-2)) + 2).toNat (z_cd (σ2 4) (σ 8 (y4 + (-2)).toNat)) → mj_r ((y4 + (-2)) + 3) ∧ z_pr (σ 8 ((y4 + (-2)) + 1).toNat) ∧ 0 ≤ ((y4 + (-2)) + 3) ∧ ((y4 + (-2)) + 3) < 700 ∧ ∀ σ4, σ4 = mj_up σ3 8 ((y4 + (-2)) + 3).toNat (z_cd (σ3 4) (σ 8 ((y4 + (-2)) + 1).toNat)) → mj_r ((y4 + (-2)) + 4) ∧ qh_m36_17 (d + 2) Q y1 y2 y3 ((y4 + (-2)) + 4) σ4) ∧ (¬ y3 = 0 → mj_r (σ 0 41 + 1) ∧ ∀ σ5, σ5 = z_se σ → (¬ σ 0 41 = σ 0 40 → z_pr (σ 8 (y4 + (-2)).toNat) ∧ 0 ≤ (y4 + (-2)) ∧ (y4 + (-2)) < 700 ∧ ∀ σ6, σ6 = mj_up σ5 8 (y4 + (-2)).toNat (z_cd (σ5 5) (σ 8 (y4 + (-2)).toNat)) → mj_r ((y4 + (-2)) + 1) ∧ z_pr (σ 8 ((y4 + (-2)) + 1).toNat) ∧ 0 ≤ ((y4 + (-2)) + 1) ∧ ((y4 + (-2)) + 1) < 700 ∧ ∀ σ7, σ7 = mj_up σ6 8 ((y4 + (-2)) + 1).toNat (z_cd (σ6 5) (σ 8 ((y4 + (-2)) + 1).toNat)) → mj_r ((y4 + (-2)) + 2) ∧ z_pr (σ 8 (y4 + (-2)).toNat) ∧ 0 ≤ ((y4 + (-2)) + 2) ∧ ((y4 + (-2)) + 2) < 700 ∧ ∀ σ8, σ8 = mj_up σ7 8 ((y4 + (-2)) + 2).toNat (z_cd (σ7 4) (σ 8 (y4 + (-2)).toNat)) → mj_r ((y4 + (-2)) + 3) ∧ z_pr (σ 8 ((y4 + (-2)) + 1).toNat) ∧ 0 ≤ ((y4 + (-2)) + 3) ∧ ((y4 + (-2)) + 3) < 700 ∧ ∀ σ9, σ9 = mj_up σ8 8 ((y4 + (-2)) + 3).toNat (z_cd (σ8 4) (σ 8 ((y4 + (-2)) + 1).toNat)) → mj_r ((y4 + (-2)) + 4) ∧ qh_m36_17 (d + 2) Q y1 y2 y3 ((y4 + (-2)) + 4) σ9) ∧ (¬ (¬ σ 0 41 = σ 0 40) → Q (some (.inl 0)) σ5)))))) : qh_m36_17 (d + 2) Q y1 y2 y3 y4 σ := by
  show mj_P mjm_L mjm_Ms (d + 2) mjmo36 ((Option.some Jvm.ClassFile.FieldType.boolean)) Q 17 [some (.inr (.inl 0)), some (.inl y1), some (.inl y2), some (.inl y3), some (.inl y4), none, none] [] σ
  refine mr_iload (pc' := 19) rfl rfl rfl ?_
  refine mr_if_le (pc' := 22) rfl rfl (fun c => ?_) (fun c => ?_)
  · replace h := h.1 c
    refine mr_const (pc' := 151) rfl rfl (by unfold mj_r; decide) ?_
    exact mr_iret rfl rfl (by simp [mj_fit]) h
  · replace h := h.2 c
    obtain ⟨h0, h⟩ := h
    refine mr_iinc (pc' := 25) rfl rfl rfl trivial h0 rfl ?_
    refine mr_aload (pc' := 26) rfl rfl rfl ?_
    refine mr_getr (ci := 0) (pc' := 29) rfl rfl rfl rfl ?_
    refine mr_iload (pc' := 31) rfl rfl rfl ?_
    obtain ⟨h0, h1, h⟩ := h
    refine mr_iald (pc' := 32) rfl rfl rfl h0 h1 ?_
    refine mr_istore (pc' := 34) rfl rfl trivial (Nat.le_of_ble_eq_true rfl) rfl ?_
    refine mr_aload (pc' := 35) rfl rfl rfl ?_
    refine mr_getr (ci := 0) (pc' := 38) rfl rfl rfl rfl ?_
    refine mr_iload (pc' := 40) rfl rfl rfl ?_
    refine mr_const (pc' := 41) rfl rfl (by unfold mj_r; decide) ?_
    obtain ⟨h0, h⟩ := h
    refine mr_iadd (pc' := 42) rfl rfl h0 ?_
    obtain ⟨h0, h1, h⟩ := h
    refine mr_iald (pc' := 43) rfl rfl rfl h0 h1 ?_
    refine mr_istore (pc' := 45) rfl rfl trivial (Nat.le_of_ble_eq_true rfl) rfl ?_
    refine mr_iload (pc' := 47) rfl rfl rfl ?_
    refine mr_call (t := []) (pc' := 50) rfl [.inl (σ 8 (y4 + (-2)).toNat)] rfl rfl rfl trivial (Nat.le_of_ble_eq_true rfl) (s_m3  ?_)
    refine mr_if_eq (pc' := 53) rfl rfl (fun c => ?_) (fun c => ?_)
    · replace h := h.1 (bo_0 c)
      refine mr_iload (pc' := 140) rfl rfl rfl ?_
      refine mr_iload (pc' := 142) rfl rfl rfl ?_
      refine mr_ic_eq (pc' := 145) rfl rfl (fun c => ?_) (fun c => ?_)
      · replace h := h.1 c
        refine mr_goto rfl ?_
        exact mj_W_ls (mj_B_mono _) (mj_lev_of _ _ (by simp [mj_levb])) h
      · replace h := h.2 c
        refine mr_const (pc' := 146) rfl rfl (by unfold mj_r; decide) ?_
        exact mr_iret rfl rfl (by simp [mj_fit]) h
    · replace h := h.2 (bo_1 c)
      refine mr_iload (pc' := 55) rfl rfl rfl ?_
      refine mr_call (t := []) (pc' := 58) rfl [.inl (σ 8 ((y4 + (-2)) + 1).toNat)] rfl rfl rfl trivial (Nat.le_of_ble_eq_true rfl) (s_m3  ?_)
      refine mr_if_eq (pc' := 61) rfl rfl (fun c => ?_) (fun c => ?_)
      · replace h := h.1 (bo_0 c)
        refine mr_iload (pc' := 140) rfl rfl rfl ?_
        refine mr_iload (pc' := 142) rfl rfl rfl ?_
        refine mr_ic_eq (pc' := 145) rfl rfl (fun c => ?_) (fun c => ?_)
        · replace h := h.1 c
          refine mr_goto rfl ?_
          exact mj_W_ls (mj_B_mono _) (mj_lev_of _ _ (by simp [mj_levb])) h
        · replace h := h.2 c
          refine mr_const (pc' := 146) rfl rfl (by unfold mj_r; decide) ?_
          exact mr_iret rfl rfl (by simp [mj_fit]) h
      · replace h := h.2 (bo_1 c)
        refine mr_iload (pc' := 62) rfl rfl rfl ?_
        refine mr_if_eq (pc' := 65) rfl rfl (fun c => ?_) (fun c => ?_)
        · replace h := h.1 c
          refine mr_aload (pc' := 75) rfl rfl rfl ?_
          refine mr_getr (ci := 0) (pc' := 78) rfl rfl rfl rfl ?_
          refine mr_iload (pc' := 80) rfl rfl rfl ?_
          refine mr_aload (pc' := 81) rfl rfl rfl ?_
          refine mr_iload (pc' := 83) rfl rfl rfl ?_
          obtain ⟨h0, h⟩ := h
          refine mr_call (t := [(9, 0)]) (pc' := 86) rfl [.inr (.inl 0), .inl (σ 8 (y4 + (-2)).toNat)] rfl rfl rfl (mj_recvV rfl) (Nat.le_of_ble_eq_true rfl) (s_m6 h0 ?_)
          obtain ⟨h0, h1, h⟩ := h
          refine mr_iast (pc' := 87) rfl rfl rfl h0 h1 (fun σ1 e9 => ?_)
          replace h := h σ1 e9
          refine mr_aload (pc' := 88) rfl rfl rfl ?_
          refine mr_getr (ci := 0) (pc' := 91) rfl rfl rfl rfl ?_
          refine mr_iload (pc' := 93) rfl rfl rfl ?_
          refine mr_const (pc' := 94) rfl rfl (by unfold mj_r; decide) ?_
          obtain ⟨h0, h⟩ := h
          refine mr_iadd (pc' := 95) rfl rfl h0 ?_
          refine mr_aload (pc' := 96) rfl rfl rfl ?_
          refine mr_iload (pc' := 98) rfl rfl rfl ?_
          obtain ⟨h0, h⟩ := h
          refine mr_call (t := [(9, 0)]) (pc' := 101) rfl [.inr (.inl 0), .inl (σ 8 ((y4 + (-2)) + 1).toNat)] rfl rfl rfl (mj_recvV rfl) (Nat.le_of_ble_eq_true rfl) (s_m6 h0 ?_)
          obtain ⟨h0, h1, h⟩ := h
          refine mr_iast (pc' := 102) rfl rfl rfl h0 h1 (fun σ2 e9 => ?_)
          replace h := h σ2 e9
          refine mr_aload (pc' := 103) rfl rfl rfl ?_
          refine mr_getr (ci := 0) (pc' := 106) rfl rfl rfl rfl ?_
          refine mr_iload (pc' := 108) rfl rfl rfl ?_
          refine mr_const (pc' := 109) rfl rfl (by unfold mj_r; decide) ?_
          obtain ⟨h0, h⟩ := h
          refine mr_iadd (pc' := 110) rfl rfl h0 ?_
          refine mr_aload (pc' := 111) rfl rfl rfl ?_
          refine mr_iload (pc' := 113) rfl rfl rfl ?_
          obtain ⟨h0, h⟩ := h
          refine mr_call (t := [(9, 0)]) (pc' := 116) rfl [.inr (.inl 0), .inl (σ 8 (y4 + (-2)).toNat)] rfl rfl rfl (mj_recvV rfl) (Nat.le_of_ble_eq_true rfl) (s_m5 h0 ?_)
          obtain ⟨h0, h1, h⟩ := h
          refine mr_iast (pc' := 117) rfl rfl rfl h0 h1 (fun σ3 e9 => ?_)
          replace h := h σ3 e9
          refine mr_aload (pc' := 118) rfl rfl rfl ?_
          refine mr_getr (ci := 0) (pc' := 121) rfl rfl rfl rfl ?_
          refine mr_iload (pc' := 123) rfl rfl rfl ?_
          refine mr_const (pc' := 124) rfl rfl (by unfold mj_r; decide) ?_
          obtain ⟨h0, h⟩ := h
          refine mr_iadd (pc' := 125) rfl rfl h0 ?_
          refine mr_aload (pc' := 126) rfl rfl rfl ?_
          refine mr_iload (pc' := 128) rfl rfl rfl ?_
          obtain ⟨h0, h⟩ := h
          refine mr_call (t := [(9, 0)]) (pc' := 131) rfl [.inr (.inl 0), .inl (σ 8 ((y4 + (-2)) + 1).toNat)] rfl rfl rfl (mj_recvV rfl) (Nat.le_of_ble_eq_true rfl) (s_m5 h0 ?_)
          obtain ⟨h0, h1, h⟩ := h
          refine mr_iast (pc' := 132) rfl rfl rfl h0 h1 (fun σ4 e9 => ?_)
          replace h := h σ4 e9
          obtain ⟨h0, h⟩ := h
          refine mr_iinc (pc' := 135) rfl rfl rfl trivial h0 rfl ?_
          refine mr_goto rfl ?_
          refine mr_goto rfl ?_
          exact mj_W_ls (mj_B_mono _) (mj_lev_of _ _ (by simp [mj_levb])) h
        · replace h := h.2 c
          refine mr_aload (pc' := 66) rfl rfl rfl ?_
          obtain ⟨h0, h⟩ := h
          refine mr_call (t := [(9, 0)]) (pc' := 69) rfl [.inr (.inl 0)] rfl rfl rfl (mj_recvV rfl) (Nat.le_of_ble_eq_true rfl) (s_m37 h0 (fun σ5 e9 => ?_))
          replace h := h σ5 e9
          refine mr_if_ne (pc' := 72) rfl rfl (fun c => ?_) (fun c => ?_)
          · replace h := h.1 (bo_1 c)
            refine mr_aload (pc' := 75) rfl rfl rfl ?_
            refine mr_getr (ci := 0) (pc' := 78) rfl rfl rfl rfl ?_
            refine mr_iload (pc' := 80) rfl rfl rfl ?_
            refine mr_aload (pc' := 81) rfl rfl rfl ?_
            refine mr_iload (pc' := 83) rfl rfl rfl ?_
            obtain ⟨h0, h⟩ := h
            refine mr_call (t := [(9, 0)]) (pc' := 86) rfl [.inr (.inl 0), .inl (σ 8 (y4 + (-2)).toNat)] rfl rfl rfl (mj_recvV rfl) (Nat.le_of_ble_eq_true rfl) (s_m6 h0 ?_)
            obtain ⟨h0, h1, h⟩ := h
            refine mr_iast (pc' := 87) rfl rfl rfl h0 h1 (fun σ6 e9 => ?_)
            replace h := h σ6 e9
            refine mr_aload (pc' := 88) rfl rfl rfl ?_
            refine mr_getr (ci := 0) (pc' := 91) rfl rfl rfl rfl ?_
            refine mr_iload (pc' := 93) rfl rfl rfl ?_
            refine mr_const (pc' := 94) rfl rfl (by unfold mj_r; decide) ?_
            obtain ⟨h0, h⟩ := h
            refine mr_iadd (pc' := 95) rfl rfl h0 ?_
            refine mr_aload (pc' := 96) rfl rfl rfl ?_
            refine mr_iload (pc' := 98) rfl rfl rfl ?_
            obtain ⟨h0, h⟩ := h
            refine mr_call (t := [(9, 0)]) (pc' := 101) rfl [.inr (.inl 0), .inl (σ 8 ((y4 + (-2)) + 1).toNat)] rfl rfl rfl (mj_recvV rfl) (Nat.le_of_ble_eq_true rfl) (s_m6 h0 ?_)
            obtain ⟨h0, h1, h⟩ := h
            refine mr_iast (pc' := 102) rfl rfl rfl h0 h1 (fun σ7 e9 => ?_)
            replace h := h σ7 e9
            refine mr_aload (pc' := 103) rfl rfl rfl ?_
            refine mr_getr (ci := 0) (pc' := 106) rfl rfl rfl rfl ?_
            refine mr_iload (pc' := 108) rfl rfl rfl ?_
            refine mr_const (pc' := 109) rfl rfl (by unfold mj_r; decide) ?_
            obtain ⟨h0, h⟩ := h
            refine mr_iadd (pc' := 110) rfl rfl h0 ?_
            refine mr_aload (pc' := 111) rfl rfl rfl ?_
            refine mr_iload (pc' := 113) rfl rfl rfl ?_
            obtain ⟨h0, h⟩ := h
            refine mr_call (t := [(9, 0)]) (pc' := 116) rfl [.inr (.inl 0), .inl (σ 8 (y4 + (-2)).toNat)] rfl rfl rfl (mj_recvV rfl) (Nat.le_of_ble_eq_true rfl) (s_m5 h0 ?_)
            obtain ⟨h0, h1, h⟩ := h
            refine mr_iast (pc' := 117) rfl rfl rfl h0 h1 (fun σ8 e9 => ?_)
            replace h := h σ8 e9
            refine mr_aload (pc' := 118) rfl rfl rfl ?_
            refine mr_getr (ci := 0) (pc' := 121) rfl rfl rfl rfl ?_
            refine mr_iload (pc' := 123) rfl rfl rfl ?_
            refine mr_const (pc' := 124) rfl rfl (by unfold mj_r; decide) ?_
            obtain ⟨h0, h⟩ := h
            refine mr_iadd (pc' := 125) rfl rfl h0 ?_
            refine mr_aload (pc' := 126) rfl rfl rfl ?_
            refine mr_iload (pc' := 128) rfl rfl rfl ?_
            obtain ⟨h0, h⟩ := h
            refine mr_call (t := [(9, 0)]) (pc' := 131) rfl [.inr (.inl 0), .inl (σ 8 ((y4 + (-2)) + 1).toNat)] rfl rfl rfl (mj_recvV rfl) (Nat.le_of_ble_eq_true rfl) (s_m5 h0 ?_)
            obtain ⟨h0, h1, h⟩ := h
            refine mr_iast (pc' := 132) rfl rfl rfl h0 h1 (fun σ9 e9 => ?_)
            replace h := h σ9 e9
            obtain ⟨h0, h⟩ := h
            refine mr_iinc (pc' := 135) rfl rfl rfl trivial h0 rfl ?_
            refine mr_goto rfl ?_
            refine mr_goto rfl ?_
            exact mj_W_ls (mj_B_mono _) (mj_lev_of _ _ (by simp [mj_levb])) h
          · replace h := h.2 (bo_0 c)
            refine mr_const (pc' := 73) rfl rfl (by unfold mj_r; decide) ?_
            exact mr_iret rfl rfl (by simp [mj_fit]) h
set_option maxRecDepth 20000 in
/-- ListSpeakerModel.isSame_ -/
theorem wq_m36 {d : Nat} {σ : mj_S} {Q : mj_Q} {x1 x2 x3 : Int} (h : 0 ≤ (0 : Int) ∧ (0 : Int) < 700 ∧ ∀ σ1, σ1 = mj_up σ 8 (0 : Int).toNat x1 → 0 ≤ (1 : Int) ∧ (1 : Int) < 700 ∧ ∀ σ2, σ2 = mj_up σ1 8 (1 : Int).toNat x2 → qh_m36_17 (d + 2) Q x1 x2 x3 2 σ2) : mj_B mjm_L mjm_Ms (d + 3) 36 [.inr (.inl 0), .inl x1, .inl x2, .inl x3] σ Q := by
  refine mj_B_of (M := mjmM36) (ls := [some (.inr (.inl 0)), some (.inl x1), some (.inl x2), some (.inl x3), none, none, none]) rfl (mj_c1_all rfl) (Nat.le_of_ble_eq_true rfl) rfl ?_
  refine mr_const (pc' := 1) rfl rfl (by unfold mj_r; decide) ?_
  refine mr_istore (pc' := 3) rfl rfl trivial (Nat.le_of_ble_eq_true rfl) rfl ?_
  refine mr_aload (pc' := 4) rfl rfl rfl ?_
  refine mr_getr (ci := 0) (pc' := 7) rfl rfl rfl rfl ?_
  refine mr_const (pc' := 8) rfl rfl (by unfold mj_r; decide) ?_
  refine mr_iload (pc' := 9) rfl rfl rfl ?_
  obtain ⟨h0, h1, h⟩ := h
  refine mr_iast (pc' := 10) rfl rfl rfl h0 h1 (fun σ1 e9 => ?_)
  replace h := h σ1 e9
  refine mr_aload (pc' := 11) rfl rfl rfl ?_
  refine mr_getr (ci := 0) (pc' := 14) rfl rfl rfl rfl ?_
  refine mr_const (pc' := 15) rfl rfl (by unfold mj_r; decide) ?_
  refine mr_iload (pc' := 16) rfl rfl rfl ?_
  obtain ⟨h0, h1, h⟩ := h
  refine mr_iast (pc' := 17) rfl rfl rfl h0 h1 (fun σ2 e9 => ?_)
  replace h := h σ2 e9
  exact mj_W_ls (mj_B_mono _) (mj_lev_of _ _ (by simp [mj_levb])) h
def qh_m40_33 (d : Nat) (Q : mj_Q) (y1 : Int) (σ : mj_S) : Prop := mj_P mjm_L mjm_Ms d mjmo40 ((Option.some Jvm.ClassFile.FieldType.int)) Q 33 [some (.inr (.inl 0)), some (.inl y1)] [] σ
set_option maxRecDepth 20000 in
theorem qw_m40_33 {d : Nat} {Q : mj_Q} {y1 : Int} {σ : mj_S} (h : ((σ 0 26) ≤ 0 → ((σ 0 5) ≤ 0 → 1 ≤ σ 0 31 ∧ σ 0 31 ≤ 100 ∧ ∀ σ1, σ1 = mj_up σ 0 31 (σ 0 31 - 1) → Q (some (.inl (σ 20 (σ 0 31 - 1).toNat))) σ1) ∧ (0 < (σ 0 5) → Q (some (.inl 268435456)) σ)) ∧ (0 < (σ 0 26) → (¬ (σ 0 5) = 0 → ((σ 0 5) ≤ 0 → 1 ≤ σ 0 31 ∧ σ 0 31 ≤ 100 ∧ ∀ σ2, σ2 = mj_up σ 0 31 (σ 0 31 - 1) → Q (some (.inl (σ 20 (σ 0 31 - 1).toNat))) σ2) ∧ (0 < (σ 0 5) → Q (some (.inl 268435456)) σ)) ∧ ((σ 0 5) = 0 → mj_r ((σ 0 26) - 1) ∧ ∀ σ3, σ3 = mj_up σ 0 26 ((σ 0 26) - 1) → 0 ≤ (σ3 0 26) ∧ (σ3 0 26) < 3000 ∧ 0 ≤ (σ3 0 26) ∧ (σ3 0 26) < 3000 ∧ 0 ≤ (σ3 0 26) ∧ (σ3 0 26) < 3000 ∧ 0 ≤ (σ3 0 26) ∧ (σ3 0 26) < 3000 ∧ mj_B mjm_L mjm_Ms (d + 1) 41 [.inr (.inl 0), .inl (σ3 16 (σ3 0 26).toNat), .inl (σ3 17 (σ3 0 26).toNat), .inl (σ3 18 (σ3 0 26).toNat), .inl (σ3 19 (σ3 0 26).toNat)] σ3 (fun r σ4 => r = none ∧ qh_m40_33 (d + 1) Q y1 σ4)))) : qh_m40_33 (d + 1) Q y1 σ := by
  show mj_P mjm_L mjm_Ms (d + 1) mjmo40 ((Option.some Jvm.ClassFile.FieldType.int)) Q 33 [some (.inr (.inl 0)), some (.inl y1)] [] σ
  refine mr_aload (pc' := 34) rfl rfl rfl ?_
  refine mr_get (ci := 0) (pc' := 37) rfl rfl rfl rfl ?_
  refine mr_if_le (pc' := 40) rfl rfl (fun c => ?_) (fun c => ?_)
  · replace h := h.1 c
    refine mr_aload (pc' := 101) rfl rfl rfl ?_
    refine mr_get (ci := 0) (pc' := 104) rfl rfl rfl rfl ?_
    refine mr_if_le (pc' := 107) rfl rfl (fun c => ?_) (fun c => ?_)
    · replace h := h.1 c
      refine mr_aload (pc' := 113) rfl rfl rfl ?_
      obtain ⟨h0, h1, h⟩ := h
      refine mr_call (t := [(9, 0)]) (pc' := 116) rfl [.inr (.inl 0)] rfl rfl rfl (mj_recvV rfl) (Nat.le_of_ble_eq_true rfl) (s_m39 h0 h1 (fun σ1 e9 => ?_))
      replace h := h σ1 e9
      exact mr_iret rfl rfl trivial h
    · replace h := h.2 c
      refine mr_const (pc' := 109) rfl rfl (by unfold mj_r; decide) ?_
      refine mr_goto rfl ?_
      exact mr_iret rfl rfl trivial h
  · replace h := h.2 c
    refine mr_aload (pc' := 41) rfl rfl rfl ?_
    refine mr_get (ci := 0) (pc' := 44) rfl rfl rfl rfl ?_
    refine mr_if_ne (pc' := 47) rfl rfl (fun c => ?_) (fun c => ?_)
    · replace h := h.1 c
      refine mr_aload (pc' := 101) rfl rfl rfl ?_
      refine mr_get (ci := 0) (pc' := 104) rfl rfl rfl rfl ?_
      refine mr_if_le (pc' := 107) rfl rfl (fun c => ?_) (fun c => ?_)
      · replace h := h.1 c
        refine mr_aload (pc' := 113) rfl rfl rfl ?_
        obtain ⟨h0, h1, h⟩ := h
        refine mr_call (t := [(9, 0)]) (pc' := 116) rfl [.inr (.inl 0)] rfl rfl rfl (mj_recvV rfl) (Nat.le_of_ble_eq_true rfl) (s_m39 h0 h1 (fun σ2 e9 => ?_))
        replace h := h σ2 e9
        exact mr_iret rfl rfl trivial h
      · replace h := h.2 c
        refine mr_const (pc' := 109) rfl rfl (by unfold mj_r; decide) ?_
        refine mr_goto rfl ?_
        exact mr_iret rfl rfl trivial h
    · replace h := h.2 c
      refine mr_aload (pc' := 48) rfl rfl rfl ?_
      refine mr_dup (pc' := 49) rfl rfl trivial ?_
      refine mr_get (ci := 0) (pc' := 52) rfl rfl rfl rfl ?_
      refine mr_const (pc' := 53) rfl rfl (by unfold mj_r; decide) ?_
      obtain ⟨h0, h⟩ := h
      refine mr_isub (pc' := 54) rfl rfl h0 ?_
      refine mr_put (pc' := 57) rfl rfl rfl rfl (fun σ3 e9 => ?_)
      replace h := h σ3 e9
      refine mr_aload (pc' := 58) rfl rfl rfl ?_
      refine mr_aload (pc' := 59) rfl rfl rfl ?_
      refine mr_getr (ci := 0) (pc' := 62) rfl rfl rfl rfl ?_
      refine mr_aload (pc' := 63) rfl rfl rfl ?_
      refine mr_get (ci := 0) (pc' := 66) rfl rfl rfl rfl ?_
      obtain ⟨h0, h1, h⟩ := h
      refine mr_iald (pc' := 67) rfl rfl rfl h0 h1 ?_
      refine mr_aload (pc' := 68) rfl rfl rfl ?_
      refine mr_getr (ci := 0) (pc' := 71) rfl rfl rfl rfl ?_
      refine mr_aload (pc' := 72) rfl rfl rfl ?_
      refine mr_get (ci := 0) (pc' := 75) rfl rfl rfl rfl ?_
      obtain ⟨h0, h1, h⟩ := h
      refine mr_iald (pc' := 76) rfl rfl rfl h0 h1 ?_
      refine mr_aload (pc' := 77) rfl rfl rfl ?_
      refine mr_getr (ci := 0) (pc' := 80) rfl rfl rfl rfl ?_
      refine mr_aload (pc' := 81) rfl rfl rfl ?_
      refine mr_get (ci := 0) (pc' := 84) rfl rfl rfl rfl ?_
      obtain ⟨h0, h1, h⟩ := h
      refine mr_iald (pc' := 85) rfl rfl rfl h0 h1 ?_
      refine mr_aload (pc' := 86) rfl rfl rfl ?_
      refine mr_getr (ci := 0) (pc' := 89) rfl rfl rfl rfl ?_
      refine mr_aload (pc' := 90) rfl rfl rfl ?_
      refine mr_get (ci := 0) (pc' := 93) rfl rfl rfl rfl ?_
      obtain ⟨h0, h1, h⟩ := h
      refine mr_zald (pc' := 94) rfl rfl rfl h0 h1 ?_
      refine mr_call (t := [(9, 0)]) (pc' := 97) rfl [.inr (.inl 0), .inl (σ3 16 (σ3 0 26).toNat), .inl (σ3 17 (σ3 0 26).toNat), .inl (σ3 18 (σ3 0 26).toNat), .inl (σ3 19 (σ3 0 26).toNat)] rfl rfl rfl (mj_recvV rfl) (Nat.le_of_ble_eq_true rfl) (mj_B_mono _ _ _ _ _ _ (fun r σ4 h => ?_) h)
      obtain ⟨rfl, h⟩ := h
      refine mr_goto rfl ?_
      exact mj_W_ls (mj_B_mono _) (mj_lev_of _ _ (by simp [mj_levb])) h
set_option maxRecDepth 20000 in
/-- ListSpeakerModel.carryOut_ -/
theorem wq_m40 {d : Nat} {σ : mj_S} {Q : mj_Q} {x1 : Int} (h : ∀ σ1, σ1 = mj_up σ 0 31 0 → ∀ σ2, σ2 = mj_up σ1 0 26 0 → ∀ σ3, σ3 = mj_up σ2 0 33 0 → ∀ σ4, σ4 = mj_up σ3 0 36 0 → ∀ σ5, σ5 = mj_up σ4 0 38 0 → 0 ≤ σ5 0 26 ∧ σ5 0 26 < 3000 ∧ mj_fit .boolean 0 ∧ ∀ σ6, σ6 = z_la σ5 1 x1 0 0 → qh_m40_33 (d + 1) Q x1 σ6) : mj_B mjm_L mjm_Ms (d + 2) 40 [.inr (.inl 0), .inl x1] σ Q := by
  refine mj_B_of (M := mjmM40) (ls := [some (.inr (.inl 0)), some (.inl x1)]) rfl (mj_c1_all rfl) (Nat.le_of_ble_eq_true rfl) rfl ?_
  refine mr_aload (pc' := 1) rfl rfl rfl ?_
  refine mr_const (pc' := 2) rfl rfl (by unfold mj_r; decide) ?_
  refine mr_put (pc' := 5) rfl rfl rfl rfl (fun σ1 e9 => ?_)
  replace h := h σ1 e9
  refine mr_aload (pc' := 6) rfl rfl rfl ?_
  refine mr_const (pc' := 7) rfl rfl (by unfold mj_r; decide) ?_
  refine mr_put (pc' := 10) rfl rfl rfl rfl (fun σ2 e9 => ?_)
  replace h := h σ2 e9
  refine mr_aload (pc' := 11) rfl rfl rfl ?_
  refine mr_const (pc' := 12) rfl rfl (by unfold mj_r; decide) ?_
  refine mr_put (pc' := 15) rfl rfl rfl rfl (fun σ3 e9 => ?_)
  replace h := h σ3 e9
  refine mr_aload (pc' := 16) rfl rfl rfl ?_
  refine mr_const (pc' := 17) rfl rfl (by unfold mj_r; decide) ?_
  refine mr_put (pc' := 20) rfl rfl rfl rfl (fun σ4 e9 => ?_)
  replace h := h σ4 e9
  refine mr_aload (pc' := 21) rfl rfl rfl ?_
  refine mr_const (pc' := 22) rfl rfl (by unfold mj_r; decide) ?_
  refine mr_put (pc' := 25) rfl rfl rfl rfl (fun σ5 e9 => ?_)
  replace h := h σ5 e9
  refine mr_aload (pc' := 26) rfl rfl rfl ?_
  refine mr_const (pc' := 27) rfl rfl (by unfold mj_r; decide) ?_
  refine mr_iload (pc' := 28) rfl rfl rfl ?_
  refine mr_const (pc' := 29) rfl rfl (by unfold mj_r; decide) ?_
  refine mr_const (pc' := 30) rfl rfl (by unfold mj_r; decide) ?_
  obtain ⟨h0, h1, h2, h⟩ := h
  refine mr_call (t := [(9, 0)]) (pc' := 33) rfl [.inr (.inl 0), .inl 1, .inl x1, .inl 0, .inl 0] rfl rfl rfl (mj_recvV rfl) (Nat.le_of_ble_eq_true rfl) (s_m24 h0 h1 h2 (fun σ6 e9 => ?_))
  replace h := h σ6 e9
  exact mj_W_ls (mj_B_mono _) (mj_lev_of _ _ (by simp [mj_levb])) h
def qh_m41_388 (d : Nat) (Q : mj_Q) (y1 y2 y3 y4 y5 : Int) (σ : mj_S) : Prop := mj_P mjm_L mjm_Ms d mjmo41 ((Option.none : Option Jvm.ClassFile.FieldType)) Q 388 [some (.inr (.inl 0)), some (.inl y1), some (.inl y2), some (.inl y3), some (.inl y4), some (.inl y5)] [] σ
set_option maxRecDepth 20000 in
theorem qw_m41_388 {d : Nat} {Q : mj_Q} {y1 y2 y3 y4 y5 : Int} {σ : mj_S} (h : (y3 ≤ y5 → Q none σ) ∧ (y5 < y3 → (¬ (σ 0 5) = 0 → Q none σ) ∧ ((σ 0 5) = 0 → mj_B mjm_L mjm_Ms (d + 2) 48 [.inr (.inl 0)] σ (fun r σ1 => r = none ∧ mj_r (y5 + 1) ∧ qh_m41_388 (d + 2) Q y1 y2 y3 y4 (y5 + 1) σ1)))) : qh_m41_388 (d + 2) Q y1 y2 y3 y4 y5 σ := by
  show mj_P mjm_L mjm_Ms (d + 2) mjmo41 ((Option.none : Option Jvm.ClassFile.FieldType)) Q 388 [some (.inr (.inl 0)), some (.inl y1), some (.inl y2), some (.inl y3), some (.inl y4), some (.inl y5)] [] σ
  refine mr_iload (pc' := 390) rfl rfl rfl ?_
  refine mr_iload (pc' := 391) rfl rfl rfl ?_
  refine mr_ic_ge (pc' := 394) rfl rfl (fun c => ?_) (fun c => ?_)
  · replace h := h.1 c
    refine mr_goto rfl ?_
    exact mr_ret rfl rfl h
  · replace h := h.2 c
    refine mr_aload (pc' := 395) rfl rfl rfl ?_
    refine mr_get (ci := 0) (pc' := 398) rfl rfl rfl rfl ?_
    refine mr_if_ne (pc' := 401) rfl rfl (fun c => ?_) (fun c => ?_)
    · replace h := h.1 c
      refine mr_goto rfl ?_
      exact mr_ret rfl rfl h
    · replace h := h.2 c
      refine mr_aload (pc' := 402) rfl rfl rfl ?_
      refine mr_call (t := [(9, 0)]) (pc' := 405) rfl [.inr (.inl 0)] rfl rfl rfl (mj_recvV rfl) (Nat.le_of_ble_eq_true rfl) (mj_B_mono _ _ _ _ _ _ (fun r σ1 h => ?_) h)
      obtain ⟨rfl, h⟩ := h
      obtain ⟨h0, h⟩ := h
      refine mr_iinc (pc' := 408) rfl rfl rfl trivial h0 rfl ?_
      refine mr_goto rfl ?_
      exact mj_W_ls (mj_B_mono _) (mj_lev_of _ _ (by simp [mj_levb])) h
set_option maxRecDepth 20000 in
/-- ListSpeakerModel.act_ -/
theorem wq_m41 {d : Nat} {σ : mj_S} {Q : mj_Q} {x1 x2 x3 x4 : Int} (h : (x1 = 1 → mj_r (σ 0 41 + 1) ∧ ∀ σ1, σ1 = z_se σ → (¬ (¬ σ 0 41 = σ 0 40) → Q none σ1) ∧ (¬ σ 0 41 = σ 0 40 → mj_B mjm_L mjm_Ms (d + 2) 46 [.inr (.inl 0), .inl x2, .inl x4] σ1 (fun r σ2 => r = none ∧ Q none σ2))) ∧ (x1 = 2 → (¬ (536870912 ≤ x2) → Q none σ) ∧ (536870912 ≤ x2 → z_pr x2 ∧ 0 ≤ σ 0 26 ∧ σ 0 26 < 3000 ∧ mj_fit .boolean 0 ∧ ∀ σ3, σ3 = z_la σ 2 (z_cd (σ 5) x2) x3 0 → (¬ x3 = 0 → z_pr x2 ∧ mj_B mjm_L mjm_Ms (d + 2) 8 [.inr (.inl 0), .inl (z_cd (σ3 4) x2), .inl 1] σ3 (fun r σ4 => ∃ v5, r = some (.inl v5) ∧ 0 ≤ σ4 0 26 ∧ σ4 0 26 < 3000 ∧ mj_fit .boolean 0 ∧ ∀ σ6, σ6 = z_la σ4 1 v5 0 0 → Q none σ6)) ∧ (x3 = 0 → z_pr x2 ∧ 0 ≤ σ3 0 26 ∧ σ3 0 26 < 3000 ∧ mj_fit .boolean 0 ∧ ∀ σ7, σ7 = z_la σ3 1 (z_cd (σ3 4) x2) 0 0 → Q none σ7))) ∧ (x1 = 3 → 1 ≤ σ 0 31 ∧ σ 0 31 ≤ 100 ∧ ∀ σ8, σ8 = mj_up σ 0 31 (σ 0 31 - 1) → ((σ 20 (σ 0 31 - 1).toNat) = 268435456 → mj_B mjm_L mjm_Ms (d + 2) 8 [.inr (.inl 0), .inl x2, .inl 3] σ8 (fun r σ9 => ∃ v10, r = some (.inl v10) ∧ 0 ≤ σ9 0 26 ∧ σ9 0 26 < 3000 ∧ mj_fit .boolean x4 ∧ ∀ σ11, σ11 = z_la σ9 1 v10 0 x4 → Q none σ11)) ∧ (¬ (σ 20 (σ 0 31 - 1).toNat) = 268435456 → mj_B mjm_L mjm_Ms (d + 2) 8 [.inr (.inl 0), .inl x2, .inl 2] σ8 (fun r σ12 => ∃ v13, r = some (.inl v13) ∧ 0 ≤ σ12 0 26 ∧ σ12 0 26 < 3000 ∧ mj_fit .boolean x4 ∧ ∀ σ14, σ14 = z_la σ12 1 v13 0 x4 → Q none σ14))) ∧ (x1 = 4 → mj_B mjm_L mjm_Ms (d + 2) 42 [.inr (.inl 0), .inl x2, .inl x3, .inl x4] σ (fun r σ15 => r = none ∧ Q none σ15)) ∧ (x1 = 5 → mj_B mjm_L mjm_Ms (d + 2) 44 [.inr (.inl 0), .inl x3, .inl x3] σ (fun r σ16 => r = none ∧ Q none σ16)) ∧ (x1 = 6 → (¬ (536870912 ≤ x2) → 0 ≤ σ 0 31 ∧ σ 0 31 ≤ 100 ∧ ∀ σ17, σ17 = z_pu σ 268435456 → Q none σ17) ∧ (536870912 ≤ x2 → 0 ≤ σ 0 26 ∧ σ 0 26 < 3000 ∧ mj_fit .boolean x4 ∧ ∀ σ18, σ18 = z_la σ 7 x2 0 x4 → z_pr x2 ∧ z_pr (z_cd (σ18 4) x2) ∧ 0 ≤ σ18 0 26 ∧ σ18 0 26 < 3000 ∧ mj_fit .boolean 0 ∧ ∀ σ19, σ19 = z_la σ18 1 (z_cd (σ18 4) (z_cd (σ18 4) x2)) 0 0 → Q none σ19)) ∧ (x1 = 7 → 1 ≤ σ 0 31 ∧ σ 0 31 ≤ 100 ∧ ∀ σ20, σ20 = mj_up σ 0 31 (σ 0 31 - 1) → ((σ 20 (σ 0 31 - 1).toNat) = 268435456 → z_pr x2 ∧ 0 ≤ σ20 0 26 ∧ σ20 0 26 < 3000 ∧ mj_fit .boolean x4 ∧ ∀ σ21, σ21 = z_la σ20 6 (z_cd (σ20 5) x2) 0 x4 → Q none σ21) ∧ (¬ (σ 20 (σ 0 31 - 1).toNat) = 268435456 → z_pr x2 ∧ mj_B mjm_L mjm_Ms (d + 2) 8 [.inr (.inl 0), .inl (z_cd (σ20 4) x2), .inl 1] σ20 (fun r σ22 => ∃ v23, r = some (.inl v23) ∧ 0 ≤ σ22 0 26 ∧ σ22 0 26 < 3000 ∧ mj_fit .boolean x4 ∧ ∀ σ24, σ24 = z_la σ22 1 v23 0 x4 → Q none σ24))) ∧ (x1 = 8 → mj_B mjm_L mjm_Ms (d + 2) 45 [.inr (.inl 0), .inl x1, .inl x2, .inl x4] σ (fun r σ25 => r = none ∧ Q none σ25)) ∧ (x1 = 9 → mj_r ((σ 0 31) - 1) ∧ 0 ≤ ((σ 0 31) - 1) ∧ ((σ 0 31) - 1) < 100 ∧ ((σ 20 ((σ 0 31) - 1).toNat) = 268435456 → Q none σ) ∧ (¬ (σ 20 ((σ 0 31) - 1).toNat) = 268435456 → mj_r ((σ 0 31) - 1) ∧ ∀ σ26, σ26 = mj_up σ 0 31 ((σ 0 31) - 1) → z_pr x2 ∧ 0 ≤ σ26 0 26 ∧ σ26 0 26 < 3000 ∧ mj_fit .boolean x4 ∧ ∀ σ27, σ27 = z_la σ26 8 (z_cd (σ26 5) x2) 0 x4 → Q none σ27)) ∧ (x1 = 10 → mj_B mjm_L mjm_Ms (d + 2) 45 [.inr (.inl 0), .inl x1, .inl x2, .inl x4] σ (fun r σ28 => r = none ∧ Q none σ28)) ∧ (x1 = 11 → mj_r ((σ 0 31) - 1) ∧ 0 ≤ ((σ 0 31) - 1) ∧ ((σ 0 31) - 1) < 100 ∧ (¬ (σ 20 ((σ 0 31) - 1).toNat) = 268435456 → Q none σ) ∧ ((σ 20 ((σ 0 31) - 1).toNat) = 268435456 → mj_r ((σ 0 31) - 1) ∧ ∀ σ29, σ29 = mj_up σ 0 31 ((σ 0 31) - 1) → z_pr x2 ∧ 0 ≤ σ29 0 26 ∧ σ29 0 26 < 3000 ∧ mj_fit .boolean x4 ∧ ∀ σ30, σ30 = z_la σ29 10 (z_cd (σ29 5) x2) 0 x4 → Q none σ30)) ∧ (x1 = 12 → 0 ≤ σ 0 31 ∧ σ 0 31 ≤ 100 ∧ ∀ σ31, σ31 = z_pu σ 268435456 → qh_m41_388 (d + 2) Q x1 x2 x3 x4 0 σ31) ∧ (x1 = 13 → mj_B mjm_L mjm_Ms (d + 2) 53 [.inr (.inl 0), .inl x3] σ (fun r σ32 => r = none ∧ Q none σ32)) ∧ (x1 = 14 → mj_B mjm_L mjm_Ms (d + 2) 47 [.inr (.inl 0), .inl x2, .inl x3, .inl x4] σ (fun r σ33 => r = none ∧ Q none σ33)) ∧ (¬ (1 ≤ x1 ∧ x1 ≤ 14) → mj_B mjm_L mjm_Ms (d + 2) 43 [.inr (.inl 0)] σ (fun r σ34 => r = none ∧ Q none σ34))) : mj_B mjm_L mjm_Ms (d + 3) 41 [.inr (.inl 0), .inl x1, .inl x2, .inl x3, .inl x4] σ Q := by
  refine mj_B_of (M := mjmM41) (ls := [some (.inr (.inl 0)), some (.inl x1), some (.inl x2), some (.inl x3), some (.inl x4), none]) rfl (mj_c1_all rfl) (Nat.le_of_ble_eq_true rfl) rfl ?_
  refine mr_iload (pc' := 1) rfl rfl rfl ?_
  refine mr_tsw rfl ?_
  obtain ⟨g0, g1, g2, g3, g4, g5, g6, g7, g8, g9, g10, g11, g12, g13, g14⟩ := h
  by_cases c0 : x1 = 1
  · have h := g0 c0
    rw [show mj_sw 1 [(1, 72), (2, 89), (3, 140), (4, 170), (5, 181), (6, 190), (7, 235), (8, 282), (9, 293), (10, 282), (11, 336), (12, 379), (13, 414), (14, 422)] 433 x1 = 72 by rw [c0] <;> rfl]
    refine mr_aload (pc' := 73) rfl rfl rfl ?_
    obtain ⟨h0, h⟩ := h
    refine mr_call (t := [(9, 0)]) (pc' := 76) rfl [.inr (.inl 0)] rfl rfl rfl (mj_recvV rfl) (Nat.le_of_ble_eq_true rfl) (s_m37 h0 (fun σ1 e9 => ?_))
    replace h := h σ1 e9
    refine mr_if_eq (pc' := 79) rfl rfl (fun c => ?_) (fun c => ?_)
    · replace h := h.1 (bo_0 c)
      exact mr_ret rfl rfl h
    · replace h := h.2 (bo_1 c)
      refine mr_aload (pc' := 80) rfl rfl rfl ?_
      refine mr_iload (pc' := 81) rfl rfl rfl ?_
      refine mr_iload (pc' := 83) rfl rfl rfl ?_
      refine mr_call (t := [(9, 0)]) (pc' := 86) rfl [.inr (.inl 0), .inl x2, .inl x4] rfl rfl rfl (mj_recvV rfl) (Nat.le_of_ble_eq_true rfl) (mj_B_mono _ _ _ _ _ _ (fun r σ2 h => ?_) h)
      obtain ⟨rfl, h⟩ := h
      refine mr_goto rfl ?_
      exact mr_ret rfl rfl h
  by_cases c1 : x1 = 2
  · have h := g1 c1
    rw [show mj_sw 1 [(1, 72), (2, 89), (3, 140), (4, 170), (5, 181), (6, 190), (7, 235), (8, 282), (9, 293), (10, 282), (11, 336), (12, 379), (13, 414), (14, 422)] 433 x1 = 89 by rw [c1] <;> rfl]
    refine mr_iload (pc' := 90) rfl rfl rfl ?_
    refine mr_call (t := []) (pc' := 93) rfl [.inl x2] rfl rfl rfl trivial (Nat.le_of_ble_eq_true rfl) (s_m3  ?_)
    refine mr_if_eq (pc' := 96) rfl rfl (fun c => ?_) (fun c => ?_)
    · replace h := h.1 (bo_0 c)
      exact mr_ret rfl rfl h
    · replace h := h.2 (bo_1 c)
      refine mr_aload (pc' := 97) rfl rfl rfl ?_
      refine mr_const (pc' := 98) rfl rfl (by unfold mj_r; decide) ?_
      refine mr_aload (pc' := 99) rfl rfl rfl ?_
      refine mr_iload (pc' := 100) rfl rfl rfl ?_
      obtain ⟨h0, h⟩ := h
      refine mr_call (t := [(9, 0)]) (pc' := 103) rfl [.inr (.inl 0), .inl x2] rfl rfl rfl (mj_recvV rfl) (Nat.le_of_ble_eq_true rfl) (s_m6 h0 ?_)
      refine mr_iload (pc' := 104) rfl rfl rfl ?_
      refine mr_const (pc' := 105) rfl rfl (by unfold mj_r; decide) ?_
      obtain ⟨h0, h1, h2, h⟩ := h
      refine mr_call (t := [(9, 0)]) (pc' := 108) rfl [.inr (.inl 0), .inl 2, .inl (z_cd (σ 5) x2), .inl x3, .inl 0] rfl rfl rfl (mj_recvV rfl) (Nat.le_of_ble_eq_true rfl) (s_m24 h0 h1 h2 (fun σ3 e9 => ?_))
      replace h := h σ3 e9
      refine mr_aload (pc' := 109) rfl rfl rfl ?_
      refine mr_const (pc' := 110) rfl rfl (by unfold mj_r; decide) ?_
      refine mr_iload (pc' := 111) rfl rfl rfl ?_
      refine mr_if_ne (pc' := 114) rfl rfl (fun c => ?_) (fun c => ?_)
      · replace h := h.1 c
        refine mr_aload (pc' := 123) rfl rfl rfl ?_
        refine mr_aload (pc' := 124) rfl rfl rfl ?_
        refine mr_iload (pc' := 125) rfl rfl rfl ?_
        obtain ⟨h0, h⟩ := h
        refine mr_call (t := [(9, 0)]) (pc' := 128) rfl [.inr (.inl 0), .inl x2] rfl rfl rfl (mj_recvV rfl) (Nat.le_of_ble_eq_true rfl) (s_m5 h0 ?_)
        refine mr_const (pc' := 129) rfl rfl (by unfold mj_r; decide) ?_
        refine mr_call (t := [(9, 0)]) (pc' := 132) rfl [.inr (.inl 0), .inl (z_cd (σ3 4) x2), .inl 1] rfl rfl rfl (mj_recvV rfl) (Nat.le_of_ble_eq_true rfl) (mj_B_mono _ _ _ _ _ _ (fun r σ4 h => ?_) h)
        obtain ⟨v5, rfl, h⟩ := h
        refine mr_const (pc' := 133) rfl rfl (by unfold mj_r; decide) ?_
        refine mr_const (pc' := 134) rfl rfl (by unfold mj_r; decide) ?_
        obtain ⟨h0, h1, h2, h⟩ := h
        refine mr_call (t := [(9, 0)]) (pc' := 137) rfl [.inr (.inl 0), .inl 1, .inl v5, .inl 0, .inl 0] rfl rfl rfl (mj_recvV rfl) (Nat.le_of_ble_eq_true rfl) (s_m24 h0 h1 h2 (fun σ6 e9 => ?_))
        replace h := h σ6 e9
        refine mr_goto rfl ?_
        exact mr_ret rfl rfl h
      · replace h := h.2 c
        refine mr_aload (pc' := 115) rfl rfl rfl ?_
        refine mr_iload (pc' := 116) rfl rfl rfl ?_
        obtain ⟨h0, h⟩ := h
        refine mr_call (t := [(9, 0)]) (pc' := 119) rfl [.inr (.inl 0), .inl x2] rfl rfl rfl (mj_recvV rfl) (Nat.le_of_ble_eq_true rfl) (s_m5 h0 ?_)
        refine mr_goto rfl ?_
        refine mr_const (pc' := 133) rfl rfl (by unfold mj_r; decide) ?_
        refine mr_const (pc' := 134) rfl rfl (by unfold mj_r; decide) ?_
        obtain ⟨h0, h1, h2, h⟩ := h
        refine mr_call (t := [(9, 0)]) (pc' := 137) rfl [.inr (.inl 0), .inl 1, .inl (z_cd (σ3 4) x2), .inl 0, .inl 0] rfl rfl rfl (mj_recvV rfl) (Nat.le_of_ble_eq_true rfl) (s_m24 h0 h1 h2 (fun σ7 e9 => ?_))
        replace h := h σ7 e9
        refine mr_goto rfl ?_
        exact mr_ret rfl rfl h
  by_cases c2 : x1 = 3
  · have h := g2 c2
    rw [show mj_sw 1 [(1, 72), (2, 89), (3, 140), (4, 170), (5, 181), (6, 190), (7, 235), (8, 282), (9, 293), (10, 282), (11, 336), (12, 379), (13, 414), (14, 422)] 433 x1 = 140 by rw [c2] <;> rfl]
    refine mr_aload (pc' := 141) rfl rfl rfl ?_
    refine mr_const (pc' := 142) rfl rfl (by unfold mj_r; decide) ?_
    refine mr_aload (pc' := 143) rfl rfl rfl ?_
    refine mr_iload (pc' := 144) rfl rfl rfl ?_
    refine mr_aload (pc' := 145) rfl rfl rfl ?_
    obtain ⟨h0, h1, h⟩ := h
    refine mr_call (t := [(9, 0)]) (pc' := 148) rfl [.inr (.inl 0)] rfl rfl rfl (mj_recvV rfl) (Nat.le_of_ble_eq_true rfl) (s_m39 h0 h1 (fun σ8 e9 => ?_))
    replace h := h σ8 e9
    refine mr_const (pc' := 150) rfl rfl (by unfold mj_r; decide) ?_
    refine mr_ic_eq (pc' := 153) rfl rfl (fun c => ?_) (fun c => ?_)
    · replace h := h.1 c
      refine mr_const (pc' := 158) rfl rfl (by unfold mj_r; decide) ?_
      refine mr_call (t := [(9, 0)]) (pc' := 161) rfl [.inr (.inl 0), .inl x2, .inl 3] rfl rfl rfl (mj_recvV rfl) (Nat.le_of_ble_eq_true rfl) (mj_B_mono _ _ _ _ _ _ (fun r σ9 h => ?_) h)
      obtain ⟨v10, rfl, h⟩ := h
      refine mr_const (pc' := 162) rfl rfl (by unfold mj_r; decide) ?_
      refine mr_iload (pc' := 164) rfl rfl rfl ?_
      obtain ⟨h0, h1, h2, h⟩ := h
      refine mr_call (t := [(9, 0)]) (pc' := 167) rfl [.inr (.inl 0), .inl 1, .inl v10, .inl 0, .inl x4] rfl rfl rfl (mj_recvV rfl) (Nat.le_of_ble_eq_true rfl) (s_m24 h0 h1 h2 (fun σ11 e9 => ?_))
      replace h := h σ11 e9
      refine mr_goto rfl ?_
      exact mr_ret rfl rfl h
    · replace h := h.2 c
      refine mr_const (pc' := 154) rfl rfl (by unfold mj_r; decide) ?_
      refine mr_goto rfl ?_
      refine mr_call (t := [(9, 0)]) (pc' := 161) rfl [.inr (.inl 0), .inl x2, .inl 2] rfl rfl rfl (mj_recvV rfl) (Nat.le_of_ble_eq_true rfl) (mj_B_mono _ _ _ _ _ _ (fun r σ12 h => ?_) h)
      obtain ⟨v13, rfl, h⟩ := h
      refine mr_const (pc' := 162) rfl rfl (by unfold mj_r; decide) ?_
      refine mr_iload (pc' := 164) rfl rfl rfl ?_
      obtain ⟨h0, h1, h2, h⟩ := h
      refine mr_call (t := [(9, 0)]) (pc' := 167) rfl [.inr (.inl 0), .inl 1, .inl v13, .inl 0, .inl x4] rfl rfl rfl (mj_recvV rfl) (Nat.le_of_ble_eq_true rfl) (s_m24 h0 h1 h2 (fun σ14 e9 => ?_))
      replace h := h σ14 e9
      refine mr_goto rfl ?_
      exact mr_ret rfl rfl h
  by_cases c3 : x1 = 4
  · have h := g3 c3
    rw [show mj_sw 1 [(1, 72), (2, 89), (3, 140), (4, 170), (5, 181), (6, 190), (7, 235), (8, 282), (9, 293), (10, 282), (11, 336), (12, 379), (13, 414), (14, 422)] 433 x1 = 170 by rw [c3] <;> rfl]
    refine mr_aload (pc' := 171) rfl rfl rfl ?_
    refine mr_iload (pc' := 172) rfl rfl rfl ?_
    refine mr_iload (pc' := 173) rfl rfl rfl ?_
    refine mr_iload (pc' := 175) rfl rfl rfl ?_
    refine mr_call (t := [(9, 0)]) (pc' := 178) rfl [.inr (.inl 0), .inl x2, .inl x3, .inl x4] rfl rfl rfl (mj_recvV rfl) (Nat.le_of_ble_eq_true rfl) (mj_B_mono _ _ _ _ _ _ (fun r σ15 h => ?_) h)
    obtain ⟨rfl, h⟩ := h
    refine mr_goto rfl ?_
    exact mr_ret rfl rfl h
  by_cases c4 : x1 = 5
  · have h := g4 c4
    rw [show mj_sw 1 [(1, 72), (2, 89), (3, 140), (4, 170), (5, 181), (6, 190), (7, 235), (8, 282), (9, 293), (10, 282), (11, 336), (12, 379), (13, 414), (14, 422)] 433 x1 = 181 by rw [c4] <;> rfl]
    refine mr_aload (pc' := 182) rfl rfl rfl ?_
    refine mr_iload (pc' := 183) rfl rfl rfl ?_
    refine mr_iload (pc' := 184) rfl rfl rfl ?_
    refine mr_call (t := [(9, 0)]) (pc' := 187) rfl [.inr (.inl 0), .inl x3, .inl x3] rfl rfl rfl (mj_recvV rfl) (Nat.le_of_ble_eq_true rfl) (mj_B_mono _ _ _ _ _ _ (fun r σ16 h => ?_) h)
    obtain ⟨rfl, h⟩ := h
    refine mr_goto rfl ?_
    exact mr_ret rfl rfl h
  by_cases c5 : x1 = 6
  · have h := g5 c5
    rw [show mj_sw 1 [(1, 72), (2, 89), (3, 140), (4, 170), (5, 181), (6, 190), (7, 235), (8, 282), (9, 293), (10, 282), (11, 336), (12, 379), (13, 414), (14, 422)] 433 x1 = 190 by rw [c5] <;> rfl]
    refine mr_iload (pc' := 191) rfl rfl rfl ?_
    refine mr_call (t := []) (pc' := 194) rfl [.inl x2] rfl rfl rfl trivial (Nat.le_of_ble_eq_true rfl) (s_m3  ?_)
    refine mr_if_eq (pc' := 197) rfl rfl (fun c => ?_) (fun c => ?_)
    · replace h := h.1 (bo_0 c)
      refine mr_aload (pc' := 227) rfl rfl rfl ?_
      refine mr_const (pc' := 229) rfl rfl (by unfold mj_r; decide) ?_
      obtain ⟨h0, h1, h⟩ := h
      refine mr_call (t := [(9, 0)]) (pc' := 232) rfl [.inr (.inl 0), .inl 268435456] rfl rfl rfl (mj_recvV rfl) (Nat.le_of_ble_eq_true rfl) (s_m38 h0 h1 (fun σ17 e9 => ?_))
      replace h := h σ17 e9
      refine mr_goto rfl ?_
      exact mr_ret rfl rfl h
    · replace h := h.2 (bo_1 c)
      refine mr_aload (pc' := 198) rfl rfl rfl ?_
      refine mr_const (pc' := 200) rfl rfl (by unfold mj_r; decide) ?_
      refine mr_iload (pc' := 201) rfl rfl rfl ?_
      refine mr_const (pc' := 202) rfl rfl (by unfold mj_r; decide) ?_
      refine mr_iload (pc' := 204) rfl rfl rfl ?_
      obtain ⟨h0, h1, h2, h⟩ := h
      refine mr_call (t := [(9, 0)]) (pc' := 207) rfl [.inr (.inl 0), .inl 7, .inl x2, .inl 0, .inl x4] rfl rfl rfl (mj_recvV rfl) (Nat.le_of_ble_eq_true rfl) (s_m24 h0 h1 h2 (fun σ18 e9 => ?_))
      replace h := h σ18 e9
      refine mr_aload (pc' := 208) rfl rfl rfl ?_
      refine mr_const (pc' := 209) rfl rfl (by unfold mj_r; decide) ?_
      refine mr_aload (pc' := 210) rfl rfl rfl ?_
      refine mr_aload (pc' := 211) rfl rfl rfl ?_
      refine mr_iload (pc' := 212) rfl rfl rfl ?_
      obtain ⟨h0, h⟩ := h
      refine mr_call (t := [(9, 0)]) (pc' := 215) rfl [.inr (.inl 0), .inl x2] rfl rfl rfl (mj_recvV rfl) (Nat.le_of_ble_eq_true rfl) (s_m5 h0 ?_)
      obtain ⟨h0, h⟩ := h
      refine mr_call (t := [(9, 0)]) (pc' := 218) rfl [.inr (.inl 0), .inl (z_cd (σ18 4) x2)] rfl rfl rfl (mj_recvV rfl) (Nat.le_of_ble_eq_true rfl) (s_m5 h0 ?_)
      refine mr_const (pc' := 219) rfl rfl (by unfold mj_r; decide) ?_
      refine mr_const (pc' := 220) rfl rfl (by unfold mj_r; decide) ?_
      obtain ⟨h0, h1, h2, h⟩ := h
      refine mr_call (t := [(9, 0)]) (pc' := 223) rfl [.inr (.inl 0), .inl 1, .inl (z_cd (σ18 4) (z_cd (σ18 4) x2)), .inl 0, .inl 0] rfl rfl rfl (mj_recvV rfl) (Nat.le_of_ble_eq_true rfl) (s_m24 h0 h1 h2 (fun σ19 e9 => ?_))
      replace h := h σ19 e9
      refine mr_goto rfl ?_
      exact mr_ret rfl rfl h
  by_cases c6 : x1 = 7
  · have h := g6 c6
    rw [show mj_sw 1 [(1, 72), (2, 89), (3, 140), (4, 170), (5, 181), (6, 190), (7, 235), (8, 282), (9, 293), (10, 282), (11, 336), (12, 379), (13, 414), (14, 422)] 433 x1 = 235 by rw [c6] <;> rfl]
    refine mr_aload (pc' := 236) rfl rfl rfl ?_
    obtain ⟨h0, h1, h⟩ := h
    refine mr_call (t := [(9, 0)]) (pc' := 239) rfl [.inr (.inl 0)] rfl rfl rfl (mj_recvV rfl) (Nat.le_of_ble_eq_true rfl) (s_m39 h0 h1 (fun σ20 e9 => ?_))
    replace h := h σ20 e9
    refine mr_const (pc' := 241) rfl rfl (by unfold mj_r; decide) ?_
    refine mr_ic_eq (pc' := 244) rfl rfl (fun c => ?_) (fun c => ?_)
    · replace h := h.1 c
      refine mr_aload (pc' := 266) rfl rfl rfl ?_
      refine mr_const (pc' := 268) rfl rfl (by unfold mj_r; decide) ?_
      refine mr_aload (pc' := 269) rfl rfl rfl ?_
      refine mr_iload (pc' := 270) rfl rfl rfl ?_
      obtain ⟨h0, h⟩ := h
      refine mr_call (t := [(9, 0)]) (pc' := 273) rfl [.inr (.inl 0), .inl x2] rfl rfl rfl (mj_recvV rfl) (Nat.le_of_ble_eq_true rfl) (s_m6 h0 ?_)
      refine mr_const (pc' := 274) rfl rfl (by unfold mj_r; decide) ?_
      refine mr_iload (pc' := 276) rfl rfl rfl ?_
      obtain ⟨h0, h1, h2, h⟩ := h
      refine mr_call (t := [(9, 0)]) (pc' := 279) rfl [.inr (.inl 0), .inl 6, .inl (z_cd (σ20 5) x2), .inl 0, .inl x4] rfl rfl rfl (mj_recvV rfl) (Nat.le_of_ble_eq_true rfl) (s_m24 h0 h1 h2 (fun σ21 e9 => ?_))
      replace h := h σ21 e9
      refine mr_goto rfl ?_
      exact mr_ret rfl rfl h
    · replace h := h.2 c
      refine mr_aload (pc' := 245) rfl rfl rfl ?_
      refine mr_const (pc' := 246) rfl rfl (by unfold mj_r; decide) ?_
      refine mr_aload (pc' := 247) rfl rfl rfl ?_
      refine mr_aload (pc' := 248) rfl rfl rfl ?_
      refine mr_iload (pc' := 249) rfl rfl rfl ?_
      obtain ⟨h0, h⟩ := h
      refine mr_call (t := [(9, 0)]) (pc' := 252) rfl [.inr (.inl 0), .inl x2] rfl rfl rfl (mj_recvV rfl) (Nat.le_of_ble_eq_true rfl) (s_m5 h0 ?_)
      refine mr_const (pc' := 253) rfl rfl (by unfold mj_r; decide) ?_
      refine mr_call (t := [(9, 0)]) (pc' := 256) rfl [.inr (.inl 0), .inl (z_cd (σ20 4) x2), .inl 1] rfl rfl rfl (mj_recvV rfl) (Nat.le_of_ble_eq_true rfl) (mj_B_mono _ _ _ _ _ _ (fun r σ22 h => ?_) h)
      obtain ⟨v23, rfl, h⟩ := h
      refine mr_const (pc' := 257) rfl rfl (by unfold mj_r; decide) ?_
      refine mr_iload (pc' := 259) rfl rfl rfl ?_
      obtain ⟨h0, h1, h2, h⟩ := h
      refine mr_call (t := [(9, 0)]) (pc' := 262) rfl [.inr (.inl 0), .inl 1, .inl v23, .inl 0, .inl x4] rfl rfl rfl (mj_recvV rfl) (Nat.le_of_ble_eq_true rfl) (s_m24 h0 h1 h2 (fun σ24 e9 => ?_))
      replace h := h σ24 e9
      refine mr_goto rfl ?_
      exact mr_ret rfl rfl h
  by_cases c7 : x1 = 8
  · have h := g7 c7
    rw [show mj_sw 1 [(1, 72), (2, 89), (3, 140), (4, 170), (5, 181), (6, 190), (7, 235), (8, 282), (9, 293), (10, 282), (11, 336), (12, 379), (13, 414), (14, 422)] 433 x1 = 282 by rw [c7] <;> rfl]
    refine mr_aload (pc' := 283) rfl rfl rfl ?_
    refine mr_iload (pc' := 284) rfl rfl rfl ?_
    refine mr_iload (pc' := 285) rfl rfl rfl ?_
    refine mr_iload (pc' := 287) rfl rfl rfl ?_
    refine mr_call (t := [(9, 0)]) (pc' := 290) rfl [.inr (.inl 0), .inl x1, .inl x2, .inl x4] rfl rfl rfl (mj_recvV rfl) (Nat.le_of_ble_eq_true rfl) (mj_B_mono _ _ _ _ _ _ (fun r σ25 h => ?_) h)
    obtain ⟨rfl, h⟩ := h
    refine mr_goto rfl ?_
    exact mr_ret rfl rfl h
  by_cases c8 : x1 = 9
  · have h := g8 c8
    rw [show mj_sw 1 [(1, 72), (2, 89), (3, 140), (4, 170), (5, 181), (6, 190), (7, 235), (8, 282), (9, 293), (10, 282), (11, 336), (12, 379), (13, 414), (14, 422)] 433 x1 = 293 by rw [c8] <;> rfl]
    refine mr_aload (pc' := 294) rfl rfl rfl ?_
    refine mr_getr (ci := 0) (pc' := 297) rfl rfl rfl rfl ?_
    refine mr_aload (pc' := 298) rfl rfl rfl ?_
    refine mr_get (ci := 0) (pc' := 301) rfl rfl rfl rfl ?_
    refine mr_const (pc' := 302) rfl rfl (by unfold mj_r; decide) ?_
    obtain ⟨h0, h⟩ := h
    refine mr_isub (pc' := 303) rfl rfl h0 ?_
    obtain ⟨h0, h1, h⟩ := h
    refine mr_iald (pc' := 304) rfl rfl rfl h0 h1 ?_
    refine mr_const (pc' := 306) rfl rfl (by unfold mj_r; decide) ?_
    refine mr_ic_eq (pc' := 309) rfl rfl (fun c => ?_) (fun c => ?_)
    · replace h := h.1 c
      exact mr_ret rfl rfl h
    · replace h := h.2 c
      refine mr_aload (pc' := 310) rfl rfl rfl ?_
      refine mr_dup (pc' := 311) rfl rfl trivial ?_
      refine mr_get (ci := 0) (pc' := 314) rfl rfl rfl rfl ?_
      refine mr_const (pc' := 315) rfl rfl (by unfold mj_r; decide) ?_
      obtain ⟨h0, h⟩ := h
      refine mr_isub (pc' := 316) rfl rfl h0 ?_
      refine mr_put (pc' := 319) rfl rfl rfl rfl (fun σ26 e9 => ?_)
      replace h := h σ26 e9
      refine mr_aload (pc' := 320) rfl rfl rfl ?_
      refine mr_const (pc' := 322) rfl rfl (by unfold mj_r; decide) ?_
      refine mr_aload (pc' := 323) rfl rfl rfl ?_
      refine mr_iload (pc' := 324) rfl rfl rfl ?_
      obtain ⟨h0, h⟩ := h
      refine mr_call (t := [(9, 0)]) (pc' := 327) rfl [.inr (.inl 0), .inl x2] rfl rfl rfl (mj_recvV rfl) (Nat.le_of_ble_eq_true rfl) (s_m6 h0 ?_)
      refine mr_const (pc' := 328) rfl rfl (by unfold mj_r; decide) ?_
      refine mr_iload (pc' := 330) rfl rfl rfl ?_
      obtain ⟨h0, h1, h2, h⟩ := h
      refine mr_call (t := [(9, 0)]) (pc' := 333) rfl [.inr (.inl 0), .inl 8, .inl (z_cd (σ26 5) x2), .inl 0, .inl x4] rfl rfl rfl (mj_recvV rfl) (Nat.le_of_ble_eq_true rfl) (s_m24 h0 h1 h2 (fun σ27 e9 => ?_))
      replace h := h σ27 e9
      refine mr_goto rfl ?_
      exact mr_ret rfl rfl h
  by_cases c9 : x1 = 10
  · have h := g9 c9
    rw [show mj_sw 1 [(1, 72), (2, 89), (3, 140), (4, 170), (5, 181), (6, 190), (7, 235), (8, 282), (9, 293), (10, 282), (11, 336), (12, 379), (13, 414), (14, 422)] 433 x1 = 282 by rw [c9] <;> rfl]
    refine mr_aload (pc' := 283) rfl rfl rfl ?_
    refine mr_iload (pc' := 284) rfl rfl rfl ?_
    refine mr_iload (pc' := 285) rfl rfl rfl ?_
    refine mr_iload (pc' := 287) rfl rfl rfl ?_
    refine mr_call (t := [(9, 0)]) (pc' := 290) rfl [.inr (.inl 0), .inl x1, .inl x2, .inl x4] rfl rfl rfl (mj_recvV rfl) (Nat.le_of_ble_eq_true rfl) (mj_B_mono _ _ _ _ _ _ (fun r σ28 h => ?_) h)
    obtain ⟨rfl, h⟩ := h
    refine mr_goto rfl ?_
    exact mr_ret rfl rfl h
  by_cases c10 : x1 = 11
  · have h := g10 c10
    rw [show mj_sw 1 [(1, 72), (2, 89), (3, 140), (4, 170), (5, 181), (6, 190), (7, 235), (8, 282), (9, 293), (10, 282), (11, 336), (12, 379), (13, 414), (14, 422)] 433 x1 = 336 by rw [c10] <;> rfl]
    refine mr_aload (pc' := 337) rfl rfl rfl ?_
    refine mr_getr (ci := 0) (pc' := 340) rfl rfl rfl rfl ?_
    refine mr_aload (pc' := 341) rfl rfl rfl ?_
    refine mr_get (ci := 0) (pc' := 344) rfl rfl rfl rfl ?_
    refine mr_const (pc' := 345) rfl rfl (by unfold mj_r; decide) ?_
    obtain ⟨h0, h⟩ := h
    refine mr_isub (pc' := 346) rfl rfl h0 ?_
    obtain ⟨h0, h1, h⟩ := h
    refine mr_iald (pc' := 347) rfl rfl rfl h0 h1 ?_
    refine mr_const (pc' := 349) rfl rfl (by unfold mj_r; decide) ?_
    refine mr_ic_ne (pc' := 352) rfl rfl (fun c => ?_) (fun c => ?_)
    · replace h := h.1 c
      exact mr_ret rfl rfl h
    · replace h := h.2 c
      refine mr_aload (pc' := 353) rfl rfl rfl ?_
      refine mr_dup (pc' := 354) rfl rfl trivial ?_
      refine mr_get (ci := 0) (pc' := 357) rfl rfl rfl rfl ?_
      refine mr_const (pc' := 358) rfl rfl (by unfold mj_r; decide) ?_
      obtain ⟨h0, h⟩ := h
      refine mr_isub (pc' := 359) rfl rfl h0 ?_
      refine mr_put (pc' := 362) rfl rfl rfl rfl (fun σ29 e9 => ?_)
      replace h := h σ29 e9
      refine mr_aload (pc' := 363) rfl rfl rfl ?_
      refine mr_const (pc' := 365) rfl rfl (by unfold mj_r; decide) ?_
      refine mr_aload (pc' := 366) rfl rfl rfl ?_
      refine mr_iload (pc' := 367) rfl rfl rfl ?_
      obtain ⟨h0, h⟩ := h
      refine mr_call (t := [(9, 0)]) (pc' := 370) rfl [.inr (.inl 0), .inl x2] rfl rfl rfl (mj_recvV rfl) (Nat.le_of_ble_eq_true rfl) (s_m6 h0 ?_)
      refine mr_const (pc' := 371) rfl rfl (by unfold mj_r; decide) ?_
      refine mr_iload (pc' := 373) rfl rfl rfl ?_
      obtain ⟨h0, h1, h2, h⟩ := h
      refine mr_call (t := [(9, 0)]) (pc' := 376) rfl [.inr (.inl 0), .inl 10, .inl (z_cd (σ29 5) x2), .inl 0, .inl x4] rfl rfl rfl (mj_recvV rfl) (Nat.le_of_ble_eq_true rfl) (s_m24 h0 h1 h2 (fun σ30 e9 => ?_))
      replace h := h σ30 e9
      refine mr_goto rfl ?_
      exact mr_ret rfl rfl h
  by_cases c11 : x1 = 12
  · have h := g11 c11
    rw [show mj_sw 1 [(1, 72), (2, 89), (3, 140), (4, 170), (5, 181), (6, 190), (7, 235), (8, 282), (9, 293), (10, 282), (11, 336), (12, 379), (13, 414), (14, 422)] 433 x1 = 379 by rw [c11] <;> rfl]
    refine mr_aload (pc' := 380) rfl rfl rfl ?_
    refine mr_const (pc' := 382) rfl rfl (by unfold mj_r; decide) ?_
    obtain ⟨h0, h1, h⟩ := h
    refine mr_call (t := [(9, 0)]) (pc' := 385) rfl [.inr (.inl 0), .inl 268435456] rfl rfl rfl (mj_recvV rfl) (Nat.le_of_ble_eq_true rfl) (s_m38 h0 h1 (fun σ31 e9 => ?_))
    replace h := h σ31 e9
    refine mr_const (pc' := 386) rfl rfl (by unfold mj_r; decide) ?_
    refine mr_istore (pc' := 388) rfl rfl trivial (Nat.le_of_ble_eq_true rfl) rfl ?_
    exact mj_W_ls (mj_B_mono _) (mj_lev_of _ _ (by simp [mj_levb])) h
  by_cases c12 : x1 = 13
  · have h := g12 c12
    rw [show mj_sw 1 [(1, 72), (2, 89), (3, 140), (4, 170), (5, 181), (6, 190), (7, 235), (8, 282), (9, 293), (10, 282), (11, 336), (12, 379), (13, 414), (14, 422)] 433 x1 = 414 by rw [c12] <;> rfl]
    refine mr_aload (pc' := 415) rfl rfl rfl ?_
    refine mr_iload (pc' := 416) rfl rfl rfl ?_
    refine mr_call (t := [(9, 0)]) (pc' := 419) rfl [.inr (.inl 0), .inl x3] rfl rfl rfl (mj_recvV rfl) (Nat.le_of_ble_eq_true rfl) (mj_B_mono _ _ _ _ _ _ (fun r σ32 h => ?_) h)
    obtain ⟨rfl, h⟩ := h
    refine mr_goto rfl ?_
    exact mr_ret rfl rfl h
  by_cases c13 : x1 = 14
  · have h := g13 c13
    rw [show mj_sw 1 [(1, 72), (2, 89), (3, 140), (4, 170), (5, 181), (6, 190), (7, 235), (8, 282), (9, 293), (10, 282), (11, 336), (12, 379), (13, 414), (14, 422)] 433 x1 = 422 by rw [c13] <;> rfl]
    refine mr_aload (pc' := 423) rfl rfl rfl ?_
    refine mr_iload (pc' := 424) rfl rfl rfl ?_
    refine mr_iload (pc' := 425) rfl rfl rfl ?_
    refine mr_iload (pc' := 427) rfl rfl rfl ?_
    refine mr_call (t := [(9, 0)]) (pc' := 430) rfl [.inr (.inl 0), .inl x2, .inl x3, .inl x4] rfl rfl rfl (mj_recvV rfl) (Nat.le_of_ble_eq_true rfl) (mj_B_mono _ _ _ _ _ _ (fun r σ33 h => ?_) h)
    obtain ⟨rfl, h⟩ := h
    refine mr_goto rfl ?_
    exact mr_ret rfl rfl h
  have h := g14 (by omega)
  rw [show mj_sw 1 [(1, 72), (2, 89), (3, 140), (4, 170), (5, 181), (6, 190), (7, 235), (8, 282), (9, 293), (10, 282), (11, 336), (12, 379), (13, 414), (14, 422)] 433 x1 = 433 from if_neg (by simp; omega)]
  refine mr_aload (pc' := 434) rfl rfl rfl ?_
  refine mr_call (t := [(9, 0)]) (pc' := 437) rfl [.inr (.inl 0)] rfl rfl rfl (mj_recvV rfl) (Nat.le_of_ble_eq_true rfl) (mj_B_mono _ _ _ _ _ _ (fun r σ34 h => ?_) h)
  obtain ⟨rfl, h⟩ := h
  exact mr_ret rfl rfl h
