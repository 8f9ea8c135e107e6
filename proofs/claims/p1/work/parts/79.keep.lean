/-! ListSpeakerModel(int) -/
def lh_m0_3 (d : Nat) (Q : mj_Q) (y1 y2 y3 y4 y5 y6 y7 y8 : Int) (σ : mj_S) : Prop := mj_P mjm_L mjm_Ms d mjmo0 ((Option.none : Option Jvm.ClassFile.FieldType)) Q 3 [some (.inr (.inl 0)), some (.inl y1), some (.inl y2), some (.inl y3), some (.inl y4), some (.inl y5), some (.inl y6), some (.inl y7), some (.inl y8), none] [] σ
def lh_m0_74 (d : Nat) (Q : mj_Q) (y1 y2 y3 y4 y5 y6 y7 y8 z0 : Int) (σ : mj_S) : Prop := mj_P mjm_L mjm_Ms d mjmo0 ((Option.none : Option Jvm.ClassFile.FieldType)) Q 74 [some (.inr (.inl 0)), some (.inl y1), some (.inl y2), some (.inl y3), some (.inl y4), some (.inl y5), some (.inl y6), some (.inl y7), some (.inl y8), none] [.inl z0] σ
set_option maxRecDepth 20000 in
theorem lw_m0_3 {d : Nat} {Q : mj_Q} {y1 y2 y3 y4 y5 y6 y7 y8 : Int} {σ : mj_S} (h : (7 ≤ y8 → mj_r ((σ 0 6) + 1) ∧ ∀ σ1, σ1 = mj_up σ 0 6 ((σ 0 6) + 1) → Q none σ1) ∧ (y8 < 7 → (¬ y8 = 0 → (¬ y8 = 1 → (¬ y8 = 2 → (¬ y8 = 3 → (¬ y8 = 4 → (¬ y8 = 5 → lh_m0_74 d Q y1 y2 y3 y4 y5 y6 y7 y8 y7 σ) ∧ (y8 = 5 → lh_m0_74 d Q y1 y2 y3 y4 y5 y6 y7 y8 y6 σ)) ∧ (y8 = 4 → lh_m0_74 d Q y1 y2 y3 y4 y5 y6 y7 y8 y5 σ)) ∧ (y8 = 3 → lh_m0_74 d Q y1 y2 y3 y4 y5 y6 y7 y8 y4 σ)) ∧ (y8 = 2 → lh_m0_74 d Q y1 y2 y3 y4 y5 y6 y7 y8 y3 σ)) ∧ (y8 = 1 → lh_m0_74 d Q y1 y2 y3 y4 y5 y6 y7 y8 y2 σ)) ∧ (y8 = 0 → lh_m0_74 d Q y1 y2 y3 y4 y5 y6 y7 y8 y1 σ))) : lh_m0_3 d Q y1 y2 y3 y4 y5 y6 y7 y8 σ := by
  show mj_P mjm_L mjm_Ms d mjmo0 ((Option.none : Option Jvm.ClassFile.FieldType)) Q 3 [some (.inr (.inl 0)), some (.inl y1), some (.inl y2), some (.inl y3), some (.inl y4), some (.inl y5), some (.inl y6), some (.inl y7), some (.inl y8), none] [] σ
  refine mr_iload (pc' := 5) rfl rfl rfl ?_
  refine mr_const (pc' := 7) rfl rfl (by unfold mj_r; decide) ?_
  refine mr_ic_ge (pc' := 10) rfl rfl (fun c => ?_) (fun c => ?_)
  · replace h := h.1 c
    refine mr_aload (pc' := 123) rfl rfl rfl ?_
    refine mr_dup (pc' := 124) rfl rfl trivial ?_
    refine mr_get (ci := 0) (pc' := 127) rfl rfl rfl rfl ?_
    refine mr_const (pc' := 128) rfl rfl (by unfold mj_r; decide) ?_
    obtain ⟨h0, h⟩ := h
    refine mr_iadd (pc' := 129) rfl rfl h0 ?_
    refine mr_put (pc' := 132) rfl rfl rfl rfl (fun σ1 e9 => ?_)
    replace h := h σ1 e9
    exact mr_ret rfl rfl h
  · replace h := h.2 c
    refine mr_iload (pc' := 12) rfl rfl rfl ?_
    refine mr_if_ne (pc' := 15) rfl rfl (fun c => ?_) (fun c => ?_)
    · replace h := h.1 c
      refine mr_iload (pc' := 21) rfl rfl rfl ?_
      refine mr_const (pc' := 22) rfl rfl (by unfold mj_r; decide) ?_
      refine mr_ic_ne (pc' := 25) rfl rfl (fun c => ?_) (fun c => ?_)
      · replace h := h.1 c
        refine mr_iload (pc' := 31) rfl rfl rfl ?_
        refine mr_const (pc' := 32) rfl rfl (by unfold mj_r; decide) ?_
        refine mr_ic_ne (pc' := 35) rfl rfl (fun c => ?_) (fun c => ?_)
        · replace h := h.1 c
          refine mr_iload (pc' := 41) rfl rfl rfl ?_
          refine mr_const (pc' := 42) rfl rfl (by unfold mj_r; decide) ?_
          refine mr_ic_ne (pc' := 45) rfl rfl (fun c => ?_) (fun c => ?_)
          · replace h := h.1 c
            refine mr_iload (pc' := 52) rfl rfl rfl ?_
            refine mr_const (pc' := 53) rfl rfl (by unfold mj_r; decide) ?_
            refine mr_ic_ne (pc' := 56) rfl rfl (fun c => ?_) (fun c => ?_)
            · replace h := h.1 c
              refine mr_iload (pc' := 63) rfl rfl rfl ?_
              refine mr_const (pc' := 64) rfl rfl (by unfold mj_r; decide) ?_
              refine mr_ic_ne (pc' := 67) rfl rfl (fun c => ?_) (fun c => ?_)
              · replace h := h.1 c
                refine mr_iload (pc' := 74) rfl rfl rfl ?_
                exact mj_W_ls (mj_B_mono d) (mj_lev_of _ _ (by simp [mj_levb])) h
              · replace h := h.2 c
                refine mr_iload (pc' := 69) rfl rfl rfl ?_
                refine mr_goto rfl ?_
                exact mj_W_ls (mj_B_mono d) (mj_lev_of _ _ (by simp [mj_levb])) h
            · replace h := h.2 c
              refine mr_iload (pc' := 58) rfl rfl rfl ?_
              refine mr_goto rfl ?_
              exact mj_W_ls (mj_B_mono d) (mj_lev_of _ _ (by simp [mj_levb])) h
          · replace h := h.2 c
            refine mr_iload (pc' := 47) rfl rfl rfl ?_
            refine mr_goto rfl ?_
            exact mj_W_ls (mj_B_mono d) (mj_lev_of _ _ (by simp [mj_levb])) h
        · replace h := h.2 c
          refine mr_iload (pc' := 36) rfl rfl rfl ?_
          refine mr_goto rfl ?_
          exact mj_W_ls (mj_B_mono d) (mj_lev_of _ _ (by simp [mj_levb])) h
      · replace h := h.2 c
        refine mr_iload (pc' := 26) rfl rfl rfl ?_
        refine mr_goto rfl ?_
        exact mj_W_ls (mj_B_mono d) (mj_lev_of _ _ (by simp [mj_levb])) h
    · replace h := h.2 c
      refine mr_iload (pc' := 16) rfl rfl rfl ?_
      refine mr_goto rfl ?_
      exact mj_W_ls (mj_B_mono d) (mj_lev_of _ _ (by simp [mj_levb])) h
set_option maxRecDepth 20000 in
theorem lw_m0_74 {d : Nat} {Q : mj_Q} {y1 y2 y3 y4 y5 y6 y7 y8 z0 : Int} {σ : mj_S} (h : mj_r (8 * (σ 0 6)) ∧ mj_r ((8 * (σ 0 6)) + y8) ∧ 0 ≤ ((8 * (σ 0 6)) + y8) ∧ ((8 * (σ 0 6)) + y8) < 480 ∧ mj_fit .char (z0 % 65536) ∧ ∀ σ1, σ1 = mj_up σ 2 ((8 * (σ 0 6)) + y8).toNat (z0 % 65536) → 0 ≤ (σ1 0 6) ∧ (σ1 0 6) < 60 ∧ (z0 ≤ 0 → mj_r ((σ1 3 (σ1 0 6).toNat) + 0) ∧ 0 ≤ (σ1 0 6) ∧ (σ1 0 6) < 60 ∧ ∀ σ2, σ2 = mj_up σ1 3 (σ1 0 6).toNat ((σ1 3 (σ1 0 6).toNat) + 0) → mj_r (y8 + 1) ∧ lh_m0_3 d Q y1 y2 y3 y4 y5 y6 y7 (y8 + 1) σ2) ∧ (0 < z0 → mj_r ((σ1 3 (σ1 0 6).toNat) + 1) ∧ 0 ≤ (σ1 0 6) ∧ (σ1 0 6) < 60 ∧ ∀ σ3, σ3 = mj_up σ1 3 (σ1 0 6).toNat ((σ1 3 (σ1 0 6).toNat) + 1) → mj_r (y8 + 1) ∧ lh_m0_3 d Q y1 y2 y3 y4 y5 y6 y7 (y8 + 1) σ3)) : lh_m0_74 d Q y1 y2 y3 y4 y5 y6 y7 y8 z0 σ := by
  show mj_P mjm_L mjm_Ms d mjmo0 ((Option.none : Option Jvm.ClassFile.FieldType)) Q 74 [some (.inr (.inl 0)), some (.inl y1), some (.inl y2), some (.inl y3), some (.inl y4), some (.inl y5), some (.inl y6), some (.inl y7), some (.inl y8), none] [.inl z0] σ
  refine mr_istore (pc' := 76) rfl rfl trivial (Nat.le_of_ble_eq_true rfl) rfl ?_
  refine mr_aload (pc' := 77) rfl rfl rfl ?_
  refine mr_getr (ci := 0) (pc' := 80) rfl rfl rfl rfl ?_
  refine mr_const (pc' := 82) rfl rfl (by unfold mj_r; decide) ?_
  refine mr_aload (pc' := 83) rfl rfl rfl ?_
  refine mr_get (ci := 0) (pc' := 86) rfl rfl rfl rfl ?_
  obtain ⟨h0, h⟩ := h
  refine mr_imul (pc' := 87) rfl rfl h0 ?_
  refine mr_iload (pc' := 89) rfl rfl rfl ?_
  obtain ⟨h0, h⟩ := h
  refine mr_iadd (pc' := 90) rfl rfl h0 ?_
  refine mr_iload (pc' := 92) rfl rfl rfl ?_
  refine mr_i2c (pc' := 93) rfl rfl ?_
  obtain ⟨h0, h1, h2, h⟩ := h
  refine mr_cast (pc' := 94) rfl rfl rfl h0 h1 h2 (fun σ1 e9 => ?_)
  replace h := h σ1 e9
  refine mr_aload (pc' := 95) rfl rfl rfl ?_
  refine mr_getr (ci := 0) (pc' := 98) rfl rfl rfl rfl ?_
  refine mr_aload (pc' := 99) rfl rfl rfl ?_
  refine mr_get (ci := 0) (pc' := 102) rfl rfl rfl rfl ?_
  refine mr_dup2 (pc' := 103) rfl rfl trivial trivial ?_
  obtain ⟨h0, h1, h⟩ := h
  refine mr_iald (pc' := 104) rfl rfl rfl h0 h1 ?_
  refine mr_iload (pc' := 106) rfl rfl rfl ?_
  refine mr_if_le (pc' := 109) rfl rfl (fun c => ?_) (fun c => ?_)
  · replace h := h.1 c
    refine mr_const (pc' := 114) rfl rfl (by unfold mj_r; decide) ?_
    obtain ⟨h0, h⟩ := h
    refine mr_iadd (pc' := 115) rfl rfl h0 ?_
    obtain ⟨h0, h1, h⟩ := h
    refine mr_iast (pc' := 116) rfl rfl rfl h0 h1 (fun σ2 e9 => ?_)
    replace h := h σ2 e9
    obtain ⟨h0, h⟩ := h
    refine mr_iinc (pc' := 119) rfl rfl rfl trivial h0 rfl ?_
    refine mr_goto rfl ?_
    exact mj_W_ls (mj_B_mono d) (mj_lev_of _ _ (by simp [mj_levb])) h
  · replace h := h.2 c
    refine mr_const (pc' := 110) rfl rfl (by unfold mj_r; decide) ?_
    refine mr_goto rfl ?_
    obtain ⟨h0, h⟩ := h
    refine mr_iadd (pc' := 115) rfl rfl h0 ?_
    obtain ⟨h0, h1, h⟩ := h
    refine mr_iast (pc' := 116) rfl rfl rfl h0 h1 (fun σ3 e9 => ?_)
    replace h := h σ3 e9
    obtain ⟨h0, h⟩ := h
    refine mr_iinc (pc' := 119) rfl rfl rfl trivial h0 rfl ?_
    refine mr_goto rfl ?_
    exact mj_W_ls (mj_B_mono d) (mj_lev_of _ _ (by simp [mj_levb])) h
set_option maxRecDepth 20000 in
/-- ListSpeakerModel.keep -/
theorem wp_m0 {d : Nat} {σ : mj_S} {Q : mj_Q} {x1 x2 x3 x4 x5 x6 x7 : Int} (h : lh_m0_3 d Q x1 x2 x3 x4 x5 x6 x7 0 σ) : mj_B mjm_L mjm_Ms (d + 1) 0 [.inr (.inl 0), .inl x1, .inl x2, .inl x3, .inl x4, .inl x5, .inl x6, .inl x7] σ Q := by
  refine mj_B_of (M := mjmM0) (ls := [some (.inr (.inl 0)), some (.inl x1), some (.inl x2), some (.inl x3), some (.inl x4), some (.inl x5), some (.inl x6), some (.inl x7), none, none]) rfl (mj_c1_all rfl) (Nat.le_of_ble_eq_true rfl) rfl ?_
  refine mr_const (pc' := 1) rfl rfl (by unfold mj_r; decide) ?_
  refine mr_istore (pc' := 3) rfl rfl trivial (Nat.le_of_ble_eq_true rfl) rfl ?_
  exact mj_W_ls (mj_B_mono d) (mj_lev_of _ _ (by simp [mj_levb])) h
def lh_m63_238 (d : Nat) (Q : mj_Q) (σ : mj_S) : Prop := mj_P mjm_L mjm_Ms d mjmo63 ((Option.none : Option Jvm.ClassFile.FieldType)) Q 238 [some (.inr (.inl 0)), none] [] σ
set_option maxRecDepth 20000 in
theorem lw_m63_238 {d : Nat} {Q : mj_Q} {σ : mj_S} (h : mj_B mjm_L mjm_Ms d 0 [.inr (.inl 0), .inl 110, .inl 105, .inl 108, .inl 0, .inl 0, .inl 0, .inl 0] σ (fun r σ1 => r = none ∧ mj_B mjm_L mjm_Ms d 0 [.inr (.inl 0), .inl 116, .inl 0, .inl 0, .inl 0, .inl 0, .inl 0, .inl 0] σ1 (fun r σ2 => r = none ∧ mj_B mjm_L mjm_Ms d 0 [.inr (.inl 0), .inl 113, .inl 117, .inl 111, .inl 116, .inl 101, .inl 0, .inl 0] σ2 (fun r σ3 => r = none ∧ mj_B mjm_L mjm_Ms d 0 [.inr (.inl 0), .inl 105, .inl 102, .inl 0, .inl 0, .inl 0, .inl 0, .inl 0] σ3 (fun r σ4 => r = none ∧ mj_B mjm_L mjm_Ms d 0 [.inr (.inl 0), .inl 108, .inl 101, .inl 116, .inl 0, .inl 0, .inl 0, .inl 0] σ4 (fun r σ5 => r = none ∧ mj_B mjm_L mjm_Ms d 0 [.inr (.inl 0), .inl 99, .inl 111, .inl 110, .inl 100, .inl 0, .inl 0, .inl 0] σ5 (fun r σ6 => r = none ∧ mj_B mjm_L mjm_Ms d 0 [.inr (.inl 0), .inl 97, .inl 110, .inl 100, .inl 0, .inl 0, .inl 0, .inl 0] σ6 (fun r σ7 => r = none ∧ mj_B mjm_L mjm_Ms d 0 [.inr (.inl 0), .inl 111, .inl 114, .inl 0, .inl 0, .inl 0, .inl 0, .inl 0] σ7 (fun r σ8 => r = none ∧ mj_B mjm_L mjm_Ms d 0 [.inr (.inl 0), .inl 108, .inl 105, .inl 115, .inl 116, .inl 0, .inl 0, .inl 0] σ8 (fun r σ9 => r = none ∧ mj_B mjm_L mjm_Ms d 0 [.inr (.inl 0), .inl 100, .inl 101, .inl 102, .inl 117, .inl 110, .inl 0, .inl 0] σ9 (fun r σ10 => r = none ∧ mj_B mjm_L mjm_Ms d 0 [.inr (.inl 0), .inl 99, .inl 111, .inl 110, .inl 115, .inl 0, .inl 0, .inl 0] σ10 (fun r σ11 => r = none ∧ mj_B mjm_L mjm_Ms d 0 [.inr (.inl 0), .inl 99, .inl 97, .inl 114, .inl 0, .inl 0, .inl 0, .inl 0] σ11 (fun r σ12 => r = none ∧ mj_B mjm_L mjm_Ms d 0 [.inr (.inl 0), .inl 99, .inl 100, .inl 114, .inl 0, .inl 0, .inl 0, .inl 0] σ12 (fun r σ13 => r = none ∧ mj_B mjm_L mjm_Ms d 0 [.inr (.inl 0), .inl 99, .inl 111, .inl 110, .inl 115, .inl 112, .inl 0, .inl 0] σ13 (fun r σ14 => r = none ∧ mj_B mjm_L mjm_Ms d 0 [.inr (.inl 0), .inl 110, .inl 97, .inl 116, .inl 112, .inl 0, .inl 0, .inl 0] σ14 (fun r σ15 => r = none ∧ mj_B mjm_L mjm_Ms d 0 [.inr (.inl 0), .inl 115, .inl 121, .inl 109, .inl 98, .inl 111, .inl 108, .inl 112] σ15 (fun r σ16 => r = none ∧ mj_B mjm_L mjm_Ms d 0 [.inr (.inl 0), .inl 101, .inl 113, .inl 117, .inl 97, .inl 108, .inl 0, .inl 0] σ16 (fun r σ17 => r = none ∧ mj_B mjm_L mjm_Ms d 0 [.inr (.inl 0), .inl 43, .inl 0, .inl 0, .inl 0, .inl 0, .inl 0, .inl 0] σ17 (fun r σ18 => r = none ∧ mj_B mjm_L mjm_Ms d 0 [.inr (.inl 0), .inl 45, .inl 0, .inl 0, .inl 0, .inl 0, .inl 0, .inl 0] σ18 (fun r σ19 => r = none ∧ mj_B mjm_L mjm_Ms d 0 [.inr (.inl 0), .inl 60, .inl 0, .inl 0, .inl 0, .inl 0, .inl 0, .inl 0] σ19 (fun r σ20 => r = none ∧ mj_B mjm_L mjm_Ms d 0 [.inr (.inl 0), .inl 101, .inl 114, .inl 114, .inl 111, .inl 114, .inl 0, .inl 0] σ20 (fun r σ21 => r = none ∧ Q none σ21)))))))))))))))))))))) : lh_m63_238 d Q  σ := by
  show mj_P mjm_L mjm_Ms d mjmo63 ((Option.none : Option Jvm.ClassFile.FieldType)) Q 238 [some (.inr (.inl 0)), none] [] σ
  refine mr_aload (pc' := 239) rfl rfl rfl ?_
  refine mr_const (pc' := 241) rfl rfl (by unfold mj_r; decide) ?_
  refine mr_const (pc' := 243) rfl rfl (by unfold mj_r; decide) ?_
  refine mr_const (pc' := 245) rfl rfl (by unfold mj_r; decide) ?_
  refine mr_const (pc' := 246) rfl rfl (by unfold mj_r; decide) ?_
  refine mr_const (pc' := 247) rfl rfl (by unfold mj_r; decide) ?_
  refine mr_const (pc' := 248) rfl rfl (by unfold mj_r; decide) ?_
  refine mr_const (pc' := 249) rfl rfl (by unfold mj_r; decide) ?_
  refine mr_call (t := [(9, 0)]) (pc' := 252) rfl [.inr (.inl 0), .inl 110, .inl 105, .inl 108, .inl 0, .inl 0, .inl 0, .inl 0] rfl rfl rfl (mj_recvV rfl) (Nat.le_of_ble_eq_true rfl) (mj_B_mono d _ _ _ _ _ (fun r σ1 h => ?_) h)
  obtain ⟨rfl, h⟩ := h
  refine mr_aload (pc' := 253) rfl rfl rfl ?_
  refine mr_const (pc' := 255) rfl rfl (by unfold mj_r; decide) ?_
  refine mr_const (pc' := 256) rfl rfl (by unfold mj_r; decide) ?_
  refine mr_const (pc' := 257) rfl rfl (by unfold mj_r; decide) ?_
  refine mr_const (pc' := 258) rfl rfl (by unfold mj_r; decide) ?_
  refine mr_const (pc' := 259) rfl rfl (by unfold mj_r; decide) ?_
  refine mr_const (pc' := 260) rfl rfl (by unfold mj_r; decide) ?_
  refine mr_const (pc' := 261) rfl rfl (by unfold mj_r; decide) ?_
  refine mr_call (t := [(9, 0)]) (pc' := 264) rfl [.inr (.inl 0), .inl 116, .inl 0, .inl 0, .inl 0, .inl 0, .inl 0, .inl 0] rfl rfl rfl (mj_recvV rfl) (Nat.le_of_ble_eq_true rfl) (mj_B_mono d _ _ _ _ _ (fun r σ2 h => ?_) h)
  obtain ⟨rfl, h⟩ := h
  refine mr_aload (pc' := 265) rfl rfl rfl ?_
  refine mr_const (pc' := 267) rfl rfl (by unfold mj_r; decide) ?_
  refine mr_const (pc' := 269) rfl rfl (by unfold mj_r; decide) ?_
  refine mr_const (pc' := 271) rfl rfl (by unfold mj_r; decide) ?_
  refine mr_const (pc' := 273) rfl rfl (by unfold mj_r; decide) ?_
  refine mr_const (pc' := 275) rfl rfl (by unfold mj_r; decide) ?_
  refine mr_const (pc' := 276) rfl rfl (by unfold mj_r; decide) ?_
  refine mr_const (pc' := 277) rfl rfl (by unfold mj_r; decide) ?_
  refine mr_call (t := [(9, 0)]) (pc' := 280) rfl [.inr (.inl 0), .inl 113, .inl 117, .inl 111, .inl 116, .inl 101, .inl 0, .inl 0] rfl rfl rfl (mj_recvV rfl) (Nat.le_of_ble_eq_true rfl) (mj_B_mono d _ _ _ _ _ (fun r σ3 h => ?_) h)
  obtain ⟨rfl, h⟩ := h
  refine mr_aload (pc' := 281) rfl rfl rfl ?_
  refine mr_const (pc' := 283) rfl rfl (by unfold mj_r; decide) ?_
  refine mr_const (pc' := 285) rfl rfl (by unfold mj_r; decide) ?_
  refine mr_const (pc' := 286) rfl rfl (by unfold mj_r; decide) ?_
  refine mr_const (pc' := 287) rfl rfl (by unfold mj_r; decide) ?_
  refine mr_const (pc' := 288) rfl rfl (by unfold mj_r; decide) ?_
  refine mr_const (pc' := 289) rfl rfl (by unfold mj_r; decide) ?_
  refine mr_const (pc' := 290) rfl rfl (by unfold mj_r; decide) ?_
  refine mr_call (t := [(9, 0)]) (pc' := 293) rfl [.inr (.inl 0), .inl 105, .inl 102, .inl 0, .inl 0, .inl 0, .inl 0, .inl 0] rfl rfl rfl (mj_recvV rfl) (Nat.le_of_ble_eq_true rfl) (mj_B_mono d _ _ _ _ _ (fun r σ4 h => ?_) h)
  obtain ⟨rfl, h⟩ := h
  refine mr_aload (pc' := 294) rfl rfl rfl ?_
  refine mr_const (pc' := 296) rfl rfl (by unfold mj_r; decide) ?_
  refine mr_const (pc' := 298) rfl rfl (by unfold mj_r; decide) ?_
  refine mr_const (pc' := 300) rfl rfl (by unfold mj_r; decide) ?_
  refine mr_const (pc' := 301) rfl rfl (by unfold mj_r; decide) ?_
  refine mr_const (pc' := 302) rfl rfl (by unfold mj_r; decide) ?_
  refine mr_const (pc' := 303) rfl rfl (by unfold mj_r; decide) ?_
  refine mr_const (pc' := 304) rfl rfl (by unfold mj_r; decide) ?_
  refine mr_call (t := [(9, 0)]) (pc' := 307) rfl [.inr (.inl 0), .inl 108, .inl 101, .inl 116, .inl 0, .inl 0, .inl 0, .inl 0] rfl rfl rfl (mj_recvV rfl) (Nat.le_of_ble_eq_true rfl) (mj_B_mono d _ _ _ _ _ (fun r σ5 h => ?_) h)
  obtain ⟨rfl, h⟩ := h
  refine mr_aload (pc' := 308) rfl rfl rfl ?_
  refine mr_const (pc' := 310) rfl rfl (by unfold mj_r; decide) ?_
  refine mr_const (pc' := 312) rfl rfl (by unfold mj_r; decide) ?_
  refine mr_const (pc' := 314) rfl rfl (by unfold mj_r; decide) ?_
  refine mr_const (pc' := 316) rfl rfl (by unfold mj_r; decide) ?_
  refine mr_const (pc' := 317) rfl rfl (by unfold mj_r; decide) ?_
  refine mr_const (pc' := 318) rfl rfl (by unfold mj_r; decide) ?_
  refine mr_const (pc' := 319) rfl rfl (by unfold mj_r; decide) ?_
  refine mr_call (t := [(9, 0)]) (pc' := 322) rfl [.inr (.inl 0), .inl 99, .inl 111, .inl 110, .inl 100, .inl 0, .inl 0, .inl 0] rfl rfl rfl (mj_recvV rfl) (Nat.le_of_ble_eq_true rfl) (mj_B_mono d _ _ _ _ _ (fun r σ6 h => ?_) h)
  obtain ⟨rfl, h⟩ := h
  refine mr_aload (pc' := 323) rfl rfl rfl ?_
  refine mr_const (pc' := 325) rfl rfl (by unfold mj_r; decide) ?_
  refine mr_const (pc' := 327) rfl rfl (by unfold mj_r; decide) ?_
  refine mr_const (pc' := 329) rfl rfl (by unfold mj_r; decide) ?_
  refine mr_const (pc' := 330) rfl rfl (by unfold mj_r; decide) ?_
  refine mr_const (pc' := 331) rfl rfl (by unfold mj_r; decide) ?_
  refine mr_const (pc' := 332) rfl rfl (by unfold mj_r; decide) ?_
  refine mr_const (pc' := 333) rfl rfl (by unfold mj_r; decide) ?_
  refine mr_call (t := [(9, 0)]) (pc' := 336) rfl [.inr (.inl 0), .inl 97, .inl 110, .inl 100, .inl 0, .inl 0, .inl 0, .inl 0] rfl rfl rfl (mj_recvV rfl) (Nat.le_of_ble_eq_true rfl) (mj_B_mono d _ _ _ _ _ (fun r σ7 h => ?_) h)
  obtain ⟨rfl, h⟩ := h
  refine mr_aload (pc' := 337) rfl rfl rfl ?_
  refine mr_const (pc' := 339) rfl rfl (by unfold mj_r; decide) ?_
  refine mr_const (pc' := 341) rfl rfl (by unfold mj_r; decide) ?_
  refine mr_const (pc' := 342) rfl rfl (by unfold mj_r; decide) ?_
  refine mr_const (pc' := 343) rfl rfl (by unfold mj_r; decide) ?_
  refine mr_const (pc' := 344) rfl rfl (by unfold mj_r; decide) ?_
  refine mr_const (pc' := 345) rfl rfl (by unfold mj_r; decide) ?_
  refine mr_const (pc' := 346) rfl rfl (by unfold mj_r; decide) ?_
  refine mr_call (t := [(9, 0)]) (pc' := 349) rfl [.inr (.inl 0), .inl 111, .inl 114, .inl 0, .inl 0, .inl 0, .inl 0, .inl 0] rfl rfl rfl (mj_recvV rfl) (Nat.le_of_ble_eq_true rfl) (mj_B_mono d _ _ _ _ _ (fun r σ8 h => ?_) h)
  obtain ⟨rfl, h⟩ := h
  refine mr_aload (pc' := 350) rfl rfl rfl ?_
  refine mr_const (pc' := 352) rfl rfl (by unfold mj_r; decide) ?_
  refine mr_const (pc' := 354) rfl rfl (by unfold mj_r; decide) ?_
  refine mr_const (pc' := 356) rfl rfl (by unfold mj_r; decide) ?_
  refine mr_const (pc' := 358) rfl rfl (by unfold mj_r; decide) ?_
  refine mr_const (pc' := 359) rfl rfl (by unfold mj_r; decide) ?_
  refine mr_const (pc' := 360) rfl rfl (by unfold mj_r; decide) ?_
  refine mr_const (pc' := 361) rfl rfl (by unfold mj_r; decide) ?_
  refine mr_call (t := [(9, 0)]) (pc' := 364) rfl [.inr (.inl 0), .inl 108, .inl 105, .inl 115, .inl 116, .inl 0, .inl 0, .inl 0] rfl rfl rfl (mj_recvV rfl) (Nat.le_of_ble_eq_true rfl) (mj_B_mono d _ _ _ _ _ (fun r σ9 h => ?_) h)
  obtain ⟨rfl, h⟩ := h
  refine mr_aload (pc' := 365) rfl rfl rfl ?_
  refine mr_const (pc' := 367) rfl rfl (by unfold mj_r; decide) ?_
  refine mr_const (pc' := 369) rfl rfl (by unfold mj_r; decide) ?_
  refine mr_const (pc' := 371) rfl rfl (by unfold mj_r; decide) ?_
  refine mr_const (pc' := 373) rfl rfl (by unfold mj_r; decide) ?_
  refine mr_const (pc' := 375) rfl rfl (by unfold mj_r; decide) ?_
  refine mr_const (pc' := 376) rfl rfl (by unfold mj_r; decide) ?_
  refine mr_const (pc' := 377) rfl rfl (by unfold mj_r; decide) ?_
  refine mr_call (t := [(9, 0)]) (pc' := 380) rfl [.inr (.inl 0), .inl 100, .inl 101, .inl 102, .inl 117, .inl 110, .inl 0, .inl 0] rfl rfl rfl (mj_recvV rfl) (Nat.le_of_ble_eq_true rfl) (mj_B_mono d _ _ _ _ _ (fun r σ10 h => ?_) h)
  obtain ⟨rfl, h⟩ := h
  refine mr_aload (pc' := 381) rfl rfl rfl ?_
  refine mr_const (pc' := 383) rfl rfl (by unfold mj_r; decide) ?_
  refine mr_const (pc' := 385) rfl rfl (by unfold mj_r; decide) ?_
  refine mr_const (pc' := 387) rfl rfl (by unfold mj_r; decide) ?_
  refine mr_const (pc' := 389) rfl rfl (by unfold mj_r; decide) ?_
  refine mr_const (pc' := 390) rfl rfl (by unfold mj_r; decide) ?_
  refine mr_const (pc' := 391) rfl rfl (by unfold mj_r; decide) ?_
  refine mr_const (pc' := 392) rfl rfl (by unfold mj_r; decide) ?_
  refine mr_call (t := [(9, 0)]) (pc' := 395) rfl [.inr (.inl 0), .inl 99, .inl 111, .inl 110, .inl 115, .inl 0, .inl 0, .inl 0] rfl rfl rfl (mj_recvV rfl) (Nat.le_of_ble_eq_true rfl) (mj_B_mono d _ _ _ _ _ (fun r σ11 h => ?_) h)
  obtain ⟨rfl, h⟩ := h
  refine mr_aload (pc' := 396) rfl rfl rfl ?_
  refine mr_const (pc' := 398) rfl rfl (by unfold mj_r; decide) ?_
  refine mr_const (pc' := 400) rfl rfl (by unfold mj_r; decide) ?_
  refine mr_const (pc' := 402) rfl rfl (by unfold mj_r; decide) ?_
  refine mr_const (pc' := 403) rfl rfl (by unfold mj_r; decide) ?_
  refine mr_const (pc' := 404) rfl rfl (by unfold mj_r; decide) ?_
  refine mr_const (pc' := 405) rfl rfl (by unfold mj_r; decide) ?_
  refine mr_const (pc' := 406) rfl rfl (by unfold mj_r; decide) ?_
  refine mr_call (t := [(9, 0)]) (pc' := 409) rfl [.inr (.inl 0), .inl 99, .inl 97, .inl 114, .inl 0, .inl 0, .inl 0, .inl 0] rfl rfl rfl (mj_recvV rfl) (Nat.le_of_ble_eq_true rfl) (mj_B_mono d _ _ _ _ _ (fun r σ12 h => ?_) h)
  obtain ⟨rfl, h⟩ := h
  refine mr_aload (pc' := 410) rfl rfl rfl ?_
  refine mr_const (pc' := 412) rfl rfl (by unfold mj_r; decide) ?_
  refine mr_const (pc' := 414) rfl rfl (by unfold mj_r; decide) ?_
  refine mr_const (pc' := 416) rfl rfl (by unfold mj_r; decide) ?_
  refine mr_const (pc' := 417) rfl rfl (by unfold mj_r; decide) ?_
  refine mr_const (pc' := 418) rfl rfl (by unfold mj_r; decide) ?_
  refine mr_const (pc' := 419) rfl rfl (by unfold mj_r; decide) ?_
  refine mr_const (pc' := 420) rfl rfl (by unfold mj_r; decide) ?_
  refine mr_call (t := [(9, 0)]) (pc' := 423) rfl [.inr (.inl 0), .inl 99, .inl 100, .inl 114, .inl 0, .inl 0, .inl 0, .inl 0] rfl rfl rfl (mj_recvV rfl) (Nat.le_of_ble_eq_true rfl) (mj_B_mono d _ _ _ _ _ (fun r σ13 h => ?_) h)
  obtain ⟨rfl, h⟩ := h
  refine mr_aload (pc' := 424) rfl rfl rfl ?_
  refine mr_const (pc' := 426) rfl rfl (by unfold mj_r; decide) ?_
  refine mr_const (pc' := 428) rfl rfl (by unfold mj_r; decide) ?_
  refine mr_const (pc' := 430) rfl rfl (by unfold mj_r; decide) ?_
  refine mr_const (pc' := 432) rfl rfl (by unfold mj_r; decide) ?_
  refine mr_const (pc' := 434) rfl rfl (by unfold mj_r; decide) ?_
  refine mr_const (pc' := 435) rfl rfl (by unfold mj_r; decide) ?_
  refine mr_const (pc' := 436) rfl rfl (by unfold mj_r; decide) ?_
  refine mr_call (t := [(9, 0)]) (pc' := 439) rfl [.inr (.inl 0), .inl 99, .inl 111, .inl 110, .inl 115, .inl 112, .inl 0, .inl 0] rfl rfl rfl (mj_recvV rfl) (Nat.le_of_ble_eq_true rfl) (mj_B_mono d _ _ _ _ _ (fun r σ14 h => ?_) h)
  obtain ⟨rfl, h⟩ := h
  refine mr_aload (pc' := 440) rfl rfl rfl ?_
  refine mr_const (pc' := 442) rfl rfl (by unfold mj_r; decide) ?_
  refine mr_const (pc' := 444) rfl rfl (by unfold mj_r; decide) ?_
  refine mr_const (pc' := 446) rfl rfl (by unfold mj_r; decide) ?_
  refine mr_const (pc' := 448) rfl rfl (by unfold mj_r; decide) ?_
  refine mr_const (pc' := 449) rfl rfl (by unfold mj_r; decide) ?_
  refine mr_const (pc' := 450) rfl rfl (by unfold mj_r; decide) ?_
  refine mr_const (pc' := 451) rfl rfl (by unfold mj_r; decide) ?_
  refine mr_call (t := [(9, 0)]) (pc' := 454) rfl [.inr (.inl 0), .inl 110, .inl 97, .inl 116, .inl 112, .inl 0, .inl 0, .inl 0] rfl rfl rfl (mj_recvV rfl) (Nat.le_of_ble_eq_true rfl) (mj_B_mono d _ _ _ _ _ (fun r σ15 h => ?_) h)
  obtain ⟨rfl, h⟩ := h
  refine mr_aload (pc' := 455) rfl rfl rfl ?_
  refine mr_const (pc' := 457) rfl rfl (by unfold mj_r; decide) ?_
  refine mr_const (pc' := 459) rfl rfl (by unfold mj_r; decide) ?_
  refine mr_const (pc' := 461) rfl rfl (by unfold mj_r; decide) ?_
  refine mr_const (pc' := 463) rfl rfl (by unfold mj_r; decide) ?_
  refine mr_const (pc' := 465) rfl rfl (by unfold mj_r; decide) ?_
  refine mr_const (pc' := 467) rfl rfl (by unfold mj_r; decide) ?_
  refine mr_const (pc' := 469) rfl rfl (by unfold mj_r; decide) ?_
  refine mr_call (t := [(9, 0)]) (pc' := 472) rfl [.inr (.inl 0), .inl 115, .inl 121, .inl 109, .inl 98, .inl 111, .inl 108, .inl 112] rfl rfl rfl (mj_recvV rfl) (Nat.le_of_ble_eq_true rfl) (mj_B_mono d _ _ _ _ _ (fun r σ16 h => ?_) h)
  obtain ⟨rfl, h⟩ := h
  refine mr_aload (pc' := 473) rfl rfl rfl ?_
  refine mr_const (pc' := 475) rfl rfl (by unfold mj_r; decide) ?_
  refine mr_const (pc' := 477) rfl rfl (by unfold mj_r; decide) ?_
  refine mr_const (pc' := 479) rfl rfl (by unfold mj_r; decide) ?_
  refine mr_const (pc' := 481) rfl rfl (by unfold mj_r; decide) ?_
  refine mr_const (pc' := 483) rfl rfl (by unfold mj_r; decide) ?_
  refine mr_const (pc' := 484) rfl rfl (by unfold mj_r; decide) ?_
  refine mr_const (pc' := 485) rfl rfl (by unfold mj_r; decide) ?_
  refine mr_call (t := [(9, 0)]) (pc' := 488) rfl [.inr (.inl 0), .inl 101, .inl 113, .inl 117, .inl 97, .inl 108, .inl 0, .inl 0] rfl rfl rfl (mj_recvV rfl) (Nat.le_of_ble_eq_true rfl) (mj_B_mono d _ _ _ _ _ (fun r σ17 h => ?_) h)
  obtain ⟨rfl, h⟩ := h
  refine mr_aload (pc' := 489) rfl rfl rfl ?_
  refine mr_const (pc' := 491) rfl rfl (by unfold mj_r; decide) ?_
  refine mr_const (pc' := 492) rfl rfl (by unfold mj_r; decide) ?_
  refine mr_const (pc' := 493) rfl rfl (by unfold mj_r; decide) ?_
  refine mr_const (pc' := 494) rfl rfl (by unfold mj_r; decide) ?_
  refine mr_const (pc' := 495) rfl rfl (by unfold mj_r; decide) ?_
  refine mr_const (pc' := 496) rfl rfl (by unfold mj_r; decide) ?_
  refine mr_const (pc' := 497) rfl rfl (by unfold mj_r; decide) ?_
  refine mr_call (t := [(9, 0)]) (pc' := 500) rfl [.inr (.inl 0), .inl 43, .inl 0, .inl 0, .inl 0, .inl 0, .inl 0, .inl 0] rfl rfl rfl (mj_recvV rfl) (Nat.le_of_ble_eq_true rfl) (mj_B_mono d _ _ _ _ _ (fun r σ18 h => ?_) h)
  obtain ⟨rfl, h⟩ := h
  refine mr_aload (pc' := 501) rfl rfl rfl ?_
  refine mr_const (pc' := 503) rfl rfl (by unfold mj_r; decide) ?_
  refine mr_const (pc' := 504) rfl rfl (by unfold mj_r; decide) ?_
  refine mr_const (pc' := 505) rfl rfl (by unfold mj_r; decide) ?_
  refine mr_const (pc' := 506) rfl rfl (by unfold mj_r; decide) ?_
  refine mr_const (pc' := 507) rfl rfl (by unfold mj_r; decide) ?_
  refine mr_const (pc' := 508) rfl rfl (by unfold mj_r; decide) ?_
  refine mr_const (pc' := 509) rfl rfl (by unfold mj_r; decide) ?_
  refine mr_call (t := [(9, 0)]) (pc' := 512) rfl [.inr (.inl 0), .inl 45, .inl 0, .inl 0, .inl 0, .inl 0, .inl 0, .inl 0] rfl rfl rfl (mj_recvV rfl) (Nat.le_of_ble_eq_true rfl) (mj_B_mono d _ _ _ _ _ (fun r σ19 h => ?_) h)
  obtain ⟨rfl, h⟩ := h
  refine mr_aload (pc' := 513) rfl rfl rfl ?_
  refine mr_const (pc' := 515) rfl rfl (by unfold mj_r; decide) ?_
  refine mr_const (pc' := 516) rfl rfl (by unfold mj_r; decide) ?_
  refine mr_const (pc' := 517) rfl rfl (by unfold mj_r; decide) ?_
  refine mr_const (pc' := 518) rfl rfl (by unfold mj_r; decide) ?_
  refine mr_const (pc' := 519) rfl rfl (by unfold mj_r; decide) ?_
  refine mr_const (pc' := 520) rfl rfl (by unfold mj_r; decide) ?_
  refine mr_const (pc' := 521) rfl rfl (by unfold mj_r; decide) ?_
  refine mr_call (t := [(9, 0)]) (pc' := 524) rfl [.inr (.inl 0), .inl 60, .inl 0, .inl 0, .inl 0, .inl 0, .inl 0, .inl 0] rfl rfl rfl (mj_recvV rfl) (Nat.le_of_ble_eq_true rfl) (mj_B_mono d _ _ _ _ _ (fun r σ20 h => ?_) h)
  obtain ⟨rfl, h⟩ := h
  refine mr_aload (pc' := 525) rfl rfl rfl ?_
  refine mr_const (pc' := 527) rfl rfl (by unfold mj_r; decide) ?_
  refine mr_const (pc' := 529) rfl rfl (by unfold mj_r; decide) ?_
  refine mr_const (pc' := 531) rfl rfl (by unfold mj_r; decide) ?_
  refine mr_const (pc' := 533) rfl rfl (by unfold mj_r; decide) ?_
  refine mr_const (pc' := 535) rfl rfl (by unfold mj_r; decide) ?_
  refine mr_const (pc' := 536) rfl rfl (by unfold mj_r; decide) ?_
  refine mr_const (pc' := 537) rfl rfl (by unfold mj_r; decide) ?_
  refine mr_call (t := [(9, 0)]) (pc' := 540) rfl [.inr (.inl 0), .inl 101, .inl 114, .inl 114, .inl 111, .inl 114, .inl 0, .inl 0] rfl rfl rfl (mj_recvV rfl) (Nat.le_of_ble_eq_true rfl) (mj_B_mono d _ _ _ _ _ (fun r σ21 h => ?_) h)
  obtain ⟨rfl, h⟩ := h
  exact mr_ret rfl rfl h
theorem mj_up_ne {σ : mj_S} {q k i j : Nat} {x : Int} (h : ¬ (i = q ∧ j = k)) : mj_up σ q k x i j = σ i j := by
  unfold mj_up
  by_cases h1 : i = q
  · rw [if_pos h1, if_neg (fun z => h ⟨h1, z⟩)]
  · rw [if_neg h1]
theorem mj_up_eq {σ : mj_S} {q k : Nat} {x : Int} : mj_up σ q k x q k = x := by
  unfold mj_up
  rw [if_pos rfl, if_pos rfl]
def mk_SP (z : Int) (ns : List (List Int)) (σ : mj_S) : Prop := sy_R (σ 2) (σ 3) ns ∧ σ 0 6 = (ns.length : Int) ∧ σ 0 0 = z ∧ (∀ j, ns.length ≤ j → σ 3 j = 0) ∧ ∀ q k, q ≠ 2 → q ≠ 3 → ¬ (q = 0 ∧ (k = 0 ∨ k = 6)) → σ q k = 0
def mkS (σ : mj_S) (s : Nat) (w : List Int) (k : Nat) : mj_S := fun q i => if q = 2 ∧ 8 * s ≤ i ∧ i < 8 * s + k then w.getD (i - 8 * s) 0 else if q = 3 ∧ i = s then (min k w.length : Nat) else σ q i
theorem mkS_0 {σ : mj_S} {s : Nat} {w : List Int} (h : σ 3 s = 0) : mkS σ s w 0 = σ := by
  funext q i
  unfold mkS
  rw [if_neg (by omega)]
  by_cases h1 : q = 3 ∧ i = s
  · rw [if_pos h1, h1.1, h1.2, h]; simp
  · rw [if_neg h1]
theorem mkS_up {σ : mj_S} {s : Nat} {w : List Int} {k : Nat} (hpos : ∀ k, k < w.length → 0 < w.getD k 0) : mj_up (mj_up (mkS σ s w k) 2 (8 * s + k) (w.getD k 0)) 3 s ((min k w.length : Nat) + (if 0 < w.getD k 0 then 1 else 0)) = mkS σ s w (k + 1) := by
  funext q i
  unfold mj_up
  by_cases h3 : q = 3
  · subst h3
    rw [if_pos rfl]
    by_cases hi : i = s
    · rw [if_pos hi]
      have eR : mkS σ s w (k + 1) 3 i = (min (k + 1) w.length : Nat) := by
        unfold mkS
        rw [if_neg (by omega), if_pos ⟨rfl, hi⟩]
      rw [eR]
      by_cases hk : k < w.length
      · rw [if_pos (hpos k hk)]; omega
      · have : w.getD k 0 = 0 := by rw [List.getD_eq_getElem?_getD, List.getElem?_eq_none (by omega)]; rfl
        rw [this, if_neg (by omega)]; omega
    · rw [if_neg hi, if_neg (by omega)]
      unfold mkS
      rw [if_neg (by omega), if_neg (fun z => hi z.2), if_neg (by omega), if_neg (fun z => hi z.2)]
  · rw [if_neg h3]
    by_cases h2 : q = 2
    · subst h2
      rw [if_pos rfl]
      by_cases hi : i = 8 * s + k
      · rw [if_pos hi]
        unfold mkS
        rw [if_pos ⟨rfl, by omega, by omega⟩]
        congr 1
        omega
      · rw [if_neg hi]
        unfold mkS
        by_cases hc : 8 * s ≤ i ∧ i < 8 * s + k
        · rw [if_pos ⟨rfl, hc.1, hc.2⟩, if_pos ⟨rfl, by omega, by omega⟩]
        · rw [if_neg (fun z => hc z.2), if_neg (by omega), if_neg (fun z => hc ⟨z.2.1, by omega⟩), if_neg (by omega)]
    · rw [if_neg h2]
      unfold mkS
      rw [if_neg (fun z => h2 z.1), if_neg (fun z => h3 z.1), if_neg (fun z => h2 z.1), if_neg (fun z => h3 z.1)]
theorem mk_pick {d : Nat} {Q : mj_Q} {w : List Int} {σ : mj_S} : ∀ k : Nat, k < 7 → lh_m0_74 d Q (w.getD 0 0) (w.getD 1 0) (w.getD 2 0) (w.getD 3 0) (w.getD 4 0) (w.getD 5 0) (w.getD 6 0) (k : Int) (w.getD k 0) σ → lh_m0_3 d Q (w.getD 0 0) (w.getD 1 0) (w.getD 2 0) (w.getD 3 0) (w.getD 4 0) (w.getD 5 0) (w.getD 6 0) (k : Int) σ := by
  intro k hk H
  refine lw_m0_3 ⟨fun h => absurd h (by omega), fun _ => ?_⟩
  match k, hk, H with
  | 0, _, H => exact ⟨fun h => absurd rfl h, fun _ => H⟩
  | 1, _, H => exact ⟨fun _ => ⟨fun h => absurd rfl h, fun _ => H⟩, fun h => absurd h (by decide)⟩
  | 2, _, H => exact ⟨fun _ => ⟨fun _ => ⟨fun h => absurd rfl h, fun _ => H⟩, fun h => absurd h (by decide)⟩, fun h => absurd h (by decide)⟩
  | 3, _, H => exact ⟨fun _ => ⟨fun _ => ⟨fun _ => ⟨fun h => absurd rfl h, fun _ => H⟩, fun h => absurd h (by decide)⟩, fun h => absurd h (by decide)⟩, fun h => absurd h (by decide)⟩
  | 4, _, H => exact ⟨fun _ => ⟨fun _ => ⟨fun _ => ⟨fun _ => ⟨fun h => absurd rfl h, fun _ => H⟩, fun h => absurd h (by decide)⟩, fun h => absurd h (by decide)⟩, fun h => absurd h (by decide)⟩, fun h => absurd h (by decide)⟩
  | 5, _, H => exact ⟨fun _ => ⟨fun _ => ⟨fun _ => ⟨fun _ => ⟨fun _ => ⟨fun h => absurd rfl h, fun _ => H⟩, fun h => absurd h (by decide)⟩, fun h => absurd h (by decide)⟩, fun h => absurd h (by decide)⟩, fun h => absurd h (by decide)⟩, fun h => absurd h (by decide)⟩
  | 6, _, H => exact ⟨fun _ => ⟨fun _ => ⟨fun _ => ⟨fun _ => ⟨fun _ => ⟨fun _ => H, fun h => absurd h (by decide)⟩, fun h => absurd h (by decide)⟩, fun h => absurd h (by decide)⟩, fun h => absurd h (by decide)⟩, fun h => absurd h (by decide)⟩, fun h => absurd h (by decide)⟩
theorem mk_keep {d : Nat} {Q : mj_Q} {σ : mj_S} {z : Int} {ns : List (List Int)} {w : List Int} (h : mk_SP z ns σ) (hlen : ns.length < 60) (h1 : 1 ≤ w.length) (h7 : w.length ≤ 7) (hpos : ∀ k, k < w.length → 0 < w.getD k 0) (hle : ∀ k, k < 7 → 0 ≤ w.getD k 0 ∧ w.getD k 0 ≤ 65535) (hQ : ∀ σ', mk_SP z (ns ++ [w]) σ' → Q none σ') : mj_B mjm_L mjm_Ms (d + 1) 0 [.inr (.inl 0), .inl (w.getD 0 0), .inl (w.getD 1 0), .inl (w.getD 2 0), .inl (w.getD 3 0), .inl (w.getD 4 0), .inl (w.getD 5 0), .inl (w.getD 6 0)] σ Q := by
  obtain ⟨hR, hk, hz, h0, hr⟩ := h
  have hs : ∀ k, (mkS σ ns.length w k) 0 6 = (ns.length : Int) := fun k => by unfold mkS; rw [if_neg (by omega), if_neg (by omega)]; exact hk
  have loop : ∀ (m k : Nat), 7 - k = m → k ≤ 7 → lh_m0_3 d Q (w.getD 0 0) (w.getD 1 0) (w.getD 2 0) (w.getD 3 0) (w.getD 4 0) (w.getD 5 0) (w.getD 6 0) (k : Int) (mkS σ ns.length w k) := by
    intro m
    induction m with
    | zero =>
      intro k hm hk7
      have e : k = 7 := by omega
      subst e
      refine lw_m0_3 ⟨fun _ => ⟨by rw [hs]; exact mj_rN (by omega) (by omega), fun σ1 e1 => ?_⟩, fun h => absurd h (by decide)⟩
      rw [hs] at e1
      have e2 : σ1 2 = mkS σ ns.length w 7 2 := by rw [e1]; funext i; simp [mj_up]
      have e3 : σ1 3 = mkS σ ns.length w 7 3 := by rw [e1]; funext i; simp [mj_up]
      refine hQ σ1 ⟨?_, by rw [e1, List.length_append]; simp [mj_up], ?_, ?_, ?_⟩
      · rw [e2, e3]
        intro i hi
        rw [List.length_append, List.length_singleton] at hi
        rw [sy_getD_app]
        by_cases hc : i < ns.length
        · rw [if_pos hc]
          obtain ⟨g1, g2, g3, g4⟩ := hR i hc
          refine ⟨by unfold mkS; rw [if_neg (by omega), if_neg (by omega)]; exact g1, g2, g3, fun k hk => ?_⟩
          unfold mkS
          rw [if_neg (by omega), if_neg (by omega)]
          exact g4 k hk
        · have e : i = ns.length := by omega
          subst e
          rw [if_neg hc, if_pos rfl]
          refine ⟨by unfold mkS; rw [if_neg (by omega), if_pos ⟨rfl, rfl⟩]; omega, h1, by omega, fun k hk => ?_⟩
          unfold mkS
          rw [if_pos ⟨rfl, by omega, by omega⟩]
          congr 1
          omega
      · rw [e1, mj_up_ne (by omega)]
        unfold mkS
        rw [if_neg (by omega), if_neg (by omega)]
        exact hz
      · intro j hj
        rw [List.length_append, List.length_singleton] at hj
        rw [e3]
        unfold mkS
        rw [if_neg (by omega), if_neg (by omega)]
        exact h0 j (by omega)
      · intro q k h2 h3 hn
        have hm : mkS σ ns.length w 7 q k = σ q k := by unfold mkS; rw [if_neg (fun z => h2 z.1), if_neg (fun z => h3 z.1)]
        rw [e1, mj_up_ne (fun z => hn ⟨z.1, Or.inr z.2⟩), hm]
        exact hr q k h2 h3 hn
    | succ m ih =>
      intro k hm hk7
      have hk6 : k < 7 := by omega
      obtain ⟨l0, l1⟩ := hle k hk6
      refine mk_pick k hk6 (lw_m0_74 ?_)
      rw [hs]
      have eI : ((8 * (ns.length : Int)) + (k : Int)).toNat = 8 * ns.length + k := by omega
      have eM : w.getD k 0 % 65536 = w.getD k 0 := by omega
      rw [eI, eM]
      refine ⟨mj_rN (by omega) (by omega), mj_rN (by omega) (by omega), by omega, by omega, ⟨l0, l1⟩, fun σ1 e1 => ?_⟩
      have s1 : σ1 0 6 = (ns.length : Int) := by rw [e1, mj_up_ne (by omega)]; exact hs k
      have s3 : σ1 3 ns.length = (min k w.length : Nat) := by
        rw [e1, mj_up_ne (by omega)]
        unfold mkS
        rw [if_neg (by omega), if_pos ⟨rfl, rfl⟩]
      rw [s1, show ((ns.length : Int)).toNat = ns.length by omega, s3]
      refine ⟨by omega, by omega, fun hz0 => ⟨mj_rN (by omega) (by omega), by omega, by omega, fun σ2 e2 => ⟨mj_rN (by omega) (by omega), ?_⟩⟩, fun hz0 => ⟨mj_rN (by omega) (by omega), by omega, by omega, fun σ2 e2 => ⟨mj_rN (by omega) (by omega), ?_⟩⟩⟩
      · have e3 : σ2 = mkS σ ns.length w (k + 1) := by
          rw [e2, e1, ← mkS_up hpos, if_neg (by omega)]
        rw [e3]
        have := ih (k + 1) (by omega) (by omega)
        rw [show ((k + 1 : Nat) : Int) = (k : Int) + 1 by omega] at this
        exact this
      · have e3 : σ2 = mkS σ ns.length w (k + 1) := by
          rw [e2, e1, ← mkS_up hpos, if_pos (by omega)]
        rw [e3]
        have := ih (k + 1) (by omega) (by omega)
        rw [show ((k + 1 : Nat) : Int) = (k : Int) + 1 by omega] at this
        exact this
  refine wp_m0 ?_
  have := loop 7 0 rfl (by omega)
  rw [mkS_0 (h0 _ (Nat.le_refl _))] at this
  exact this
set_option maxRecDepth 20000 in
theorem mk_init {d : Nat} {Q : mj_Q} {σ : mj_S} {z : Int} (h0 : mk_SP z [] σ) (hQ : ∀ σ', mk_SP z sy_21 σ' → Q none σ') : lh_m63_238 (d + 1) Q σ := by
  refine lw_m63_238 ?_
  refine mk_keep (ns := []) (w := [110, 105, 108]) h0 (by decide) (by decide) (by decide) (by decide) (by decide) (fun σ h1 => ⟨rfl, ?_⟩)
  refine mk_keep (ns := [[110, 105, 108]]) (w := [116]) h1 (by decide) (by decide) (by decide) (by decide) (by decide) (fun σ h2 => ⟨rfl, ?_⟩)
  refine mk_keep (ns := [[110, 105, 108], [116]]) (w := [113, 117, 111, 116, 101]) h2 (by decide) (by decide) (by decide) (by decide) (by decide) (fun σ h3 => ⟨rfl, ?_⟩)
  refine mk_keep (ns := [[110, 105, 108], [116], [113, 117, 111, 116, 101]]) (w := [105, 102]) h3 (by decide) (by decide) (by decide) (by decide) (by decide) (fun σ h4 => ⟨rfl, ?_⟩)
  refine mk_keep (ns := [[110, 105, 108], [116], [113, 117, 111, 116, 101], [105, 102]]) (w := [108, 101, 116]) h4 (by decide) (by decide) (by decide) (by decide) (by decide) (fun σ h5 => ⟨rfl, ?_⟩)
  refine mk_keep (ns := [[110, 105, 108], [116], [113, 117, 111, 116, 101], [105, 102], [108, 101, 116]]) (w := [99, 111, 110, 100]) h5 (by decide) (by decide) (by decide) (by decide) (by decide) (fun σ h6 => ⟨rfl, ?_⟩)
  refine mk_keep (ns := [[110, 105, 108], [116], [113, 117, 111, 116, 101], [105, 102], [108, 101, 116], [99, 111, 110, 100]]) (w := [97, 110, 100]) h6 (by decide) (by decide) (by decide) (by decide) (by decide) (fun σ h7 => ⟨rfl, ?_⟩)
  refine mk_keep (ns := [[110, 105, 108], [116], [113, 117, 111, 116, 101], [105, 102], [108, 101, 116], [99, 111, 110, 100], [97, 110, 100]]) (w := [111, 114]) h7 (by decide) (by decide) (by decide) (by decide) (by decide) (fun σ h8 => ⟨rfl, ?_⟩)
  refine mk_keep (ns := [[110, 105, 108], [116], [113, 117, 111, 116, 101], [105, 102], [108, 101, 116], [99, 111, 110, 100], [97, 110, 100], [111, 114]]) (w := [108, 105, 115, 116]) h8 (by decide) (by decide) (by decide) (by decide) (by decide) (fun σ h9 => ⟨rfl, ?_⟩)
  refine mk_keep (ns := [[110, 105, 108], [116], [113, 117, 111, 116, 101], [105, 102], [108, 101, 116], [99, 111, 110, 100], [97, 110, 100], [111, 114], [108, 105, 115, 116]]) (w := [100, 101, 102, 117, 110]) h9 (by decide) (by decide) (by decide) (by decide) (by decide) (fun σ h10 => ⟨rfl, ?_⟩)
  refine mk_keep (ns := [[110, 105, 108], [116], [113, 117, 111, 116, 101], [105, 102], [108, 101, 116], [99, 111, 110, 100], [97, 110, 100], [111, 114], [108, 105, 115, 116], [100, 101, 102, 117, 110]]) (w := [99, 111, 110, 115]) h10 (by decide) (by decide) (by decide) (by decide) (by decide) (fun σ h11 => ⟨rfl, ?_⟩)
  refine mk_keep (ns := [[110, 105, 108], [116], [113, 117, 111, 116, 101], [105, 102], [108, 101, 116], [99, 111, 110, 100], [97, 110, 100], [111, 114], [108, 105, 115, 116], [100, 101, 102, 117, 110], [99, 111, 110, 115]]) (w := [99, 97, 114]) h11 (by decide) (by decide) (by decide) (by decide) (by decide) (fun σ h12 => ⟨rfl, ?_⟩)
  refine mk_keep (ns := [[110, 105, 108], [116], [113, 117, 111, 116, 101], [105, 102], [108, 101, 116], [99, 111, 110, 100], [97, 110, 100], [111, 114], [108, 105, 115, 116], [100, 101, 102, 117, 110], [99, 111, 110, 115], [99, 97, 114]]) (w := [99, 100, 114]) h12 (by decide) (by decide) (by decide) (by decide) (by decide) (fun σ h13 => ⟨rfl, ?_⟩)
  refine mk_keep (ns := [[110, 105, 108], [116], [113, 117, 111, 116, 101], [105, 102], [108, 101, 116], [99, 111, 110, 100], [97, 110, 100], [111, 114], [108, 105, 115, 116], [100, 101, 102, 117, 110], [99, 111, 110, 115], [99, 97, 114], [99, 100, 114]]) (w := [99, 111, 110, 115, 112]) h13 (by decide) (by decide) (by decide) (by decide) (by decide) (fun σ h14 => ⟨rfl, ?_⟩)
  refine mk_keep (ns := [[110, 105, 108], [116], [113, 117, 111, 116, 101], [105, 102], [108, 101, 116], [99, 111, 110, 100], [97, 110, 100], [111, 114], [108, 105, 115, 116], [100, 101, 102, 117, 110], [99, 111, 110, 115], [99, 97, 114], [99, 100, 114], [99, 111, 110, 115, 112]]) (w := [110, 97, 116, 112]) h14 (by decide) (by decide) (by decide) (by decide) (by decide) (fun σ h15 => ⟨rfl, ?_⟩)
  refine mk_keep (ns := [[110, 105, 108], [116], [113, 117, 111, 116, 101], [105, 102], [108, 101, 116], [99, 111, 110, 100], [97, 110, 100], [111, 114], [108, 105, 115, 116], [100, 101, 102, 117, 110], [99, 111, 110, 115], [99, 97, 114], [99, 100, 114], [99, 111, 110, 115, 112], [110, 97, 116, 112]]) (w := [115, 121, 109, 98, 111, 108, 112]) h15 (by decide) (by decide) (by decide) (by decide) (by decide) (fun σ h16 => ⟨rfl, ?_⟩)
  refine mk_keep (ns := [[110, 105, 108], [116], [113, 117, 111, 116, 101], [105, 102], [108, 101, 116], [99, 111, 110, 100], [97, 110, 100], [111, 114], [108, 105, 115, 116], [100, 101, 102, 117, 110], [99, 111, 110, 115], [99, 97, 114], [99, 100, 114], [99, 111, 110, 115, 112], [110, 97, 116, 112], [115, 121, 109, 98, 111, 108, 112]]) (w := [101, 113, 117, 97, 108]) h16 (by decide) (by decide) (by decide) (by decide) (by decide) (fun σ h17 => ⟨rfl, ?_⟩)
  refine mk_keep (ns := [[110, 105, 108], [116], [113, 117, 111, 116, 101], [105, 102], [108, 101, 116], [99, 111, 110, 100], [97, 110, 100], [111, 114], [108, 105, 115, 116], [100, 101, 102, 117, 110], [99, 111, 110, 115], [99, 97, 114], [99, 100, 114], [99, 111, 110, 115, 112], [110, 97, 116, 112], [115, 121, 109, 98, 111, 108, 112], [101, 113, 117, 97, 108]]) (w := [43]) h17 (by decide) (by decide) (by decide) (by decide) (by decide) (fun σ h18 => ⟨rfl, ?_⟩)
  refine mk_keep (ns := [[110, 105, 108], [116], [113, 117, 111, 116, 101], [105, 102], [108, 101, 116], [99, 111, 110, 100], [97, 110, 100], [111, 114], [108, 105, 115, 116], [100, 101, 102, 117, 110], [99, 111, 110, 115], [99, 97, 114], [99, 100, 114], [99, 111, 110, 115, 112], [110, 97, 116, 112], [115, 121, 109, 98, 111, 108, 112], [101, 113, 117, 97, 108], [43]]) (w := [45]) h18 (by decide) (by decide) (by decide) (by decide) (by decide) (fun σ h19 => ⟨rfl, ?_⟩)
  refine mk_keep (ns := [[110, 105, 108], [116], [113, 117, 111, 116, 101], [105, 102], [108, 101, 116], [99, 111, 110, 100], [97, 110, 100], [111, 114], [108, 105, 115, 116], [100, 101, 102, 117, 110], [99, 111, 110, 115], [99, 97, 114], [99, 100, 114], [99, 111, 110, 115, 112], [110, 97, 116, 112], [115, 121, 109, 98, 111, 108, 112], [101, 113, 117, 97, 108], [43], [45]]) (w := [60]) h19 (by decide) (by decide) (by decide) (by decide) (by decide) (fun σ h20 => ⟨rfl, ?_⟩)
  refine mk_keep (ns := [[110, 105, 108], [116], [113, 117, 111, 116, 101], [105, 102], [108, 101, 116], [99, 111, 110, 100], [97, 110, 100], [111, 114], [108, 105, 115, 116], [100, 101, 102, 117, 110], [99, 111, 110, 115], [99, 97, 114], [99, 100, 114], [99, 111, 110, 115, 112], [110, 97, 116, 112], [115, 121, 109, 98, 111, 108, 112], [101, 113, 117, 97, 108], [43], [45], [60]]) (w := [101, 114, 114, 111, 114]) h20 (by decide) (by decide) (by decide) (by decide) (by decide) (fun σ h21 => ⟨rfl, ?_⟩)
  exact hQ _ h21
def fM (z : Int) : mj_S := fun q k => if q = 0 then (if k = 0 then z else 0) else 0
theorem fM_ok {z : Int} (hz : mj_r z) : mj_okS (fM z) := by
  intro q k
  unfold fM
  repeat' split
  · exact hz
  · exact mj_0
  · exact mj_0
theorem fM_SP (z : Int) : mk_SP z [] (fM z) := by
  refine ⟨fun i hi => absurd hi (by simp), rfl, rfl, fun j _ => rfl, fun q k h2 h3 hn => ?_⟩
  unfold fM
  by_cases h : q = 0
  · rw [if_pos h, if_neg (fun z => hn ⟨h, Or.inl z⟩)]
  · rw [if_neg h]
