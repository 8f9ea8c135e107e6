set_option maxRecDepth 20000 in
/-- ListSpeaker$Maker.makeForm_ -/
theorem wq_c62 {d : Nat} {σ : mj_S} {Q : mj_Q} {x1 : Int} (h : ∀ σ1, σ1 = mj_up σ 5 4 0 → mj_B mjc_L mjc_Ms (d + 2) 68 [.inr (.inl 5), .inl x1, .inl 0, .inl 0, .inl 0] σ1 (fun r σ2 => ∃ v3, r = some (.inl v3) ∧ 0 ≤ σ2 4 3 ∧ ∀ σ4, σ4 = z_put σ2 0 0 0 → Q (some (.inl v3)) σ4)) : mj_B mjc_L mjc_Ms (d + 3) 62 [.inr (.inl 5), .inl x1] σ Q := by
  refine mj_B_of (M := mjcM62) (ls := [some (.inr (.inl 5)), some (.inl x1), none]) rfl (mj_c1_all rfl) (Nat.le_of_ble_eq_true rfl) rfl ?_
  refine mr_aload (pc' := 1) rfl rfl rfl ?_
  refine mr_const (pc' := 2) rfl rfl (by unfold mj_r; decide) ?_
  refine mr_put (pc' := 5) rfl rfl rfl rfl (fun σ1 e9 => ?_)
  replace h := h σ1 e9
  refine mr_aload (pc' := 6) rfl rfl rfl ?_
  refine mr_iload (pc' := 7) rfl rfl rfl ?_
  refine mr_const (pc' := 8) rfl rfl (by unfold mj_r; decide) ?_
  refine mr_const (pc' := 9) rfl rfl (by unfold mj_r; decide) ?_
  refine mr_const (pc' := 10) rfl rfl (by unfold mj_r; decide) ?_
  refine mr_call (t := [(5, 0)]) (pc' := 13) rfl [.inr (.inl 5), .inl x1, .inl 0, .inl 0, .inl 0] rfl rfl rfl (mj_recvV rfl) (Nat.le_of_ble_eq_true rfl) (mj_B_mono _ _ _ _ _ _ (fun r σ2 h => ?_) h)
  obtain ⟨v3, rfl, h⟩ := h
  refine mr_istore (pc' := 14) rfl rfl trivial (Nat.le_of_ble_eq_true rfl) rfl ?_
  refine mr_aload (pc' := 15) rfl rfl rfl ?_
  refine mr_getr (ci := 0) (pc' := 18) rfl rfl rfl rfl ?_
  refine mr_const (pc' := 19) rfl rfl (by unfold mj_r; decide) ?_
  refine mr_const (pc' := 20) rfl rfl (by unfold mj_r; decide) ?_
  obtain ⟨h0, h⟩ := h
  refine mr_call (t := [(4, 0)]) (pc' := 23) rfl [.inr (.inl 4), .inl 0, .inl 0] rfl rfl rfl (mj_recvV rfl) (Nat.le_of_ble_eq_true rfl) (s_c59 h0 (fun σ4 e9 => ?_))
  replace h := h σ4 e9
  refine mr_pop (pc' := 24) rfl rfl trivial ?_
  refine mr_iload (pc' := 25) rfl rfl rfl ?_
  exact mr_iret rfl rfl trivial h
def qh_c63_89 (d : Nat) (Q : mj_Q) (y1 y2 y3 y4 y5 : Int) (σ : mj_S) : Prop := mj_P mjc_L mjc_Ms d mjco63 ((Option.some Jvm.ClassFile.FieldType.int)) Q 89 [some (.inr (.inl 5)), some (.inl y1), some (.inl y2), some (.inl y3), some (.inl y4), some (.inl y5)] [] σ
set_option maxRecDepth 20000 in
theorem qw_c63_89 {d : Nat} {Q : mj_Q} {y1 y2 y3 y4 y5 : Int} {σ : mj_S} (h : (y4 ≤ y5 → mj_B mjc_L mjc_Ms (d + 2) 22 [.inr (.inl 2), .inl y1, .inl 3] σ (fun r σ1 => ∃ v2, r = some (.inl v2) ∧ mj_r (y4 + 1) ∧ mj_B mjc_L mjc_Ms (d + 2) 68 [.inr (.inl 5), .inl v2, .inl (y4 + 1), .inl 1, .inl 0] σ1 (fun r σ3 => ∃ v4, r = some (.inl v4) ∧ 0 ≤ σ3 4 3 ∧ ∀ σ5, σ5 = z_put σ3 11 0 0 → Q (some (.inl v4)) σ5))) ∧ (y5 < y4 → mj_B mjc_L mjc_Ms (d + 2) 22 [.inr (.inl 2), .inl y3, .inl y5] σ (fun r σ6 => ∃ v7, r = some (.inl v7) ∧ 0 ≤ σ6 5 4 ∧ ∀ σ8, σ8 = z_kn σ6 v7 y5 → mj_r (y5 + 1) ∧ qh_c63_89 (d + 2) Q y1 y2 y3 y4 (y5 + 1) σ8))) : qh_c63_89 (d + 2) Q y1 y2 y3 y4 y5 σ := by
  show mj_P mjc_L mjc_Ms (d + 2) mjco63 ((Option.some Jvm.ClassFile.FieldType.int)) Q 89 [some (.inr (.inl 5)), some (.inl y1), some (.inl y2), some (.inl y3), some (.inl y4), some (.inl y5)] [] σ
  refine mr_iload (pc' := 91) rfl rfl rfl ?_
  refine mr_iload (pc' := 93) rfl rfl rfl ?_
  refine mr_ic_ge (pc' := 96) rfl rfl (fun c => ?_) (fun c => ?_)
  · replace h := h.1 c
    refine mr_aload (pc' := 119) rfl rfl rfl ?_
    refine mr_aload (pc' := 120) rfl rfl rfl ?_
    refine mr_getr (ci := 0) (pc' := 123) rfl rfl rfl rfl ?_
    refine mr_iload (pc' := 124) rfl rfl rfl ?_
    refine mr_const (pc' := 125) rfl rfl (by unfold mj_r; decide) ?_
    refine mr_call (t := [(2, 0)]) (pc' := 128) rfl [.inr (.inl 2), .inl y1, .inl 3] rfl rfl rfl (mj_recvV rfl) (Nat.le_of_ble_eq_true rfl) (mj_B_mono _ _ _ _ _ _ (fun r σ1 h => ?_) h)
    obtain ⟨v2, rfl, h⟩ := h
    refine mr_iload (pc' := 130) rfl rfl rfl ?_
    refine mr_const (pc' := 131) rfl rfl (by unfold mj_r; decide) ?_
    obtain ⟨h0, h⟩ := h
    refine mr_iadd (pc' := 132) rfl rfl h0 ?_
    refine mr_const (pc' := 133) rfl rfl (by unfold mj_r; decide) ?_
    refine mr_const (pc' := 134) rfl rfl (by unfold mj_r; decide) ?_
    refine mr_call (t := [(5, 0)]) (pc' := 137) rfl [.inr (.inl 5), .inl v2, .inl (y4 + 1), .inl 1, .inl 0] rfl rfl rfl (mj_recvV rfl) (Nat.le_of_ble_eq_true rfl) (mj_B_mono _ _ _ _ _ _ (fun r σ3 h => ?_) h)
    obtain ⟨v4, rfl, h⟩ := h
    refine mr_istore (pc' := 139) rfl rfl trivial (Nat.le_of_ble_eq_true rfl) rfl ?_
    refine mr_aload (pc' := 140) rfl rfl rfl ?_
    refine mr_getr (ci := 0) (pc' := 143) rfl rfl rfl rfl ?_
    refine mr_const (pc' := 145) rfl rfl (by unfold mj_r; decide) ?_
    refine mr_const (pc' := 146) rfl rfl (by unfold mj_r; decide) ?_
    obtain ⟨h0, h⟩ := h
    refine mr_call (t := [(4, 0)]) (pc' := 149) rfl [.inr (.inl 4), .inl 11, .inl 0] rfl rfl rfl (mj_recvV rfl) (Nat.le_of_ble_eq_true rfl) (s_c59 h0 (fun σ5 e9 => ?_))
    replace h := h σ5 e9
    refine mr_pop (pc' := 150) rfl rfl trivial ?_
    refine mr_iload (pc' := 152) rfl rfl rfl ?_
    exact mr_iret rfl rfl trivial h
  · replace h := h.2 c
    refine mr_aload (pc' := 97) rfl rfl rfl ?_
    refine mr_aload (pc' := 98) rfl rfl rfl ?_
    refine mr_getr (ci := 0) (pc' := 101) rfl rfl rfl rfl ?_
    refine mr_iload (pc' := 102) rfl rfl rfl ?_
    refine mr_iload (pc' := 104) rfl rfl rfl ?_
    refine mr_call (t := [(2, 0)]) (pc' := 107) rfl [.inr (.inl 2), .inl y3, .inl y5] rfl rfl rfl (mj_recvV rfl) (Nat.le_of_ble_eq_true rfl) (mj_B_mono _ _ _ _ _ _ (fun r σ6 h => ?_) h)
    obtain ⟨v7, rfl, h⟩ := h
    refine mr_iload (pc' := 109) rfl rfl rfl ?_
    obtain ⟨h0, h⟩ := h
    refine mr_call (t := [(5, 0)]) (pc' := 112) rfl [.inr (.inl 5), .inl v7, .inl y5] rfl rfl rfl (mj_recvV rfl) (Nat.le_of_ble_eq_true rfl) (s_c67 h0 (fun σ8 e9 => ?_))
    replace h := h σ8 e9
    obtain ⟨h0, h⟩ := h
    refine mr_iinc (pc' := 115) rfl rfl rfl trivial h0 rfl ?_
    refine mr_goto rfl ?_
    exact mj_W_ls (mj_B_mono _) (mj_lev_of _ _ (by simp [mj_levb])) h
set_option maxRecDepth 20000 in
/-- ListSpeaker$Maker.makeDefinition_ -/
theorem wq_c63 {d : Nat} {σ : mj_S} {Q : mj_Q} {x1 : Int} (h : mj_B mjc_L mjc_Ms (d + 2) 22 [.inr (.inl 2), .inl x1, .inl 1] σ (fun r σ1 => ∃ v2, r = some (.inl v2) ∧ mj_B mjc_L mjc_Ms (d + 2) 23 [.inr (.inl 2), .inl x1] σ1 (fun r σ3 => ∃ v4, r = some (.inl v4) ∧ (¬ v4 = 4 → Q (some (.inl 1)) σ3) ∧ (v4 = 4 → (¬ (268435456 ≤ v2 ∧ v2 < 536870912) → Q (some (.inl 1)) σ3) ∧ (268435456 ≤ v2 ∧ v2 < 536870912 → (268435476 < v2 → mj_B mjc_L mjc_Ms (d + 2) 22 [.inr (.inl 2), .inl x1, .inl 2] σ3 (fun r σ5 => ∃ v6, r = some (.inl v6) ∧ mj_B mjc_L mjc_Ms (d + 2) 23 [.inr (.inl 2), .inl v6] σ5 (fun r σ7 => ∃ v8, r = some (.inl v8) ∧ (v8 < 0 → Q (some (.inl 1)) σ7) ∧ (0 ≤ v8 → (5 < v8 → Q (some (.inl 1)) σ7) ∧ (v8 ≤ 5 → mj_B mjc_L mjc_Ms (d + 2) 64 [.inr (.inl 5), .inl v6, .inl v8, .inl 0] σ7 (fun r σ9 => ∃ v10, r = some (.inl v10) ∧ (¬ v10 = 0 → ∀ σ11, σ11 = mj_up σ9 5 4 0 → qh_c63_89 (d + 2) Q x1 v2 v6 v8 0 σ11) ∧ (v10 = 0 → Q (some (.inl 1)) σ9))))))) ∧ (v2 ≤ 268435476 → Q (some (.inl 1)) σ3)))))) : mj_B mjc_L mjc_Ms (d + 3) 63 [.inr (.inl 5), .inl x1] σ Q := by
  refine mj_B_of (M := mjcM63) (ls := [some (.inr (.inl 5)), some (.inl x1), none, none, none, none]) rfl (mj_c1_all rfl) (Nat.le_of_ble_eq_true rfl) rfl ?_
  refine mr_aload (pc' := 1) rfl rfl rfl ?_
  refine mr_getr (ci := 0) (pc' := 4) rfl rfl rfl rfl ?_
  refine mr_iload (pc' := 5) rfl rfl rfl ?_
  refine mr_const (pc' := 6) rfl rfl (by unfold mj_r; decide) ?_
  refine mr_call (t := [(2, 0)]) (pc' := 9) rfl [.inr (.inl 2), .inl x1, .inl 1] rfl rfl rfl (mj_recvV rfl) (Nat.le_of_ble_eq_true rfl) (mj_B_mono _ _ _ _ _ _ (fun r σ1 h => ?_) h)
  obtain ⟨v2, rfl, h⟩ := h
  refine mr_istore (pc' := 10) rfl rfl trivial (Nat.le_of_ble_eq_true rfl) rfl ?_
  refine mr_aload (pc' := 11) rfl rfl rfl ?_
  refine mr_getr (ci := 0) (pc' := 14) rfl rfl rfl rfl ?_
  refine mr_iload (pc' := 15) rfl rfl rfl ?_
  refine mr_call (t := [(2, 0)]) (pc' := 18) rfl [.inr (.inl 2), .inl x1] rfl rfl rfl (mj_recvV rfl) (Nat.le_of_ble_eq_true rfl) (mj_B_mono _ _ _ _ _ _ (fun r σ3 h => ?_) h)
  obtain ⟨v4, rfl, h⟩ := h
  refine mr_const (pc' := 19) rfl rfl (by unfold mj_r; decide) ?_
  refine mr_ic_ne (pc' := 22) rfl rfl (fun c => ?_) (fun c => ?_)
  · replace h := h.1 c
    refine mr_const (pc' := 36) rfl rfl (by unfold mj_r; decide) ?_
    exact mr_iret rfl rfl trivial h
  · replace h := h.2 c
    refine mr_iload (pc' := 23) rfl rfl rfl ?_
    refine mr_call (t := []) (pc' := 26) rfl [.inl v2] rfl rfl rfl trivial (Nat.le_of_ble_eq_true rfl) (s_c8  ?_)
    refine mr_if_eq (pc' := 29) rfl rfl (fun c => ?_) (fun c => ?_)
    · replace h := h.1 (bo_0 c)
      refine mr_const (pc' := 36) rfl rfl (by unfold mj_r; decide) ?_
      exact mr_iret rfl rfl trivial h
    · replace h := h.2 (bo_1 c)
      refine mr_iload (pc' := 30) rfl rfl rfl ?_
      refine mr_const (pc' := 32) rfl rfl (by unfold mj_r; decide) ?_
      refine mr_ic_gt (pc' := 35) rfl rfl (fun c => ?_) (fun c => ?_)
      · replace h := h.1 c
        refine mr_aload (pc' := 38) rfl rfl rfl ?_
        refine mr_getr (ci := 0) (pc' := 41) rfl rfl rfl rfl ?_
        refine mr_iload (pc' := 42) rfl rfl rfl ?_
        refine mr_const (pc' := 43) rfl rfl (by unfold mj_r; decide) ?_
        refine mr_call (t := [(2, 0)]) (pc' := 46) rfl [.inr (.inl 2), .inl x1, .inl 2] rfl rfl rfl (mj_recvV rfl) (Nat.le_of_ble_eq_true rfl) (mj_B_mono _ _ _ _ _ _ (fun r σ5 h => ?_) h)
        obtain ⟨v6, rfl, h⟩ := h
        refine mr_istore (pc' := 47) rfl rfl trivial (Nat.le_of_ble_eq_true rfl) rfl ?_
        refine mr_aload (pc' := 48) rfl rfl rfl ?_
        refine mr_getr (ci := 0) (pc' := 51) rfl rfl rfl rfl ?_
        refine mr_iload (pc' := 52) rfl rfl rfl ?_
        refine mr_call (t := [(2, 0)]) (pc' := 55) rfl [.inr (.inl 2), .inl v6] rfl rfl rfl (mj_recvV rfl) (Nat.le_of_ble_eq_true rfl) (mj_B_mono _ _ _ _ _ _ (fun r σ7 h => ?_) h)
        obtain ⟨v8, rfl, h⟩ := h
        refine mr_istore (pc' := 57) rfl rfl trivial (Nat.le_of_ble_eq_true rfl) rfl ?_
        refine mr_iload (pc' := 59) rfl rfl rfl ?_
        refine mr_if_lt (pc' := 62) rfl rfl (fun c => ?_) (fun c => ?_)
        · replace h := h.1 c
          refine mr_const (pc' := 80) rfl rfl (by unfold mj_r; decide) ?_
          exact mr_iret rfl rfl trivial h
        · replace h := h.2 c
          refine mr_iload (pc' := 64) rfl rfl rfl ?_
          refine mr_const (pc' := 65) rfl rfl (by unfold mj_r; decide) ?_
          refine mr_ic_gt (pc' := 68) rfl rfl (fun c => ?_) (fun c => ?_)
          · replace h := h.1 c
            refine mr_const (pc' := 80) rfl rfl (by unfold mj_r; decide) ?_
            exact mr_iret rfl rfl trivial h
          · replace h := h.2 c
            refine mr_aload (pc' := 69) rfl rfl rfl ?_
            refine mr_iload (pc' := 70) rfl rfl rfl ?_
            refine mr_iload (pc' := 72) rfl rfl rfl ?_
            refine mr_const (pc' := 73) rfl rfl (by unfold mj_r; decide) ?_
            refine mr_call (t := [(5, 0)]) (pc' := 76) rfl [.inr (.inl 5), .inl v6, .inl v8, .inl 0] rfl rfl rfl (mj_recvV rfl) (Nat.le_of_ble_eq_true rfl) (mj_B_mono _ _ _ _ _ _ (fun r σ9 h => ?_) h)
            obtain ⟨v10, rfl, h⟩ := h
            refine mr_if_ne (pc' := 79) rfl rfl (fun c => ?_) (fun c => ?_)
            · replace h := h.1 c
              refine mr_aload (pc' := 82) rfl rfl rfl ?_
              refine mr_const (pc' := 83) rfl rfl (by unfold mj_r; decide) ?_
              refine mr_put (pc' := 86) rfl rfl rfl rfl (fun σ11 e9 => ?_)
              replace h := h σ11 e9
              refine mr_const (pc' := 87) rfl rfl (by unfold mj_r; decide) ?_
              refine mr_istore (pc' := 89) rfl rfl trivial (Nat.le_of_ble_eq_true rfl) rfl ?_
              exact mj_W_ls (mj_B_mono _) (mj_lev_of _ _ (by simp [mj_levb])) h
            · replace h := h.2 c
              refine mr_const (pc' := 80) rfl rfl (by unfold mj_r; decide) ?_
              exact mr_iret rfl rfl trivial h
      · replace h := h.2 c
        refine mr_const (pc' := 36) rfl rfl (by unfold mj_r; decide) ?_
        exact mr_iret rfl rfl trivial h
def qh_c64_6 (d : Nat) (Q : mj_Q) (y1 y2 y3 y4 y5 : Int) (σ : mj_S) : Prop := mj_P mjc_L mjc_Ms d mjco64 ((Option.some Jvm.ClassFile.FieldType.boolean)) Q 6 [some (.inr (.inl 5)), some (.inl y1), some (.inl y2), some (.inl y3), some (.inl y4), some (.inl y5), none, none, none] [] σ
def qh_c64_44 (d : Nat) (Q : mj_Q) (y1 y2 y3 y4 y5 y6 y7 y8 : Int) (σ : mj_S) : Prop := mj_P mjc_L mjc_Ms d mjco64 ((Option.some Jvm.ClassFile.FieldType.boolean)) Q 44 [some (.inr (.inl 5)), some (.inl y1), some (.inl y2), some (.inl y3), some (.inl y4), some (.inl y5), some (.inl y6), some (.inl y7), some (.inl y8)] [] σ
set_option maxRecDepth 20000 in
theorem qw_c64_6 {d : Nat} {Q : mj_Q} {y1 y2 y3 y4 y5 : Int} {σ : mj_S} (h : (y2 ≤ y5 → Q (some (.inl 1)) σ) ∧ (y5 < y2 → z_dr y4 ∧ z_dr (z_cd (σ 11) y4) ∧ (z_va (z_ni σ (z_cd (σ 11) y4) y3) → qh_c64_44 (d + 2) Q y1 y2 y3 y4 y5 (z_ni σ (z_cd (σ 11) y4) y3) y1 0 σ) ∧ (¬ (z_va (z_ni σ (z_cd (σ 11) y4) y3)) → Q (some (.inl 0)) σ))) : qh_c64_6 (d + 2) Q y1 y2 y3 y4 y5 σ := by
  show mj_P mjc_L mjc_Ms (d + 2) mjco64 ((Option.some Jvm.ClassFile.FieldType.boolean)) Q 6 [some (.inr (.inl 5)), some (.inl y1), some (.inl y2), some (.inl y3), some (.inl y4), some (.inl y5), none, none, none] [] σ
  refine mr_iload (pc' := 8) rfl rfl rfl ?_
  refine mr_iload (pc' := 9) rfl rfl rfl ?_
  refine mr_ic_ge (pc' := 12) rfl rfl (fun c => ?_) (fun c => ?_)
  · replace h := h.1 c
    refine mr_const (pc' := 107) rfl rfl (by unfold mj_r; decide) ?_
    exact mr_iret rfl rfl (by simp [mj_fit]) h
  · replace h := h.2 c
    refine mr_aload (pc' := 13) rfl rfl rfl ?_
    refine mr_aload (pc' := 14) rfl rfl rfl ?_
    refine mr_getr (ci := 0) (pc' := 17) rfl rfl rfl rfl ?_
    refine mr_iload (pc' := 19) rfl rfl rfl ?_
    obtain ⟨h0, h⟩ := h
    refine mr_call (t := [(2, 0)]) (pc' := 22) rfl [.inr (.inl 2), .inl y4] rfl rfl rfl (mj_recvV rfl) (Nat.le_of_ble_eq_true rfl) (s_c20 h0 ?_)
    refine mr_iload (pc' := 23) rfl rfl rfl ?_
    obtain ⟨h0, h⟩ := h
    refine mr_call (t := [(5, 0)]) (pc' := 26) rfl [.inr (.inl 5), .inl (z_cd (σ 11) y4), .inl y3] rfl rfl rfl (mj_recvV rfl) (Nat.le_of_ble_eq_true rfl) (s_c65 h0 ?_)
    refine mr_istore (pc' := 28) rfl rfl trivial (Nat.le_of_ble_eq_true rfl) rfl ?_
    refine mr_iload (pc' := 30) rfl rfl rfl ?_
    refine mr_call (t := []) (pc' := 33) rfl [.inl (z_ni σ (z_cd (σ 11) y4) y3)] rfl rfl rfl trivial (Nat.le_of_ble_eq_true rfl) (s_c66  ?_)
    refine mr_if_ne (pc' := 36) rfl rfl (fun c => ?_) (fun c => ?_)
    · replace h := h.1 (bo_1 c)
      refine mr_iload (pc' := 39) rfl rfl rfl ?_
      refine mr_istore (pc' := 41) rfl rfl trivial (Nat.le_of_ble_eq_true rfl) rfl ?_
      refine mr_const (pc' := 42) rfl rfl (by unfold mj_r; decide) ?_
      refine mr_istore (pc' := 44) rfl rfl trivial (Nat.le_of_ble_eq_true rfl) rfl ?_
      exact mj_W_ls (mj_B_mono _) (mj_lev_of _ _ (by simp [mj_levb])) h
    · replace h := h.2 (bo_0 c)
      refine mr_const (pc' := 37) rfl rfl (by unfold mj_r; decide) ?_
      exact mr_iret rfl rfl (by simp [mj_fit]) h
set_option maxRecDepth 20000 in
theorem qw_c64_44 {d : Nat} {Q : mj_Q} {y1 y2 y3 y4 y5 y6 y7 y8 : Int} {σ : mj_S} (h : (y5 ≤ y8 → z_dr y4 ∧ mj_r (y5 + 1) ∧ qh_c64_6 (d + 2) Q y1 y2 y3 (z_cd (σ 12) y4) (y5 + 1) σ) ∧ (y8 < y5 → z_dr y7 ∧ z_dr (z_cd (σ 11) y7) ∧ (¬ (z_ni σ (z_cd (σ 11) y7) y3) = y6 → z_dr y7 ∧ mj_r (y8 + 1) ∧ qh_c64_44 (d + 2) Q y1 y2 y3 y4 y5 y6 (z_cd (σ 12) y7) (y8 + 1) σ) ∧ ((z_ni σ (z_cd (σ 11) y7) y3) = y6 → Q (some (.inl 0)) σ))) : qh_c64_44 (d + 2) Q y1 y2 y3 y4 y5 y6 y7 y8 σ := by
  show mj_P mjc_L mjc_Ms (d + 2) mjco64 ((Option.some Jvm.ClassFile.FieldType.boolean)) Q 44 [some (.inr (.inl 5)), some (.inl y1), some (.inl y2), some (.inl y3), some (.inl y4), some (.inl y5), some (.inl y6), some (.inl y7), some (.inl y8)] [] σ
  refine mr_iload (pc' := 46) rfl rfl rfl ?_
  refine mr_iload (pc' := 48) rfl rfl rfl ?_
  refine mr_ic_ge (pc' := 51) rfl rfl (fun c => ?_) (fun c => ?_)
  · replace h := h.1 c
    refine mr_aload (pc' := 90) rfl rfl rfl ?_
    refine mr_getr (ci := 0) (pc' := 93) rfl rfl rfl rfl ?_
    refine mr_iload (pc' := 95) rfl rfl rfl ?_
    obtain ⟨h0, h⟩ := h
    refine mr_call (t := [(2, 0)]) (pc' := 98) rfl [.inr (.inl 2), .inl y4] rfl rfl rfl (mj_recvV rfl) (Nat.le_of_ble_eq_true rfl) (s_c21 h0 ?_)
    refine mr_istore (pc' := 100) rfl rfl trivial (Nat.le_of_ble_eq_true rfl) rfl ?_
    obtain ⟨h0, h⟩ := h
    refine mr_iinc (pc' := 103) rfl rfl rfl trivial h0 rfl ?_
    refine mr_goto rfl ?_
    exact mj_W_ls (mj_B_mono _) (mj_lev_of _ _ (by simp [mj_levb])) h
  · replace h := h.2 c
    refine mr_aload (pc' := 52) rfl rfl rfl ?_
    refine mr_aload (pc' := 53) rfl rfl rfl ?_
    refine mr_getr (ci := 0) (pc' := 56) rfl rfl rfl rfl ?_
    refine mr_iload (pc' := 58) rfl rfl rfl ?_
    obtain ⟨h0, h⟩ := h
    refine mr_call (t := [(2, 0)]) (pc' := 61) rfl [.inr (.inl 2), .inl y7] rfl rfl rfl (mj_recvV rfl) (Nat.le_of_ble_eq_true rfl) (s_c20 h0 ?_)
    refine mr_iload (pc' := 62) rfl rfl rfl ?_
    obtain ⟨h0, h⟩ := h
    refine mr_call (t := [(5, 0)]) (pc' := 65) rfl [.inr (.inl 5), .inl (z_cd (σ 11) y7), .inl y3] rfl rfl rfl (mj_recvV rfl) (Nat.le_of_ble_eq_true rfl) (s_c65 h0 ?_)
    refine mr_iload (pc' := 67) rfl rfl rfl ?_
    refine mr_ic_ne (pc' := 70) rfl rfl (fun c => ?_) (fun c => ?_)
    · replace h := h.1 c
      refine mr_aload (pc' := 73) rfl rfl rfl ?_
      refine mr_getr (ci := 0) (pc' := 76) rfl rfl rfl rfl ?_
      refine mr_iload (pc' := 78) rfl rfl rfl ?_
      obtain ⟨h0, h⟩ := h
      refine mr_call (t := [(2, 0)]) (pc' := 81) rfl [.inr (.inl 2), .inl y7] rfl rfl rfl (mj_recvV rfl) (Nat.le_of_ble_eq_true rfl) (s_c21 h0 ?_)
      refine mr_istore (pc' := 83) rfl rfl trivial (Nat.le_of_ble_eq_true rfl) rfl ?_
      obtain ⟨h0, h⟩ := h
      refine mr_iinc (pc' := 86) rfl rfl rfl trivial h0 rfl ?_
      refine mr_goto rfl ?_
      exact mj_W_ls (mj_B_mono _) (mj_lev_of _ _ (by simp [mj_levb])) h
    · replace h := h.2 c
      refine mr_const (pc' := 71) rfl rfl (by unfold mj_r; decide) ?_
      exact mr_iret rfl rfl (by simp [mj_fit]) h
set_option maxRecDepth 20000 in
/-- ListSpeaker$Maker.areVariables_ -/
theorem wq_c64 {d : Nat} {σ : mj_S} {Q : mj_Q} {x1 x2 x3 : Int} (h : qh_c64_6 (d + 2) Q x1 x2 x3 x1 0 σ) : mj_B mjc_L mjc_Ms (d + 3) 64 [.inr (.inl 5), .inl x1, .inl x2, .inl x3] σ Q := by
  refine mj_B_of (M := mjcM64) (ls := [some (.inr (.inl 5)), some (.inl x1), some (.inl x2), some (.inl x3), none, none, none, none, none]) rfl (mj_c1_all rfl) (Nat.le_of_ble_eq_true rfl) rfl ?_
  refine mr_iload (pc' := 1) rfl rfl rfl ?_
  refine mr_istore (pc' := 3) rfl rfl trivial (Nat.le_of_ble_eq_true rfl) rfl ?_
  refine mr_const (pc' := 4) rfl rfl (by unfold mj_r; decide) ?_
  refine mr_istore (pc' := 6) rfl rfl trivial (Nat.le_of_ble_eq_true rfl) rfl ?_
  exact mj_W_ls (mj_B_mono _) (mj_lev_of _ _ (by simp [mj_levb])) h
set_option maxRecDepth 20000 in
/-- ListSpeaker$Maker.form_ -/
theorem wq_c68 {d : Nat} {σ : mj_S} {Q : mj_Q} {x1 x2 x3 x4 : Int} (h : (x4 ≤ 12 → 0 ≤ σ 4 3 ∧ ∀ σ1, σ1 = z_put σ 1 0 0 → (0 ≤ x1 ∧ x1 ≤ 268435455 → 0 ≤ σ1 4 3 ∧ ∀ σ2, σ2 = z_put σ1 2 x1 0 → Q (some (.inl 0)) σ2) ∧ (¬ (0 ≤ x1 ∧ x1 ≤ 268435455) → (x1 = 268435456 → 0 ≤ σ1 4 3 ∧ ∀ σ3, σ3 = z_put σ1 2 x1 0 → Q (some (.inl 0)) σ3) ∧ (¬ x1 = 268435456 → (¬ x1 = 268435457 → (¬ (268435456 ≤ x1 ∧ x1 < 536870912) → mj_B mjc_L mjc_Ms (d + 2) 23 [.inr (.inl 2), .inl x1] σ1 (fun r σ4 => ∃ v5, r = some (.inl v5) ∧ (v5 < 1 → Q (some (.inl 1)) σ4) ∧ (1 ≤ v5 → z_dr x1 ∧ (268435456 ≤ (z_cd (σ4 11) x1) ∧ (z_cd (σ4 11) x1) < 536870912 → mj_r (v5 - 1) ∧ mj_r (x4 + 1) ∧ mj_B mjc_L mjc_Ms (d + 2) 70 [.inr (.inl 5), .inl x1, .inl (v5 - 1), .inl x2, .inl x3, .inl (x4 + 1)] σ4 (fun r σ6 => ∃ v7, r = some (.inl v7) ∧ Q (some (.inl v7)) σ6)) ∧ (¬ (268435456 ≤ (z_cd (σ4 11) x1) ∧ (z_cd (σ4 11) x1) < 536870912) → Q (some (.inl 1)) σ4)))) ∧ (268435456 ≤ x1 ∧ x1 < 536870912 → mj_B mjc_L mjc_Ms (d + 2) 69 [.inr (.inl 5), .inl x1] σ1 (fun r σ8 => ∃ v9, r = some (.inl v9) ∧ Q (some (.inl v9)) σ8))) ∧ (x1 = 268435457 → 0 ≤ σ1 4 3 ∧ ∀ σ10, σ10 = z_put σ1 2 x1 0 → Q (some (.inl 0)) σ10)))) ∧ (12 < x4 → Q (some (.inl 1)) σ)) : mj_B mjc_L mjc_Ms (d + 3) 68 [.inr (.inl 5), .inl x1, .inl x2, .inl x3, .inl x4] σ Q := by
  refine mj_B_of (M := mjcM68) (ls := [some (.inr (.inl 5)), some (.inl x1), some (.inl x2), some (.inl x3), some (.inl x4), none]) rfl (mj_c1_all rfl) (Nat.le_of_ble_eq_true rfl) rfl ?_
  refine mr_iload (pc' := 2) rfl rfl rfl ?_
  refine mr_const (pc' := 4) rfl rfl (by unfold mj_r; decide) ?_
  refine mr_ic_le (pc' := 7) rfl rfl (fun c => ?_) (fun c => ?_)
  · replace h := h.1 c
    refine mr_aload (pc' := 10) rfl rfl rfl ?_
    refine mr_getr (ci := 0) (pc' := 13) rfl rfl rfl rfl ?_
    refine mr_const (pc' := 14) rfl rfl (by unfold mj_r; decide) ?_
    refine mr_const (pc' := 15) rfl rfl (by unfold mj_r; decide) ?_
    obtain ⟨h0, h⟩ := h
    refine mr_call (t := [(4, 0)]) (pc' := 18) rfl [.inr (.inl 4), .inl 1, .inl 0] rfl rfl rfl (mj_recvV rfl) (Nat.le_of_ble_eq_true rfl) (s_c59 h0 (fun σ1 e9 => ?_))
    replace h := h σ1 e9
    refine mr_pop (pc' := 19) rfl rfl trivial ?_
    refine mr_iload (pc' := 20) rfl rfl rfl ?_
    refine mr_call (t := []) (pc' := 23) rfl [.inl x1] rfl rfl rfl trivial (Nat.le_of_ble_eq_true rfl) (s_c7  ?_)
    refine mr_if_ne (pc' := 26) rfl rfl (fun c => ?_) (fun c => ?_)
    · replace h := h.1 (bo_1 c)
      refine mr_aload (pc' := 39) rfl rfl rfl ?_
      refine mr_getr (ci := 0) (pc' := 42) rfl rfl rfl rfl ?_
      refine mr_const (pc' := 43) rfl rfl (by unfold mj_r; decide) ?_
      refine mr_iload (pc' := 44) rfl rfl rfl ?_
      obtain ⟨h0, h⟩ := h
      refine mr_call (t := [(4, 0)]) (pc' := 47) rfl [.inr (.inl 4), .inl 2, .inl x1] rfl rfl rfl (mj_recvV rfl) (Nat.le_of_ble_eq_true rfl) (s_c59 h0 (fun σ2 e9 => ?_))
      replace h := h σ2 e9
      refine mr_pop (pc' := 48) rfl rfl trivial ?_
      refine mr_const (pc' := 49) rfl rfl (by unfold mj_r; decide) ?_
      exact mr_iret rfl rfl trivial h
    · replace h := h.2 (bo_0 c)
      refine mr_iload (pc' := 27) rfl rfl rfl ?_
      refine mr_const (pc' := 29) rfl rfl (by unfold mj_r; decide) ?_
      refine mr_ic_eq (pc' := 32) rfl rfl (fun c => ?_) (fun c => ?_)
      · replace h := h.1 c
        refine mr_aload (pc' := 39) rfl rfl rfl ?_
        refine mr_getr (ci := 0) (pc' := 42) rfl rfl rfl rfl ?_
        refine mr_const (pc' := 43) rfl rfl (by unfold mj_r; decide) ?_
        refine mr_iload (pc' := 44) rfl rfl rfl ?_
        obtain ⟨h0, h⟩ := h
        refine mr_call (t := [(4, 0)]) (pc' := 47) rfl [.inr (.inl 4), .inl 2, .inl x1] rfl rfl rfl (mj_recvV rfl) (Nat.le_of_ble_eq_true rfl) (s_c59 h0 (fun σ3 e9 => ?_))
        replace h := h σ3 e9
        refine mr_pop (pc' := 48) rfl rfl trivial ?_
        refine mr_const (pc' := 49) rfl rfl (by unfold mj_r; decide) ?_
        exact mr_iret rfl rfl trivial h
      · replace h := h.2 c
        refine mr_iload (pc' := 33) rfl rfl rfl ?_
        refine mr_const (pc' := 35) rfl rfl (by unfold mj_r; decide) ?_
        refine mr_ic_ne (pc' := 38) rfl rfl (fun c => ?_) (fun c => ?_)
        · replace h := h.1 c
          refine mr_iload (pc' := 51) rfl rfl rfl ?_
          refine mr_call (t := []) (pc' := 54) rfl [.inl x1] rfl rfl rfl trivial (Nat.le_of_ble_eq_true rfl) (s_c8  ?_)
          refine mr_if_eq (pc' := 57) rfl rfl (fun c => ?_) (fun c => ?_)
          · replace h := h.1 (bo_0 c)
            refine mr_aload (pc' := 64) rfl rfl rfl ?_
            refine mr_getr (ci := 0) (pc' := 67) rfl rfl rfl rfl ?_
            refine mr_iload (pc' := 68) rfl rfl rfl ?_
            refine mr_call (t := [(2, 0)]) (pc' := 71) rfl [.inr (.inl 2), .inl x1] rfl rfl rfl (mj_recvV rfl) (Nat.le_of_ble_eq_true rfl) (mj_B_mono _ _ _ _ _ _ (fun r σ4 h => ?_) h)
            obtain ⟨v5, rfl, h⟩ := h
            refine mr_istore (pc' := 73) rfl rfl trivial (Nat.le_of_ble_eq_true rfl) rfl ?_
            refine mr_iload (pc' := 75) rfl rfl rfl ?_
            refine mr_const (pc' := 76) rfl rfl (by unfold mj_r; decide) ?_
            refine mr_ic_lt (pc' := 79) rfl rfl (fun c => ?_) (fun c => ?_)
            · replace h := h.1 c
              refine mr_const (pc' := 94) rfl rfl (by unfold mj_r; decide) ?_
              exact mr_iret rfl rfl trivial h
            · replace h := h.2 c
              refine mr_aload (pc' := 80) rfl rfl rfl ?_
              refine mr_getr (ci := 0) (pc' := 83) rfl rfl rfl rfl ?_
              refine mr_iload (pc' := 84) rfl rfl rfl ?_
              obtain ⟨h0, h⟩ := h
              refine mr_call (t := [(2, 0)]) (pc' := 87) rfl [.inr (.inl 2), .inl x1] rfl rfl rfl (mj_recvV rfl) (Nat.le_of_ble_eq_true rfl) (s_c20 h0 ?_)
              refine mr_call (t := []) (pc' := 90) rfl [.inl (z_cd (σ4 11) x1)] rfl rfl rfl trivial (Nat.le_of_ble_eq_true rfl) (s_c8  ?_)
              refine mr_if_ne (pc' := 93) rfl rfl (fun c => ?_) (fun c => ?_)
              · replace h := h.1 (bo_1 c)
                refine mr_aload (pc' := 96) rfl rfl rfl ?_
                refine mr_iload (pc' := 97) rfl rfl rfl ?_
                refine mr_iload (pc' := 99) rfl rfl rfl ?_
                refine mr_const (pc' := 100) rfl rfl (by unfold mj_r; decide) ?_
                obtain ⟨h0, h⟩ := h
                refine mr_isub (pc' := 101) rfl rfl h0 ?_
                refine mr_iload (pc' := 102) rfl rfl rfl ?_
                refine mr_iload (pc' := 103) rfl rfl rfl ?_
                refine mr_iload (pc' := 105) rfl rfl rfl ?_
                refine mr_const (pc' := 106) rfl rfl (by unfold mj_r; decide) ?_
                obtain ⟨h0, h⟩ := h
                refine mr_iadd (pc' := 107) rfl rfl h0 ?_
                refine mr_call (t := [(5, 0)]) (pc' := 110) rfl [.inr (.inl 5), .inl x1, .inl (v5 - 1), .inl x2, .inl x3, .inl (x4 + 1)] rfl rfl rfl (mj_recvV rfl) (Nat.le_of_ble_eq_true rfl) (mj_B_mono _ _ _ _ _ _ (fun r σ6 h => ?_) h)
                obtain ⟨v7, rfl, h⟩ := h
                exact mr_iret rfl rfl trivial h
              · replace h := h.2 (bo_0 c)
                refine mr_const (pc' := 94) rfl rfl (by unfold mj_r; decide) ?_
                exact mr_iret rfl rfl trivial h
          · replace h := h.2 (bo_1 c)
            refine mr_aload (pc' := 58) rfl rfl rfl ?_
            refine mr_iload (pc' := 59) rfl rfl rfl ?_
            refine mr_call (t := [(5, 0)]) (pc' := 62) rfl [.inr (.inl 5), .inl x1] rfl rfl rfl (mj_recvV rfl) (Nat.le_of_ble_eq_true rfl) (mj_B_mono _ _ _ _ _ _ (fun r σ8 h => ?_) h)
            obtain ⟨v9, rfl, h⟩ := h
            exact mr_iret rfl rfl trivial h
        · replace h := h.2 c
          refine mr_aload (pc' := 39) rfl rfl rfl ?_
          refine mr_getr (ci := 0) (pc' := 42) rfl rfl rfl rfl ?_
          refine mr_const (pc' := 43) rfl rfl (by unfold mj_r; decide) ?_
          refine mr_iload (pc' := 44) rfl rfl rfl ?_
          obtain ⟨h0, h⟩ := h
          refine mr_call (t := [(4, 0)]) (pc' := 47) rfl [.inr (.inl 4), .inl 2, .inl x1] rfl rfl rfl (mj_recvV rfl) (Nat.le_of_ble_eq_true rfl) (s_c59 h0 (fun σ10 e9 => ?_))
          replace h := h σ10 e9
          refine mr_pop (pc' := 48) rfl rfl trivial ?_
          refine mr_const (pc' := 49) rfl rfl (by unfold mj_r; decide) ?_
          exact mr_iret rfl rfl trivial h
  · replace h := h.2 c
    refine mr_const (pc' := 8) rfl rfl (by unfold mj_r; decide) ?_
    exact mr_iret rfl rfl trivial h
def qh_c69_7 (d : Nat) (Q : mj_Q) (y1 y2 : Int) (σ : mj_S) : Prop := mj_P mjc_L mjc_Ms d mjco69 ((Option.some Jvm.ClassFile.FieldType.int)) Q 7 [some (.inr (.inl 5)), some (.inl y1), some (.inl y2)] [] σ
set_option maxRecDepth 20000 in
theorem qw_c69_7 {d : Nat} {Q : mj_Q} {y1 y2 : Int} {σ : mj_S} (h : (y2 < 0 → Q (some (.inl 2)) σ) ∧ (0 ≤ y2 → (400 ≤ y2 → Q (some (.inl 2)) σ) ∧ (y2 < 400 → 0 ≤ y2 ∧ y2 < 400 ∧ (¬ (σ 22 y2.toNat) = y1 → mj_r (y2 + (-1)) ∧ qh_c69_7 (d + 2) Q y1 (y2 + (-1)) σ) ∧ ((σ 22 y2.toNat) = y1 → 0 ≤ y2 ∧ y2 < 400 ∧ 0 ≤ σ 4 3 ∧ ∀ σ1, σ1 = z_put σ 3 (σ 23 y2.toNat) 0 → Q (some (.inl 0)) σ1)))) : qh_c69_7 (d + 2) Q y1 y2 σ := by
  show mj_P mjc_L mjc_Ms (d + 2) mjco69 ((Option.some Jvm.ClassFile.FieldType.int)) Q 7 [some (.inr (.inl 5)), some (.inl y1), some (.inl y2)] [] σ
  refine mr_iload (pc' := 8) rfl rfl rfl ?_
  refine mr_if_lt (pc' := 11) rfl rfl (fun c => ?_) (fun c => ?_)
  · replace h := h.1 c
    refine mr_const (pc' := 52) rfl rfl (by unfold mj_r; decide) ?_
    exact mr_iret rfl rfl trivial h
  · replace h := h.2 c
    refine mr_iload (pc' := 12) rfl rfl rfl ?_
    refine mr_const (pc' := 15) rfl rfl (by unfold mj_r; decide) ?_
    refine mr_ic_ge (pc' := 18) rfl rfl (fun c => ?_) (fun c => ?_)
    · replace h := h.1 c
      refine mr_const (pc' := 52) rfl rfl (by unfold mj_r; decide) ?_
      exact mr_iret rfl rfl trivial h
    · replace h := h.2 c
      refine mr_aload (pc' := 19) rfl rfl rfl ?_
      refine mr_getr (ci := 0) (pc' := 22) rfl rfl rfl rfl ?_
      refine mr_iload (pc' := 23) rfl rfl rfl ?_
      obtain ⟨h0, h1, h⟩ := h
      refine mr_iald (pc' := 24) rfl rfl rfl h0 h1 ?_
      refine mr_iload (pc' := 25) rfl rfl rfl ?_
      refine mr_ic_ne (pc' := 28) rfl rfl (fun c => ?_) (fun c => ?_)
      · replace h := h.1 c
        obtain ⟨h0, h⟩ := h
        refine mr_iinc (pc' := 48) rfl rfl rfl trivial h0 rfl ?_
        refine mr_goto rfl ?_
        exact mj_W_ls (mj_B_mono _) (mj_lev_of _ _ (by simp [mj_levb])) h
      · replace h := h.2 c
        refine mr_aload (pc' := 29) rfl rfl rfl ?_
        refine mr_getr (ci := 0) (pc' := 32) rfl rfl rfl rfl ?_
        refine mr_const (pc' := 33) rfl rfl (by unfold mj_r; decide) ?_
        refine mr_aload (pc' := 34) rfl rfl rfl ?_
        refine mr_getr (ci := 0) (pc' := 37) rfl rfl rfl rfl ?_
        refine mr_iload (pc' := 38) rfl rfl rfl ?_
        obtain ⟨h0, h1, h⟩ := h
        refine mr_iald (pc' := 39) rfl rfl rfl h0 h1 ?_
        obtain ⟨h0, h⟩ := h
        refine mr_call (t := [(4, 0)]) (pc' := 42) rfl [.inr (.inl 4), .inl 3, .inl (σ 23 y2.toNat)] rfl rfl rfl (mj_recvV rfl) (Nat.le_of_ble_eq_true rfl) (s_c59 h0 (fun σ1 e9 => ?_))
        replace h := h σ1 e9
        refine mr_pop (pc' := 43) rfl rfl trivial ?_
        refine mr_const (pc' := 44) rfl rfl (by unfold mj_r; decide) ?_
        exact mr_iret rfl rfl trivial h
set_option maxRecDepth 20000 in
/-- ListSpeaker$Maker.variable_ -/
theorem wq_c69 {d : Nat} {σ : mj_S} {Q : mj_Q} {x1 : Int} (h : mj_r ((σ 5 4) - 1) ∧ qh_c69_7 (d + 2) Q x1 ((σ 5 4) - 1) σ) : mj_B mjc_L mjc_Ms (d + 3) 69 [.inr (.inl 5), .inl x1] σ Q := by
  refine mj_B_of (M := mjcM69) (ls := [some (.inr (.inl 5)), some (.inl x1), none]) rfl (mj_c1_all rfl) (Nat.le_of_ble_eq_true rfl) rfl ?_
  refine mr_aload (pc' := 1) rfl rfl rfl ?_
  refine mr_get (ci := 0) (pc' := 4) rfl rfl rfl rfl ?_
  refine mr_const (pc' := 5) rfl rfl (by unfold mj_r; decide) ?_
  obtain ⟨h0, h⟩ := h
  refine mr_isub (pc' := 6) rfl rfl h0 ?_
  refine mr_istore (pc' := 7) rfl rfl trivial (Nat.le_of_ble_eq_true rfl) rfl ?_
  exact mj_W_ls (mj_B_mono _) (mj_lev_of _ _ (by simp [mj_levb])) h
set_option maxRecDepth 20000 in
/-- ListSpeaker$Maker.list_ -/
theorem wq_c70 {d : Nat} {σ : mj_S} {Q : mj_Q} {x1 x2 x3 x4 x5 : Int} (h : z_dr x1 ∧ z_dr x1 ∧ ((z_cd (σ 11) x1) = 268435458 → mj_B mjc_L mjc_Ms (d + 1) 74 [.inr (.inl 5), .inl (z_cd (σ 12) x1), .inl x2] σ (fun r σ1 => ∃ v2, r = some (.inl v2) ∧ Q (some (.inl v2)) σ1)) ∧ ((z_cd (σ 11) x1) = 268435459 → (¬ x2 = 3 → Q (some (.inl 1)) σ) ∧ (x2 = 3 → mj_B mjc_L mjc_Ms (d + 1) 76 [.inr (.inl 5), .inl (z_cd (σ 12) x1), .inl x3, .inl x4, .inl x5] σ (fun r σ3 => ∃ v4, r = some (.inl v4) ∧ Q (some (.inl v4)) σ3))) ∧ ((z_cd (σ 11) x1) = 268435460 → (¬ x2 = 2 → Q (some (.inl 1)) σ) ∧ (x2 = 2 → mj_B mjc_L mjc_Ms (d + 1) 77 [.inr (.inl 5), .inl (z_cd (σ 12) x1), .inl x3, .inl x4, .inl x5] σ (fun r σ5 => ∃ v6, r = some (.inl v6) ∧ Q (some (.inl v6)) σ5))) ∧ ((z_cd (σ 11) x1) = 268435461 → mj_B mjc_L mjc_Ms (d + 1) 78 [.inr (.inl 5), .inl (z_cd (σ 12) x1), .inl x2] σ (fun r σ7 => ∃ v8, r = some (.inl v8) ∧ (v8 = 0 → Q (some (.inl 1)) σ7) ∧ (¬ v8 = 0 → mj_B mjc_L mjc_Ms (d + 1) 79 [.inr (.inl 5), .inl (z_cd (σ 12) x1), .inl x2, .inl x3, .inl x4, .inl x5] σ7 (fun r σ9 => ∃ v10, r = some (.inl v10) ∧ Q (some (.inl v10)) σ9)))) ∧ ((z_cd (σ 11) x1) = 268435462 → mj_B mjc_L mjc_Ms (d + 1) 80 [.inr (.inl 5), .inl (z_cd (σ 11) x1), .inl (z_cd (σ 12) x1), .inl x2, .inl x3, .inl x4, .inl x5] σ (fun r σ11 => ∃ v12, r = some (.inl v12) ∧ Q (some (.inl v12)) σ11)) ∧ ((z_cd (σ 11) x1) = 268435463 → mj_B mjc_L mjc_Ms (d + 1) 80 [.inr (.inl 5), .inl (z_cd (σ 11) x1), .inl (z_cd (σ 12) x1), .inl x2, .inl x3, .inl x4, .inl x5] σ (fun r σ13 => ∃ v14, r = some (.inl v14) ∧ Q (some (.inl v14)) σ13)) ∧ ((z_cd (σ 11) x1) = 268435464 → (¬ (268435466 ≤ (z_cd (σ 11) x1) ∧ (z_cd (σ 11) x1) ≤ 268435476) → mj_B mjc_L mjc_Ms (d + 1) 73 [.inr (.inl 5), .inl (z_cd (σ 12) x1), .inl x2, .inl x3, .inl x5] σ (fun r σ15 => ∃ v16, r = some (.inl v16) ∧ mj_B mjc_L mjc_Ms (d + 1) 75 [.inr (.inl 5), .inl (z_cd (σ 11) x1), .inl x2, .inl x4] σ15 (fun r σ17 => r = none ∧ Q (some (.inl v16)) σ17))) ∧ (268435466 ≤ (z_cd (σ 11) x1) ∧ (z_cd (σ 11) x1) ≤ 268435476 → (x2 = (z_ar (z_cd (σ 11) x1)) → mj_B mjc_L mjc_Ms (d + 1) 73 [.inr (.inl 5), .inl (z_cd (σ 12) x1), .inl x2, .inl x3, .inl x5] σ (fun r σ18 => ∃ v19, r = some (.inl v19) ∧ mj_B mjc_L mjc_Ms (d + 1) 75 [.inr (.inl 5), .inl (z_cd (σ 11) x1), .inl x2, .inl x4] σ18 (fun r σ20 => r = none ∧ Q (some (.inl v19)) σ20))) ∧ (¬ x2 = (z_ar (z_cd (σ 11) x1)) → Q (some (.inl 4)) σ))) ∧ ((z_cd (σ 11) x1) = 268435465 → Q (some (.inl 1)) σ) ∧ (¬ (268435458 ≤ (z_cd (σ 11) x1) ∧ (z_cd (σ 11) x1) ≤ 268435465) → (¬ (268435466 ≤ (z_cd (σ 11) x1) ∧ (z_cd (σ 11) x1) ≤ 268435476) → mj_B mjc_L mjc_Ms (d + 1) 73 [.inr (.inl 5), .inl (z_cd (σ 12) x1), .inl x2, .inl x3, .inl x5] σ (fun r σ21 => ∃ v22, r = some (.inl v22) ∧ mj_B mjc_L mjc_Ms (d + 1) 75 [.inr (.inl 5), .inl (z_cd (σ 11) x1), .inl x2, .inl x4] σ21 (fun r σ23 => r = none ∧ Q (some (.inl v22)) σ23))) ∧ (268435466 ≤ (z_cd (σ 11) x1) ∧ (z_cd (σ 11) x1) ≤ 268435476 → (x2 = (z_ar (z_cd (σ 11) x1)) → mj_B mjc_L mjc_Ms (d + 1) 73 [.inr (.inl 5), .inl (z_cd (σ 12) x1), .inl x2, .inl x3, .inl x5] σ (fun r σ24 => ∃ v25, r = some (.inl v25) ∧ mj_B mjc_L mjc_Ms (d + 1) 75 [.inr (.inl 5), .inl (z_cd (σ 11) x1), .inl x2, .inl x4] σ24 (fun r σ26 => r = none ∧ Q (some (.inl v25)) σ26))) ∧ (¬ x2 = (z_ar (z_cd (σ 11) x1)) → Q (some (.inl 4)) σ)))) : mj_B mjc_L mjc_Ms (d + 2) 70 [.inr (.inl 5), .inl x1, .inl x2, .inl x3, .inl x4, .inl x5] σ Q := by
  refine mj_B_of (M := mjcM70) (ls := [some (.inr (.inl 5)), some (.inl x1), some (.inl x2), some (.inl x3), some (.inl x4), some (.inl x5), none, none, none]) rfl (mj_c1_all rfl) (Nat.le_of_ble_eq_true rfl) rfl ?_
  refine mr_aload (pc' := 1) rfl rfl rfl ?_
  refine mr_getr (ci := 0) (pc' := 4) rfl rfl rfl rfl ?_
  refine mr_iload (pc' := 5) rfl rfl rfl ?_
  obtain ⟨h0, h⟩ := h
  refine mr_call (t := [(2, 0)]) (pc' := 8) rfl [.inr (.inl 2), .inl x1] rfl rfl rfl (mj_recvV rfl) (Nat.le_of_ble_eq_true rfl) (s_c20 h0 ?_)
  refine mr_istore (pc' := 10) rfl rfl trivial (Nat.le_of_ble_eq_true rfl) rfl ?_
  refine mr_aload (pc' := 11) rfl rfl rfl ?_
  refine mr_getr (ci := 0) (pc' := 14) rfl rfl rfl rfl ?_
  refine mr_iload (pc' := 15) rfl rfl rfl ?_
  obtain ⟨h0, h⟩ := h
  refine mr_call (t := [(2, 0)]) (pc' := 18) rfl [.inr (.inl 2), .inl x1] rfl rfl rfl (mj_recvV rfl) (Nat.le_of_ble_eq_true rfl) (s_c21 h0 ?_)
  refine mr_istore (pc' := 20) rfl rfl trivial (Nat.le_of_ble_eq_true rfl) rfl ?_
  refine mr_iload (pc' := 22) rfl rfl rfl ?_
  refine mr_tsw rfl ?_
  obtain ⟨g0, g1, g2, g3, g4, g5, g6, g7, g8⟩ := h
  by_cases c0 : (z_cd (σ 11) x1) = 268435458
  · have h := g0 c0
    rw [show mj_sw 268435458 [(268435458, 68), (268435459, 76), (268435460, 97), (268435461, 118), (268435462, 145), (268435463, 145), (268435464, 162), (268435465, 160)] 162 (z_cd (σ 11) x1) = 68 by rw [c0] <;> rfl]
    refine mr_aload (pc' := 69) rfl rfl rfl ?_
    refine mr_iload (pc' := 71) rfl rfl rfl ?_
    refine mr_iload (pc' := 72) rfl rfl rfl ?_
    refine mr_call (t := [(5, 0)]) (pc' := 75) rfl [.inr (.inl 5), .inl (z_cd (σ 12) x1), .inl x2] rfl rfl rfl (mj_recvV rfl) (Nat.le_of_ble_eq_true rfl) (mj_B_mono _ _ _ _ _ _ (fun r σ1 h => ?_) h)
    obtain ⟨v2, rfl, h⟩ := h
    exact mr_iret rfl rfl trivial h
  by_cases c1 : (z_cd (σ 11) x1) = 268435459
  · have h := g1 c1
    rw [show mj_sw 268435458 [(268435458, 68), (268435459, 76), (268435460, 97), (268435461, 118), (268435462, 145), (268435463, 145), (268435464, 162), (268435465, 160)] 162 (z_cd (σ 11) x1) = 76 by rw [c1] <;> rfl]
    refine mr_iload (pc' := 77) rfl rfl rfl ?_
    refine mr_const (pc' := 78) rfl rfl (by unfold mj_r; decide) ?_
    refine mr_ic_ne (pc' := 81) rfl rfl (fun c => ?_) (fun c => ?_)
    · replace h := h.1 c
      refine mr_const (pc' := 96) rfl rfl (by unfold mj_r; decide) ?_
      exact mr_iret rfl rfl trivial h
    · replace h := h.2 c
      refine mr_aload (pc' := 82) rfl rfl rfl ?_
      refine mr_iload (pc' := 84) rfl rfl rfl ?_
      refine mr_iload (pc' := 85) rfl rfl rfl ?_
      refine mr_iload (pc' := 87) rfl rfl rfl ?_
      refine mr_iload (pc' := 89) rfl rfl rfl ?_
      refine mr_call (t := [(5, 0)]) (pc' := 92) rfl [.inr (.inl 5), .inl (z_cd (σ 12) x1), .inl x3, .inl x4, .inl x5] rfl rfl rfl (mj_recvV rfl) (Nat.le_of_ble_eq_true rfl) (mj_B_mono _ _ _ _ _ _ (fun r σ3 h => ?_) h)
      obtain ⟨v4, rfl, h⟩ := h
      refine mr_goto rfl ?_
      exact mr_iret rfl rfl trivial h
  by_cases c2 : (z_cd (σ 11) x1) = 268435460
  · have h := g2 c2
    rw [show mj_sw 268435458 [(268435458, 68), (268435459, 76), (268435460, 97), (268435461, 118), (268435462, 145), (268435463, 145), (268435464, 162), (268435465, 160)] 162 (z_cd (σ 11) x1) = 97 by rw [c2] <;> rfl]
    refine mr_iload (pc' := 98) rfl rfl rfl ?_
    refine mr_const (pc' := 99) rfl rfl (by unfold mj_r; decide) ?_
    refine mr_ic_ne (pc' := 102) rfl rfl (fun c => ?_) (fun c => ?_)
    · replace h := h.1 c
      refine mr_const (pc' := 117) rfl rfl (by unfold mj_r; decide) ?_
      exact mr_iret rfl rfl trivial h
    · replace h := h.2 c
      refine mr_aload (pc' := 103) rfl rfl rfl ?_
      refine mr_iload (pc' := 105) rfl rfl rfl ?_
      refine mr_iload (pc' := 106) rfl rfl rfl ?_
      refine mr_iload (pc' := 108) rfl rfl rfl ?_
      refine mr_iload (pc' := 110) rfl rfl rfl ?_
      refine mr_call (t := [(5, 0)]) (pc' := 113) rfl [.inr (.inl 5), .inl (z_cd (σ 12) x1), .inl x3, .inl x4, .inl x5] rfl rfl rfl (mj_recvV rfl) (Nat.le_of_ble_eq_true rfl) (mj_B_mono _ _ _ _ _ _ (fun r σ5 h => ?_) h)
      obtain ⟨v6, rfl, h⟩ := h
      refine mr_goto rfl ?_
      exact mr_iret rfl rfl trivial h
  by_cases c3 : (z_cd (σ 11) x1) = 268435461
  · have h := g3 c3
    rw [show mj_sw 268435458 [(268435458, 68), (268435459, 76), (268435460, 97), (268435461, 118), (268435462, 145), (268435463, 145), (268435464, 162), (268435465, 160)] 162 (z_cd (σ 11) x1) = 118 by rw [c3] <;> rfl]
    refine mr_aload (pc' := 119) rfl rfl rfl ?_
    refine mr_iload (pc' := 121) rfl rfl rfl ?_
    refine mr_iload (pc' := 122) rfl rfl rfl ?_
    refine mr_call (t := [(5, 0)]) (pc' := 125) rfl [.inr (.inl 5), .inl (z_cd (σ 12) x1), .inl x2] rfl rfl rfl (mj_recvV rfl) (Nat.le_of_ble_eq_true rfl) (mj_B_mono _ _ _ _ _ _ (fun r σ7 h => ?_) h)
    obtain ⟨v8, rfl, h⟩ := h
    refine mr_if_eq (pc' := 128) rfl rfl (fun c => ?_) (fun c => ?_)
    · replace h := h.1 c
      refine mr_const (pc' := 144) rfl rfl (by unfold mj_r; decide) ?_
      exact mr_iret rfl rfl trivial h
    · replace h := h.2 c
      refine mr_aload (pc' := 129) rfl rfl rfl ?_
      refine mr_iload (pc' := 131) rfl rfl rfl ?_
      refine mr_iload (pc' := 132) rfl rfl rfl ?_
      refine mr_iload (pc' := 133) rfl rfl rfl ?_
      refine mr_iload (pc' := 135) rfl rfl rfl ?_
      refine mr_iload (pc' := 137) rfl rfl rfl ?_
      refine mr_call (t := [(5, 0)]) (pc' := 140) rfl [.inr (.inl 5), .inl (z_cd (σ 12) x1), .inl x2, .inl x3, .inl x4, .inl x5] rfl rfl rfl (mj_recvV rfl) (Nat.le_of_ble_eq_true rfl) (mj_B_mono _ _ _ _ _ _ (fun r σ9 h => ?_) h)
      obtain ⟨v10, rfl, h⟩ := h
      refine mr_goto rfl ?_
      exact mr_iret rfl rfl trivial h
  by_cases c4 : (z_cd (σ 11) x1) = 268435462
  · have h := g4 c4
    rw [show mj_sw 268435458 [(268435458, 68), (268435459, 76), (268435460, 97), (268435461, 118), (268435462, 145), (268435463, 145), (268435464, 162), (268435465, 160)] 162 (z_cd (σ 11) x1) = 145 by rw [c4] <;> rfl]
    refine mr_aload (pc' := 146) rfl rfl rfl ?_
    refine mr_iload (pc' := 148) rfl rfl rfl ?_
    refine mr_iload (pc' := 150) rfl rfl rfl ?_
    refine mr_iload (pc' := 151) rfl rfl rfl ?_
    refine mr_iload (pc' := 152) rfl rfl rfl ?_
    refine mr_iload (pc' := 154) rfl rfl rfl ?_
    refine mr_iload (pc' := 156) rfl rfl rfl ?_
    refine mr_call (t := [(5, 0)]) (pc' := 159) rfl [.inr (.inl 5), .inl (z_cd (σ 11) x1), .inl (z_cd (σ 12) x1), .inl x2, .inl x3, .inl x4, .inl x5] rfl rfl rfl (mj_recvV rfl) (Nat.le_of_ble_eq_true rfl) (mj_B_mono _ _ _ _ _ _ (fun r σ11 h => ?_) h)
    obtain ⟨v12, rfl, h⟩ := h
    exact mr_iret rfl rfl trivial h
  by_cases c5 : (z_cd (σ 11) x1) = 268435463
  · have h := g5 c5
    rw [show mj_sw 268435458 [(268435458, 68), (268435459, 76), (268435460, 97), (268435461, 118), (268435462, 145), (268435463, 145), (268435464, 162), (268435465, 160)] 162 (z_cd (σ 11) x1) = 145 by rw [c5] <;> rfl]
    refine mr_aload (pc' := 146) rfl rfl rfl ?_
    refine mr_iload (pc' := 148) rfl rfl rfl ?_
    refine mr_iload (pc' := 150) rfl rfl rfl ?_
    refine mr_iload (pc' := 151) rfl rfl rfl ?_
    refine mr_iload (pc' := 152) rfl rfl rfl ?_
    refine mr_iload (pc' := 154) rfl rfl rfl ?_
    refine mr_iload (pc' := 156) rfl rfl rfl ?_
    refine mr_call (t := [(5, 0)]) (pc' := 159) rfl [.inr (.inl 5), .inl (z_cd (σ 11) x1), .inl (z_cd (σ 12) x1), .inl x2, .inl x3, .inl x4, .inl x5] rfl rfl rfl (mj_recvV rfl) (Nat.le_of_ble_eq_true rfl) (mj_B_mono _ _ _ _ _ _ (fun r σ13 h => ?_) h)
    obtain ⟨v14, rfl, h⟩ := h
    exact mr_iret rfl rfl trivial h
  by_cases c6 : (z_cd (σ 11) x1) = 268435464
  · have h := g6 c6
    rw [show mj_sw 268435458 [(268435458, 68), (268435459, 76), (268435460, 97), (268435461, 118), (268435462, 145), (268435463, 145), (268435464, 162), (268435465, 160)] 162 (z_cd (σ 11) x1) = 162 by rw [c6] <;> rfl]
    refine mr_iload (pc' := 164) rfl rfl rfl ?_
    refine mr_call (t := []) (pc' := 167) rfl [.inl (z_cd (σ 11) x1)] rfl rfl rfl trivial (Nat.le_of_ble_eq_true rfl) (s_c71  ?_)
    refine mr_if_eq (pc' := 170) rfl rfl (fun c => ?_) (fun c => ?_)
    · replace h := h.1 (bo_0 c)
      refine mr_aload (pc' := 182) rfl rfl rfl ?_
      refine mr_iload (pc' := 184) rfl rfl rfl ?_
      refine mr_iload (pc' := 185) rfl rfl rfl ?_
      refine mr_iload (pc' := 186) rfl rfl rfl ?_
      refine mr_iload (pc' := 188) rfl rfl rfl ?_
      refine mr_call (t := [(5, 0)]) (pc' := 191) rfl [.inr (.inl 5), .inl (z_cd (σ 12) x1), .inl x2, .inl x3, .inl x5] rfl rfl rfl (mj_recvV rfl) (Nat.le_of_ble_eq_true rfl) (mj_B_mono _ _ _ _ _ _ (fun r σ15 h => ?_) h)
      obtain ⟨v16, rfl, h⟩ := h
      refine mr_istore (pc' := 193) rfl rfl trivial (Nat.le_of_ble_eq_true rfl) rfl ?_
      refine mr_aload (pc' := 194) rfl rfl rfl ?_
      refine mr_iload (pc' := 196) rfl rfl rfl ?_
      refine mr_iload (pc' := 197) rfl rfl rfl ?_
      refine mr_iload (pc' := 199) rfl rfl rfl ?_
      refine mr_call (t := [(5, 0)]) (pc' := 202) rfl [.inr (.inl 5), .inl (z_cd (σ 11) x1), .inl x2, .inl x4] rfl rfl rfl (mj_recvV rfl) (Nat.le_of_ble_eq_true rfl) (mj_B_mono _ _ _ _ _ _ (fun r σ17 h => ?_) h)
      obtain ⟨rfl, h⟩ := h
      refine mr_iload (pc' := 204) rfl rfl rfl ?_
      exact mr_iret rfl rfl trivial h
    · replace h := h.2 (bo_1 c)
      refine mr_iload (pc' := 171) rfl rfl rfl ?_
      refine mr_iload (pc' := 173) rfl rfl rfl ?_
      refine mr_call (t := []) (pc' := 176) rfl [.inl (z_cd (σ 11) x1)] rfl rfl rfl trivial (Nat.le_of_ble_eq_true rfl) (s_c72  ?_)
      refine mr_ic_eq (pc' := 179) rfl rfl (fun c => ?_) (fun c => ?_)
      · replace h := h.1 c
        refine mr_aload (pc' := 182) rfl rfl rfl ?_
        refine mr_iload (pc' := 184) rfl rfl rfl ?_
        refine mr_iload (pc' := 185) rfl rfl rfl ?_
        refine mr_iload (pc' := 186) rfl rfl rfl ?_
        refine mr_iload (pc' := 188) rfl rfl rfl ?_
        refine mr_call (t := [(5, 0)]) (pc' := 191) rfl [.inr (.inl 5), .inl (z_cd (σ 12) x1), .inl x2, .inl x3, .inl x5] rfl rfl rfl (mj_recvV rfl) (Nat.le_of_ble_eq_true rfl) (mj_B_mono _ _ _ _ _ _ (fun r σ18 h => ?_) h)
        obtain ⟨v19, rfl, h⟩ := h
        refine mr_istore (pc' := 193) rfl rfl trivial (Nat.le_of_ble_eq_true rfl) rfl ?_
        refine mr_aload (pc' := 194) rfl rfl rfl ?_
        refine mr_iload (pc' := 196) rfl rfl rfl ?_
        refine mr_iload (pc' := 197) rfl rfl rfl ?_
        refine mr_iload (pc' := 199) rfl rfl rfl ?_
        refine mr_call (t := [(5, 0)]) (pc' := 202) rfl [.inr (.inl 5), .inl (z_cd (σ 11) x1), .inl x2, .inl x4] rfl rfl rfl (mj_recvV rfl) (Nat.le_of_ble_eq_true rfl) (mj_B_mono _ _ _ _ _ _ (fun r σ20 h => ?_) h)
        obtain ⟨rfl, h⟩ := h
        refine mr_iload (pc' := 204) rfl rfl rfl ?_
        exact mr_iret rfl rfl trivial h
      · replace h := h.2 c
        refine mr_const (pc' := 180) rfl rfl (by unfold mj_r; decide) ?_
        exact mr_iret rfl rfl trivial h
  by_cases c7 : (z_cd (σ 11) x1) = 268435465
  · have h := g7 c7
    rw [show mj_sw 268435458 [(268435458, 68), (268435459, 76), (268435460, 97), (268435461, 118), (268435462, 145), (268435463, 145), (268435464, 162), (268435465, 160)] 162 (z_cd (σ 11) x1) = 160 by rw [c7] <;> rfl]
    refine mr_const (pc' := 161) rfl rfl (by unfold mj_r; decide) ?_
    exact mr_iret rfl rfl trivial h
  have h := g8 (by omega)
  rw [show mj_sw 268435458 [(268435458, 68), (268435459, 76), (268435460, 97), (268435461, 118), (268435462, 145), (268435463, 145), (268435464, 162), (268435465, 160)] 162 (z_cd (σ 11) x1) = 162 from if_neg (by simp; omega)]
  refine mr_iload (pc' := 164) rfl rfl rfl ?_
  refine mr_call (t := []) (pc' := 167) rfl [.inl (z_cd (σ 11) x1)] rfl rfl rfl trivial (Nat.le_of_ble_eq_true rfl) (s_c71  ?_)
  refine mr_if_eq (pc' := 170) rfl rfl (fun c => ?_) (fun c => ?_)
  · replace h := h.1 (bo_0 c)
    refine mr_aload (pc' := 182) rfl rfl rfl ?_
    refine mr_iload (pc' := 184) rfl rfl rfl ?_
    refine mr_iload (pc' := 185) rfl rfl rfl ?_
    refine mr_iload (pc' := 186) rfl rfl rfl ?_
    refine mr_iload (pc' := 188) rfl rfl rfl ?_
    refine mr_call (t := [(5, 0)]) (pc' := 191) rfl [.inr (.inl 5), .inl (z_cd (σ 12) x1), .inl x2, .inl x3, .inl x5] rfl rfl rfl (mj_recvV rfl) (Nat.le_of_ble_eq_true rfl) (mj_B_mono _ _ _ _ _ _ (fun r σ21 h => ?_) h)
    obtain ⟨v22, rfl, h⟩ := h
    refine mr_istore (pc' := 193) rfl rfl trivial (Nat.le_of_ble_eq_true rfl) rfl ?_
    refine mr_aload (pc' := 194) rfl rfl rfl ?_
    refine mr_iload (pc' := 196) rfl rfl rfl ?_
    refine mr_iload (pc' := 197) rfl rfl rfl ?_
    refine mr_iload (pc' := 199) rfl rfl rfl ?_
    refine mr_call (t := [(5, 0)]) (pc' := 202) rfl [.inr (.inl 5), .inl (z_cd (σ 11) x1), .inl x2, .inl x4] rfl rfl rfl (mj_recvV rfl) (Nat.le_of_ble_eq_true rfl) (mj_B_mono _ _ _ _ _ _ (fun r σ23 h => ?_) h)
    obtain ⟨rfl, h⟩ := h
    refine mr_iload (pc' := 204) rfl rfl rfl ?_
    exact mr_iret rfl rfl trivial h
  · replace h := h.2 (bo_1 c)
    refine mr_iload (pc' := 171) rfl rfl rfl ?_
    refine mr_iload (pc' := 173) rfl rfl rfl ?_
    refine mr_call (t := []) (pc' := 176) rfl [.inl (z_cd (σ 11) x1)] rfl rfl rfl trivial (Nat.le_of_ble_eq_true rfl) (s_c72  ?_)
    refine mr_ic_eq (pc' := 179) rfl rfl (fun c => ?_) (fun c => ?_)
    · replace h := h.1 c
      refine mr_aload (pc' := 182) rfl rfl rfl ?_
      refine mr_iload (pc' := 184) rfl rfl rfl ?_
      refine mr_iload (pc' := 185) rfl rfl rfl ?_
      refine mr_iload (pc' := 186) rfl rfl rfl ?_
      refine mr_iload (pc' := 188) rfl rfl rfl ?_
      refine mr_call (t := [(5, 0)]) (pc' := 191) rfl [.inr (.inl 5), .inl (z_cd (σ 12) x1), .inl x2, .inl x3, .inl x5] rfl rfl rfl (mj_recvV rfl) (Nat.le_of_ble_eq_true rfl) (mj_B_mono _ _ _ _ _ _ (fun r σ24 h => ?_) h)
      obtain ⟨v25, rfl, h⟩ := h
      refine mr_istore (pc' := 193) rfl rfl trivial (Nat.le_of_ble_eq_true rfl) rfl ?_
      refine mr_aload (pc' := 194) rfl rfl rfl ?_
      refine mr_iload (pc' := 196) rfl rfl rfl ?_
      refine mr_iload (pc' := 197) rfl rfl rfl ?_
      refine mr_iload (pc' := 199) rfl rfl rfl ?_
      refine mr_call (t := [(5, 0)]) (pc' := 202) rfl [.inr (.inl 5), .inl (z_cd (σ 11) x1), .inl x2, .inl x4] rfl rfl rfl (mj_recvV rfl) (Nat.le_of_ble_eq_true rfl) (mj_B_mono _ _ _ _ _ _ (fun r σ26 h => ?_) h)
      obtain ⟨rfl, h⟩ := h
      refine mr_iload (pc' := 204) rfl rfl rfl ?_
      exact mr_iret rfl rfl trivial h
    · replace h := h.2 c
      refine mr_const (pc' := 180) rfl rfl (by unfold mj_r; decide) ?_
      exact mr_iret rfl rfl trivial h
def qh_c73_6 (d : Nat) (Q : mj_Q) (y1 y2 y3 y4 y5 y6 : Int) (σ : mj_S) : Prop := mj_P mjc_L mjc_Ms d mjco73 ((Option.some Jvm.ClassFile.FieldType.int)) Q 6 [some (.inr (.inl 5)), some (.inl y1), some (.inl y2), some (.inl y3), some (.inl y4), some (.inl y5), some (.inl y6), none] [] σ
set_option maxRecDepth 20000 in
theorem qw_c73_6 {d : Nat} {Q : mj_Q} {y1 y2 y3 y4 y5 y6 : Int} {σ : mj_S} (h : (y2 ≤ y6 → Q (some (.inl 0)) σ) ∧ (y6 < y2 → z_dr y5 ∧ mj_r (y3 + y6) ∧ mj_B mjc_L mjc_Ms (d + 1) 68 [.inr (.inl 5), .inl (z_cd (σ 11) y5), .inl (y3 + y6), .inl 0, .inl y4] σ (fun r σ1 => ∃ v2, r = some (.inl v2) ∧ (v2 = 0 → z_dr y5 ∧ mj_r (y6 + 1) ∧ qh_c73_6 (d + 1) Q y1 y2 y3 y4 (z_cd (σ1 12) y5) (y6 + 1) σ1) ∧ (¬ v2 = 0 → Q (some (.inl v2)) σ1)))) : qh_c73_6 (d + 1) Q y1 y2 y3 y4 y5 y6 σ := by
  show mj_P mjc_L mjc_Ms (d + 1) mjco73 ((Option.some Jvm.ClassFile.FieldType.int)) Q 6 [some (.inr (.inl 5)), some (.inl y1), some (.inl y2), some (.inl y3), some (.inl y4), some (.inl y5), some (.inl y6), none] [] σ
  refine mr_iload (pc' := 8) rfl rfl rfl ?_
  refine mr_iload (pc' := 9) rfl rfl rfl ?_
  refine mr_ic_ge (pc' := 12) rfl rfl (fun c => ?_) (fun c => ?_)
  · replace h := h.1 c
    refine mr_const (pc' := 60) rfl rfl (by unfold mj_r; decide) ?_
    exact mr_iret rfl rfl trivial h
  · replace h := h.2 c
    refine mr_aload (pc' := 13) rfl rfl rfl ?_
    refine mr_aload (pc' := 14) rfl rfl rfl ?_
    refine mr_getr (ci := 0) (pc' := 17) rfl rfl rfl rfl ?_
    refine mr_iload (pc' := 19) rfl rfl rfl ?_
    obtain ⟨h0, h⟩ := h
    refine mr_call (t := [(2, 0)]) (pc' := 22) rfl [.inr (.inl 2), .inl y5] rfl rfl rfl (mj_recvV rfl) (Nat.le_of_ble_eq_true rfl) (s_c20 h0 ?_)
    refine mr_iload (pc' := 23) rfl rfl rfl ?_
    refine mr_iload (pc' := 25) rfl rfl rfl ?_
    obtain ⟨h0, h⟩ := h
    refine mr_iadd (pc' := 26) rfl rfl h0 ?_
    refine mr_const (pc' := 27) rfl rfl (by unfold mj_r; decide) ?_
    refine mr_iload (pc' := 29) rfl rfl rfl ?_
    refine mr_call (t := [(5, 0)]) (pc' := 32) rfl [.inr (.inl 5), .inl (z_cd (σ 11) y5), .inl (y3 + y6), .inl 0, .inl y4] rfl rfl rfl (mj_recvV rfl) (Nat.le_of_ble_eq_true rfl) (mj_B_mono _ _ _ _ _ _ (fun r σ1 h => ?_) h)
    obtain ⟨v2, rfl, h⟩ := h
    refine mr_istore (pc' := 34) rfl rfl trivial (Nat.le_of_ble_eq_true rfl) rfl ?_
    refine mr_iload (pc' := 36) rfl rfl rfl ?_
    refine mr_if_eq (pc' := 39) rfl rfl (fun c => ?_) (fun c => ?_)
    · replace h := h.1 c
      refine mr_aload (pc' := 43) rfl rfl rfl ?_
      refine mr_getr (ci := 0) (pc' := 46) rfl rfl rfl rfl ?_
      refine mr_iload (pc' := 48) rfl rfl rfl ?_
      obtain ⟨h0, h⟩ := h
      refine mr_call (t := [(2, 0)]) (pc' := 51) rfl [.inr (.inl 2), .inl y5] rfl rfl rfl (mj_recvV rfl) (Nat.le_of_ble_eq_true rfl) (s_c21 h0 ?_)
      refine mr_istore (pc' := 53) rfl rfl trivial (Nat.le_of_ble_eq_true rfl) rfl ?_
      obtain ⟨h0, h⟩ := h
      refine mr_iinc (pc' := 56) rfl rfl rfl trivial h0 rfl ?_
      refine mr_goto rfl ?_
      exact mj_W_ls (mj_B_mono _) (mj_lev_of _ _ (by simp [mj_levb])) h
    · replace h := h.2 c
      refine mr_iload (pc' := 41) rfl rfl rfl ?_
      exact mr_iret rfl rfl trivial h
set_option maxRecDepth 20000 in
/-- ListSpeaker$Maker.forms_ -/
theorem wq_c73 {d : Nat} {σ : mj_S} {Q : mj_Q} {x1 x2 x3 x4 : Int} (h : qh_c73_6 (d + 1) Q x1 x2 x3 x4 x1 0 σ) : mj_B mjc_L mjc_Ms (d + 2) 73 [.inr (.inl 5), .inl x1, .inl x2, .inl x3, .inl x4] σ Q := by
  refine mj_B_of (M := mjcM73) (ls := [some (.inr (.inl 5)), some (.inl x1), some (.inl x2), some (.inl x3), some (.inl x4), none, none, none]) rfl (mj_c1_all rfl) (Nat.le_of_ble_eq_true rfl) rfl ?_
  refine mr_iload (pc' := 1) rfl rfl rfl ?_
  refine mr_istore (pc' := 3) rfl rfl trivial (Nat.le_of_ble_eq_true rfl) rfl ?_
  refine mr_const (pc' := 4) rfl rfl (by unfold mj_r; decide) ?_
  refine mr_istore (pc' := 6) rfl rfl trivial (Nat.le_of_ble_eq_true rfl) rfl ?_
  exact mj_W_ls (mj_B_mono _) (mj_lev_of _ _ (by simp [mj_levb])) h
set_option maxRecDepth 20000 in
/-- ListSpeaker$Maker.quote_ -/
theorem wq_c74 {d : Nat} {σ : mj_S} {Q : mj_Q} {x1 x2 : Int} (h : (x2 = 1 → z_dr x1 ∧ 0 ≤ σ 4 3 ∧ ∀ σ1, σ1 = z_put σ 2 (z_cd (σ 11) x1) 0 → Q (some (.inl 0)) σ1) ∧ (¬ x2 = 1 → Q (some (.inl 1)) σ)) : mj_B mjc_L mjc_Ms (d + 3) 74 [.inr (.inl 5), .inl x1, .inl x2] σ Q := by
  refine mj_B_of (M := mjcM74) (ls := [some (.inr (.inl 5)), some (.inl x1), some (.inl x2)]) rfl (mj_c1_all rfl) (Nat.le_of_ble_eq_true rfl) rfl ?_
  refine mr_iload (pc' := 1) rfl rfl rfl ?_
  refine mr_const (pc' := 2) rfl rfl (by unfold mj_r; decide) ?_
  refine mr_ic_eq (pc' := 5) rfl rfl (fun c => ?_) (fun c => ?_)
  · replace h := h.1 c
    refine mr_aload (pc' := 8) rfl rfl rfl ?_
    refine mr_getr (ci := 0) (pc' := 11) rfl rfl rfl rfl ?_
    refine mr_const (pc' := 12) rfl rfl (by unfold mj_r; decide) ?_
    refine mr_aload (pc' := 13) rfl rfl rfl ?_
    refine mr_getr (ci := 0) (pc' := 16) rfl rfl rfl rfl ?_
    refine mr_iload (pc' := 17) rfl rfl rfl ?_
    obtain ⟨h0, h⟩ := h
    refine mr_call (t := [(2, 0)]) (pc' := 20) rfl [.inr (.inl 2), .inl x1] rfl rfl rfl (mj_recvV rfl) (Nat.le_of_ble_eq_true rfl) (s_c20 h0 ?_)
    obtain ⟨h0, h⟩ := h
    refine mr_call (t := [(4, 0)]) (pc' := 23) rfl [.inr (.inl 4), .inl 2, .inl (z_cd (σ 11) x1)] rfl rfl rfl (mj_recvV rfl) (Nat.le_of_ble_eq_true rfl) (s_c59 h0 (fun σ1 e9 => ?_))
    replace h := h σ1 e9
    refine mr_pop (pc' := 24) rfl rfl trivial ?_
    refine mr_const (pc' := 25) rfl rfl (by unfold mj_r; decide) ?_
    exact mr_iret rfl rfl trivial h
  · replace h := h.2 c
    refine mr_const (pc' := 6) rfl rfl (by unfold mj_r; decide) ?_
    exact mr_iret rfl rfl trivial h
def qh_c75_40 (d : Nat) (Q : mj_Q) (y1 y2 y3 y4 : Int) (σ : mj_S) : Prop := mj_P mjc_L mjc_Ms d mjco75 ((Option.none : Option Jvm.ClassFile.FieldType)) Q 40 [some (.inr (.inl 5)), some (.inl y1), some (.inl y2), some (.inl y3), some (.inl y4)] [] σ
set_option maxRecDepth 20000 in
theorem qw_c75_40 {d : Nat} {Q : mj_Q} {y1 y2 y3 y4 : Int} {σ : mj_S} (h : (y2 ≤ y4 → Q none σ) ∧ (y4 < y2 → 0 ≤ σ 4 3 ∧ ∀ σ1, σ1 = z_put σ 268435466 0 0 → mj_r (y4 + 1) ∧ qh_c75_40 (d + 2) Q y1 y2 y3 (y4 + 1) σ1)) : qh_c75_40 (d + 2) Q y1 y2 y3 y4 σ := by
  show mj_P mjc_L mjc_Ms (d + 2) mjco75 ((Option.none : Option Jvm.ClassFile.FieldType)) Q 40 [some (.inr (.inl 5)), some (.inl y1), some (.inl y2), some (.inl y3), some (.inl y4)] [] σ
  refine mr_iload (pc' := 42) rfl rfl rfl ?_
  refine mr_iload (pc' := 43) rfl rfl rfl ?_
  refine mr_ic_ge (pc' := 46) rfl rfl (fun c => ?_) (fun c => ?_)
  · replace h := h.1 c
    refine mr_goto rfl ?_
    exact mr_ret rfl rfl h
  · replace h := h.2 c
    refine mr_aload (pc' := 47) rfl rfl rfl ?_
    refine mr_getr (ci := 0) (pc' := 50) rfl rfl rfl rfl ?_
    refine mr_const (pc' := 52) rfl rfl (by unfold mj_r; decide) ?_
    refine mr_const (pc' := 53) rfl rfl (by unfold mj_r; decide) ?_
    obtain ⟨h0, h⟩ := h
    refine mr_call (t := [(4, 0)]) (pc' := 56) rfl [.inr (.inl 4), .inl 268435466, .inl 0] rfl rfl rfl (mj_recvV rfl) (Nat.le_of_ble_eq_true rfl) (s_c59 h0 (fun σ1 e9 => ?_))
    replace h := h σ1 e9
    refine mr_pop (pc' := 57) rfl rfl trivial ?_
    obtain ⟨h0, h⟩ := h
    refine mr_iinc (pc' := 60) rfl rfl rfl trivial h0 rfl ?_
    refine mr_goto rfl ?_
    exact mj_W_ls (mj_B_mono _) (mj_lev_of _ _ (by simp [mj_levb])) h
set_option maxRecDepth 20000 in
/-- ListSpeaker$Maker.putUse_ -/
theorem wq_c75 {d : Nat} {σ : mj_S} {Q : mj_Q} {x1 x2 x3 : Int} (h : (¬ (268435466 ≤ x1 ∧ x1 ≤ 268435476) → (¬ x1 = 268435464 → (x3 = 0 → 0 ≤ σ 4 3 ∧ ∀ σ1, σ1 = z_put σ 9 x1 x2 → Q none σ1) ∧ (¬ x3 = 0 → 0 ≤ σ 4 3 ∧ ∀ σ2, σ2 = z_put σ 10 x1 x2 → Q none σ2)) ∧ (x1 = 268435464 → 0 ≤ σ 4 3 ∧ ∀ σ3, σ3 = z_put σ 2 268435456 0 → qh_c75_40 (d + 2) Q x1 x2 x3 0 σ3)) ∧ (268435466 ≤ x1 ∧ x1 ≤ 268435476 → 0 ≤ σ 4 3 ∧ ∀ σ4, σ4 = z_put σ x1 0 0 → Q none σ4)) : mj_B mjc_L mjc_Ms (d + 3) 75 [.inr (.inl 5), .inl x1, .inl x2, .inl x3] σ Q := by
  refine mj_B_of (M := mjcM75) (ls := [some (.inr (.inl 5)), some (.inl x1), some (.inl x2), some (.inl x3), none]) rfl (mj_c1_all rfl) (Nat.le_of_ble_eq_true rfl) rfl ?_
  refine mr_iload (pc' := 1) rfl rfl rfl ?_
  refine mr_call (t := []) (pc' := 4) rfl [.inl x1] rfl rfl rfl trivial (Nat.le_of_ble_eq_true rfl) (s_c71  ?_)
  refine mr_if_eq (pc' := 7) rfl rfl (fun c => ?_) (fun c => ?_)
  · replace h := h.1 (bo_0 c)
    refine mr_iload (pc' := 21) rfl rfl rfl ?_
    refine mr_const (pc' := 23) rfl rfl (by unfold mj_r; decide) ?_
    refine mr_ic_ne (pc' := 26) rfl rfl (fun c => ?_) (fun c => ?_)
    · replace h := h.1 c
      refine mr_aload (pc' := 67) rfl rfl rfl ?_
      refine mr_getr (ci := 0) (pc' := 70) rfl rfl rfl rfl ?_
      refine mr_iload (pc' := 71) rfl rfl rfl ?_
      refine mr_if_eq (pc' := 74) rfl rfl (fun c => ?_) (fun c => ?_)
      · replace h := h.1 c
        refine mr_const (pc' := 81) rfl rfl (by unfold mj_r; decide) ?_
        refine mr_iload (pc' := 82) rfl rfl rfl ?_
        refine mr_iload (pc' := 83) rfl rfl rfl ?_
        obtain ⟨h0, h⟩ := h
        refine mr_call (t := [(4, 0)]) (pc' := 86) rfl [.inr (.inl 4), .inl 9, .inl x1, .inl x2] rfl rfl rfl (mj_recvV rfl) (Nat.le_of_ble_eq_true rfl) (s_c60 h0 (fun σ1 e9 => ?_))
        replace h := h σ1 e9
        refine mr_pop (pc' := 87) rfl rfl trivial ?_
        exact mr_ret rfl rfl h
      · replace h := h.2 c
        refine mr_const (pc' := 76) rfl rfl (by unfold mj_r; decide) ?_
        refine mr_goto rfl ?_
        refine mr_iload (pc' := 82) rfl rfl rfl ?_
        refine mr_iload (pc' := 83) rfl rfl rfl ?_
        obtain ⟨h0, h⟩ := h
        refine mr_call (t := [(4, 0)]) (pc' := 86) rfl [.inr (.inl 4), .inl 10, .inl x1, .inl x2] rfl rfl rfl (mj_recvV rfl) (Nat.le_of_ble_eq_true rfl) (s_c60 h0 (fun σ2 e9 => ?_))
        replace h := h σ2 e9
        refine mr_pop (pc' := 87) rfl rfl trivial ?_
        exact mr_ret rfl rfl h
    · replace h := h.2 c
      refine mr_aload (pc' := 27) rfl rfl rfl ?_
      refine mr_getr (ci := 0) (pc' := 30) rfl rfl rfl rfl ?_
      refine mr_const (pc' := 31) rfl rfl (by unfold mj_r; decide) ?_
      refine mr_const (pc' := 33) rfl rfl (by unfold mj_r; decide) ?_
      obtain ⟨h0, h⟩ := h
      refine mr_call (t := [(4, 0)]) (pc' := 36) rfl [.inr (.inl 4), .inl 2, .inl 268435456] rfl rfl rfl (mj_recvV rfl) (Nat.le_of_ble_eq_true rfl) (s_c59 h0 (fun σ3 e9 => ?_))
      replace h := h σ3 e9
      refine mr_pop (pc' := 37) rfl rfl trivial ?_
      refine mr_const (pc' := 38) rfl rfl (by unfold mj_r; decide) ?_
      refine mr_istore (pc' := 40) rfl rfl trivial (Nat.le_of_ble_eq_true rfl) rfl ?_
      exact mj_W_ls (mj_B_mono _) (mj_lev_of _ _ (by simp [mj_levb])) h
  · replace h := h.2 (bo_1 c)
    refine mr_aload (pc' := 8) rfl rfl rfl ?_
    refine mr_getr (ci := 0) (pc' := 11) rfl rfl rfl rfl ?_
    refine mr_iload (pc' := 12) rfl rfl rfl ?_
    refine mr_const (pc' := 13) rfl rfl (by unfold mj_r; decide) ?_
    obtain ⟨h0, h⟩ := h
    refine mr_call (t := [(4, 0)]) (pc' := 16) rfl [.inr (.inl 4), .inl x1, .inl 0] rfl rfl rfl (mj_recvV rfl) (Nat.le_of_ble_eq_true rfl) (s_c59 h0 (fun σ4 e9 => ?_))
    replace h := h σ4 e9
    refine mr_pop (pc' := 17) rfl rfl trivial ?_
    refine mr_goto rfl ?_
    exact mr_ret rfl rfl h
set_option maxRecDepth 20000 in
/-- ListSpeaker$Maker.choice_ -/
theorem wq_c76 {d : Nat} {σ : mj_S} {Q : mj_Q} {x1 x2 x3 x4 : Int} (h : z_dr x1 ∧ mj_B mjc_L mjc_Ms (d + 2) 68 [.inr (.inl 5), .inl (z_cd (σ 11) x1), .inl x2, .inl 0, .inl x4] σ (fun r σ1 => ∃ v2, r = some (.inl v2) ∧ (v2 = 0 → 0 ≤ σ1 4 3 ∧ ∀ σ3, σ3 = z_put σ1 5 (-1) 0 → mj_B mjc_L mjc_Ms (d + 2) 22 [.inr (.inl 2), .inl x1, .inl 1] σ3 (fun r σ4 => ∃ v5, r = some (.inl v5) ∧ mj_B mjc_L mjc_Ms (d + 2) 68 [.inr (.inl 5), .inl v5, .inl x2, .inl x3, .inl x4] σ4 (fun r σ6 => ∃ v7, r = some (.inl v7) ∧ (v7 = 0 → 0 ≤ σ6 4 3 ∧ ∀ σ8, σ8 = z_put σ6 4 (-1) 0 → mj_B mjc_L mjc_Ms (d + 2) 61 [.inr (.inl 4), .inl (if σ1 4 3 < 2400 then σ1 4 3 else -1)] σ8 (fun r σ9 => r = none ∧ mj_B mjc_L mjc_Ms (d + 2) 22 [.inr (.inl 2), .inl x1, .inl 2] σ9 (fun r σ10 => ∃ v11, r = some (.inl v11) ∧ mj_B mjc_L mjc_Ms (d + 2) 68 [.inr (.inl 5), .inl v11, .inl x2, .inl x3, .inl x4] σ10 (fun r σ12 => ∃ v13, r = some (.inl v13) ∧ mj_B mjc_L mjc_Ms (d + 2) 61 [.inr (.inl 4), .inl (if σ6 4 3 < 2400 then σ6 4 3 else -1)] σ12 (fun r σ14 => r = none ∧ Q (some (.inl v13)) σ14))))) ∧ (¬ v7 = 0 → Q (some (.inl v7)) σ6)))) ∧ (¬ v2 = 0 → Q (some (.inl v2)) σ1))) : mj_B mjc_L mjc_Ms (d + 3) 76 [.inr (.inl 5), .inl x1, .inl x2, .inl x3, .inl x4] σ Q := by
  refine mj_B_of (M := mjcM76) (ls := [some (.inr (.inl 5)), some (.inl x1), some (.inl x2), some (.inl x3), some (.inl x4), none, none, none]) rfl (mj_c1_all rfl) (Nat.le_of_ble_eq_true rfl) rfl ?_
  refine mr_aload (pc' := 1) rfl rfl rfl ?_
  refine mr_aload (pc' := 2) rfl rfl rfl ?_
  refine mr_getr (ci := 0) (pc' := 5) rfl rfl rfl rfl ?_
  refine mr_iload (pc' := 6) rfl rfl rfl ?_
  obtain ⟨h0, h⟩ := h
  refine mr_call (t := [(2, 0)]) (pc' := 9) rfl [.inr (.inl 2), .inl x1] rfl rfl rfl (mj_recvV rfl) (Nat.le_of_ble_eq_true rfl) (s_c20 h0 ?_)
  refine mr_iload (pc' := 10) rfl rfl rfl ?_
  refine mr_const (pc' := 11) rfl rfl (by unfold mj_r; decide) ?_
  refine mr_iload (pc' := 13) rfl rfl rfl ?_
  refine mr_call (t := [(5, 0)]) (pc' := 16) rfl [.inr (.inl 5), .inl (z_cd (σ 11) x1), .inl x2, .inl 0, .inl x4] rfl rfl rfl (mj_recvV rfl) (Nat.le_of_ble_eq_true rfl) (mj_B_mono _ _ _ _ _ _ (fun r σ1 h => ?_) h)
  obtain ⟨v2, rfl, h⟩ := h
  refine mr_istore (pc' := 18) rfl rfl trivial (Nat.le_of_ble_eq_true rfl) rfl ?_
  refine mr_iload (pc' := 20) rfl rfl rfl ?_
  refine mr_if_eq (pc' := 23) rfl rfl (fun c => ?_) (fun c => ?_)
  · replace h := h.1 c
    refine mr_aload (pc' := 27) rfl rfl rfl ?_
    refine mr_getr (ci := 0) (pc' := 30) rfl rfl rfl rfl ?_
    refine mr_const (pc' := 31) rfl rfl (by unfold mj_r; decide) ?_
    refine mr_const (pc' := 32) rfl rfl (by unfold mj_r; decide) ?_
    obtain ⟨h0, h⟩ := h
    refine mr_call (t := [(4, 0)]) (pc' := 35) rfl [.inr (.inl 4), .inl 5, .inl (-1)] rfl rfl rfl (mj_recvV rfl) (Nat.le_of_ble_eq_true rfl) (s_c59 h0 (fun σ3 e9 => ?_))
    replace h := h σ3 e9
    refine mr_istore (pc' := 37) rfl rfl trivial (Nat.le_of_ble_eq_true rfl) rfl ?_
    refine mr_aload (pc' := 38) rfl rfl rfl ?_
    refine mr_aload (pc' := 39) rfl rfl rfl ?_
    refine mr_getr (ci := 0) (pc' := 42) rfl rfl rfl rfl ?_
    refine mr_iload (pc' := 43) rfl rfl rfl ?_
    refine mr_const (pc' := 44) rfl rfl (by unfold mj_r; decide) ?_
    refine mr_call (t := [(2, 0)]) (pc' := 47) rfl [.inr (.inl 2), .inl x1, .inl 1] rfl rfl rfl (mj_recvV rfl) (Nat.le_of_ble_eq_true rfl) (mj_B_mono _ _ _ _ _ _ (fun r σ4 h => ?_) h)
    obtain ⟨v5, rfl, h⟩ := h
    refine mr_iload (pc' := 48) rfl rfl rfl ?_
    refine mr_iload (pc' := 49) rfl rfl rfl ?_
    refine mr_iload (pc' := 51) rfl rfl rfl ?_
    refine mr_call (t := [(5, 0)]) (pc' := 54) rfl [.inr (.inl 5), .inl v5, .inl x2, .inl x3, .inl x4] rfl rfl rfl (mj_recvV rfl) (Nat.le_of_ble_eq_true rfl) (mj_B_mono _ _ _ _ _ _ (fun r σ6 h => ?_) h)
    obtain ⟨v7, rfl, h⟩ := h
    refine mr_istore (pc' := 56) rfl rfl trivial (Nat.le_of_ble_eq_true rfl) rfl ?_
    refine mr_iload (pc' := 58) rfl rfl rfl ?_
    refine mr_if_eq (pc' := 61) rfl rfl (fun c => ?_) (fun c => ?_)
    · replace h := h.1 c
      refine mr_aload (pc' := 65) rfl rfl rfl ?_
      refine mr_getr (ci := 0) (pc' := 68) rfl rfl rfl rfl ?_
      refine mr_const (pc' := 69) rfl rfl (by unfold mj_r; decide) ?_
      refine mr_const (pc' := 70) rfl rfl (by unfold mj_r; decide) ?_
      obtain ⟨h0, h⟩ := h
      refine mr_call (t := [(4, 0)]) (pc' := 73) rfl [.inr (.inl 4), .inl 4, .inl (-1)] rfl rfl rfl (mj_recvV rfl) (Nat.le_of_ble_eq_true rfl) (s_c59 h0 (fun σ8 e9 => ?_))
      replace h := h σ8 e9
      refine mr_istore (pc' := 75) rfl rfl trivial (Nat.le_of_ble_eq_true rfl) rfl ?_
      refine mr_aload (pc' := 76) rfl rfl rfl ?_
      refine mr_getr (ci := 0) (pc' := 79) rfl rfl rfl rfl ?_
      refine mr_iload (pc' := 81) rfl rfl rfl ?_
      refine mr_call (t := [(4, 0)]) (pc' := 84) rfl [.inr (.inl 4), .inl (if σ1 4 3 < 2400 then σ1 4 3 else -1)] rfl rfl rfl (mj_recvV rfl) (Nat.le_of_ble_eq_true rfl) (mj_B_mono _ _ _ _ _ _ (fun r σ9 h => ?_) h)
      obtain ⟨rfl, h⟩ := h
      refine mr_aload (pc' := 85) rfl rfl rfl ?_
      refine mr_aload (pc' := 86) rfl rfl rfl ?_
      refine mr_getr (ci := 0) (pc' := 89) rfl rfl rfl rfl ?_
      refine mr_iload (pc' := 90) rfl rfl rfl ?_
      refine mr_const (pc' := 91) rfl rfl (by unfold mj_r; decide) ?_
      refine mr_call (t := [(2, 0)]) (pc' := 94) rfl [.inr (.inl 2), .inl x1, .inl 2] rfl rfl rfl (mj_recvV rfl) (Nat.le_of_ble_eq_true rfl) (mj_B_mono _ _ _ _ _ _ (fun r σ10 h => ?_) h)
      obtain ⟨v11, rfl, h⟩ := h
      refine mr_iload (pc' := 95) rfl rfl rfl ?_
      refine mr_iload (pc' := 96) rfl rfl rfl ?_
      refine mr_iload (pc' := 98) rfl rfl rfl ?_
      refine mr_call (t := [(5, 0)]) (pc' := 101) rfl [.inr (.inl 5), .inl v11, .inl x2, .inl x3, .inl x4] rfl rfl rfl (mj_recvV rfl) (Nat.le_of_ble_eq_true rfl) (mj_B_mono _ _ _ _ _ _ (fun r σ12 h => ?_) h)
      obtain ⟨v13, rfl, h⟩ := h
      refine mr_istore (pc' := 103) rfl rfl trivial (Nat.le_of_ble_eq_true rfl) rfl ?_
      refine mr_aload (pc' := 104) rfl rfl rfl ?_
      refine mr_getr (ci := 0) (pc' := 107) rfl rfl rfl rfl ?_
      refine mr_iload (pc' := 109) rfl rfl rfl ?_
      refine mr_call (t := [(4, 0)]) (pc' := 112) rfl [.inr (.inl 4), .inl (if σ6 4 3 < 2400 then σ6 4 3 else -1)] rfl rfl rfl (mj_recvV rfl) (Nat.le_of_ble_eq_true rfl) (mj_B_mono _ _ _ _ _ _ (fun r σ14 h => ?_) h)
      obtain ⟨rfl, h⟩ := h
      refine mr_iload (pc' := 114) rfl rfl rfl ?_
      exact mr_iret rfl rfl trivial h
    · replace h := h.2 c
      refine mr_iload (pc' := 63) rfl rfl rfl ?_
      exact mr_iret rfl rfl trivial h
  · replace h := h.2 c
    refine mr_iload (pc' := 25) rfl rfl rfl ?_
    exact mr_iret rfl rfl trivial h
def qh_c77_54 (d : Nat) (Q : mj_Q) (y1 y2 y3 y4 y5 y6 y7 : Int) (σ : mj_S) : Prop := mj_P mjc_L mjc_Ms d mjco77 ((Option.some Jvm.ClassFile.FieldType.int)) Q 54 [some (.inr (.inl 5)), some (.inl y1), some (.inl y2), some (.inl y3), some (.inl y4), some (.inl y5), some (.inl y6), some (.inl y7), none] [] σ
def qh_c77_116 (d : Nat) (Q : mj_Q) (y1 y2 y3 y4 y5 y6 y7 y8 : Int) (σ : mj_S) : Prop := mj_P mjc_L mjc_Ms d mjco77 ((Option.some Jvm.ClassFile.FieldType.int)) Q 116 [some (.inr (.inl 5)), some (.inl y1), some (.inl y2), some (.inl y3), some (.inl y4), some (.inl y5), some (.inl y6), some (.inl y7), some (.inl y8)] [] σ
set_option maxRecDepth 20000 in
theorem qw_c77_54 {d : Nat} {Q : mj_Q} {y1 y2 y3 y4 y5 y6 y7 : Int} {σ : mj_S} (h : (y6 ≤ y7 → qh_c77_116 (d + 2) Q y1 y2 y3 y4 y5 y6 (σ 5 4) 0 σ) ∧ (y7 < y6 → mj_B mjc_L mjc_Ms (d + 2) 22 [.inr (.inl 2), .inl y5, .inl y7] σ (fun r σ1 => ∃ v2, r = some (.inl v2) ∧ mj_B mjc_L mjc_Ms (d + 2) 22 [.inr (.inl 2), .inl v2, .inl 1] σ1 (fun r σ3 => ∃ v4, r = some (.inl v4) ∧ mj_r (y2 + y7) ∧ mj_B mjc_L mjc_Ms (d + 2) 68 [.inr (.inl 5), .inl v4, .inl (y2 + y7), .inl 0, .inl y4] σ3 (fun r σ5 => ∃ v6, r = some (.inl v6) ∧ (v6 = 0 → mj_r (y7 + 1) ∧ qh_c77_54 (d + 2) Q y1 y2 y3 y4 y5 y6 (y7 + 1) σ5) ∧ (¬ v6 = 0 → Q (some (.inl v6)) σ5)))))) : qh_c77_54 (d + 2) Q y1 y2 y3 y4 y5 y6 y7 σ := by
  show mj_P mjc_L mjc_Ms (d + 2) mjco77 ((Option.some Jvm.ClassFile.FieldType.int)) Q 54 [some (.inr (.inl 5)), some (.inl y1), some (.inl y2), some (.inl y3), some (.inl y4), some (.inl y5), some (.inl y6), some (.inl y7), none] [] σ
  refine mr_iload (pc' := 56) rfl rfl rfl ?_
  refine mr_iload (pc' := 58) rfl rfl rfl ?_
  refine mr_ic_ge (pc' := 61) rfl rfl (fun c => ?_) (fun c => ?_)
  · replace h := h.1 c
    refine mr_aload (pc' := 108) rfl rfl rfl ?_
    refine mr_get (ci := 0) (pc' := 111) rfl rfl rfl rfl ?_
    refine mr_istore (pc' := 113) rfl rfl trivial (Nat.le_of_ble_eq_true rfl) rfl ?_
    refine mr_const (pc' := 114) rfl rfl (by unfold mj_r; decide) ?_
    refine mr_istore (pc' := 116) rfl rfl trivial (Nat.le_of_ble_eq_true rfl) rfl ?_
    exact mj_W_ls (mj_B_mono _) (mj_lev_of _ _ (by simp [mj_levb])) h
  · replace h := h.2 c
    refine mr_aload (pc' := 62) rfl rfl rfl ?_
    refine mr_aload (pc' := 63) rfl rfl rfl ?_
    refine mr_getr (ci := 0) (pc' := 66) rfl rfl rfl rfl ?_
    refine mr_aload (pc' := 67) rfl rfl rfl ?_
    refine mr_getr (ci := 0) (pc' := 70) rfl rfl rfl rfl ?_
    refine mr_iload (pc' := 72) rfl rfl rfl ?_
    refine mr_iload (pc' := 74) rfl rfl rfl ?_
    refine mr_call (t := [(2, 0)]) (pc' := 77) rfl [.inr (.inl 2), .inl y5, .inl y7] rfl rfl rfl (mj_recvV rfl) (Nat.le_of_ble_eq_true rfl) (mj_B_mono _ _ _ _ _ _ (fun r σ1 h => ?_) h)
    obtain ⟨v2, rfl, h⟩ := h
    refine mr_const (pc' := 78) rfl rfl (by unfold mj_r; decide) ?_
    refine mr_call (t := [(2, 0)]) (pc' := 81) rfl [.inr (.inl 2), .inl v2, .inl 1] rfl rfl rfl (mj_recvV rfl) (Nat.le_of_ble_eq_true rfl) (mj_B_mono _ _ _ _ _ _ (fun r σ3 h => ?_) h)
    obtain ⟨v4, rfl, h⟩ := h
    refine mr_iload (pc' := 82) rfl rfl rfl ?_
    refine mr_iload (pc' := 84) rfl rfl rfl ?_
    obtain ⟨h0, h⟩ := h
    refine mr_iadd (pc' := 85) rfl rfl h0 ?_
    refine mr_const (pc' := 86) rfl rfl (by unfold mj_r; decide) ?_
    refine mr_iload (pc' := 88) rfl rfl rfl ?_
    refine mr_call (t := [(5, 0)]) (pc' := 91) rfl [.inr (.inl 5), .inl v4, .inl (y2 + y7), .inl 0, .inl y4] rfl rfl rfl (mj_recvV rfl) (Nat.le_of_ble_eq_true rfl) (mj_B_mono _ _ _ _ _ _ (fun r σ5 h => ?_) h)
    obtain ⟨v6, rfl, h⟩ := h
    refine mr_istore (pc' := 93) rfl rfl trivial (Nat.le_of_ble_eq_true rfl) rfl ?_
    refine mr_iload (pc' := 95) rfl rfl rfl ?_
    refine mr_if_eq (pc' := 98) rfl rfl (fun c => ?_) (fun c => ?_)
    · replace h := h.1 c
      obtain ⟨h0, h⟩ := h
      refine mr_iinc (pc' := 104) rfl rfl rfl trivial h0 rfl ?_
      refine mr_goto rfl ?_
      exact mj_W_ls (mj_B_mono _) (mj_lev_of _ _ (by simp [mj_levb])) h
    · replace h := h.2 c
      refine mr_iload (pc' := 100) rfl rfl rfl ?_
      exact mr_iret rfl rfl trivial h
set_option maxRecDepth 20000 in
theorem qw_c77_116 {d : Nat} {Q : mj_Q} {y1 y2 y3 y4 y5 y6 y7 y8 : Int} {σ : mj_S} (h : (y6 ≤ y8 → mj_B mjc_L mjc_Ms (d + 2) 22 [.inr (.inl 2), .inl y1, .inl 1] σ (fun r σ1 => ∃ v2, r = some (.inl v2) ∧ mj_r (y2 + y6) ∧ mj_B mjc_L mjc_Ms (d + 2) 68 [.inr (.inl 5), .inl v2, .inl (y2 + y6), .inl y3, .inl y4] σ1 (fun r σ3 => ∃ v4, r = some (.inl v4) ∧ ∀ σ5, σ5 = mj_up σ3 5 4 y7 → 0 ≤ σ5 4 3 ∧ ∀ σ6, σ6 = z_put σ5 8 y6 0 → Q (some (.inl v4)) σ6))) ∧ (y8 < y6 → mj_B mjc_L mjc_Ms (d + 2) 22 [.inr (.inl 2), .inl y5, .inl y8] σ (fun r σ7 => ∃ v8, r = some (.inl v8) ∧ z_dr v8 ∧ mj_r (y2 + y8) ∧ 0 ≤ σ7 5 4 ∧ ∀ σ9, σ9 = z_kn σ7 (z_cd (σ7 11) v8) (y2 + y8) → mj_r (y8 + 1) ∧ qh_c77_116 (d + 2) Q y1 y2 y3 y4 y5 y6 y7 (y8 + 1) σ9))) : qh_c77_116 (d + 2) Q y1 y2 y3 y4 y5 y6 y7 y8 σ := by
  show mj_P mjc_L mjc_Ms (d + 2) mjco77 ((Option.some Jvm.ClassFile.FieldType.int)) Q 116 [some (.inr (.inl 5)), some (.inl y1), some (.inl y2), some (.inl y3), some (.inl y4), some (.inl y5), some (.inl y6), some (.inl y7), some (.inl y8)] [] σ
  refine mr_iload (pc' := 118) rfl rfl rfl ?_
  refine mr_iload (pc' := 120) rfl rfl rfl ?_
  refine mr_ic_ge (pc' := 123) rfl rfl (fun c => ?_) (fun c => ?_)
  · replace h := h.1 c
    refine mr_aload (pc' := 156) rfl rfl rfl ?_
    refine mr_aload (pc' := 157) rfl rfl rfl ?_
    refine mr_getr (ci := 0) (pc' := 160) rfl rfl rfl rfl ?_
    refine mr_iload (pc' := 161) rfl rfl rfl ?_
    refine mr_const (pc' := 162) rfl rfl (by unfold mj_r; decide) ?_
    refine mr_call (t := [(2, 0)]) (pc' := 165) rfl [.inr (.inl 2), .inl y1, .inl 1] rfl rfl rfl (mj_recvV rfl) (Nat.le_of_ble_eq_true rfl) (mj_B_mono _ _ _ _ _ _ (fun r σ1 h => ?_) h)
    obtain ⟨v2, rfl, h⟩ := h
    refine mr_iload (pc' := 166) rfl rfl rfl ?_
    refine mr_iload (pc' := 168) rfl rfl rfl ?_
    obtain ⟨h0, h⟩ := h
    refine mr_iadd (pc' := 169) rfl rfl h0 ?_
    refine mr_iload (pc' := 170) rfl rfl rfl ?_
    refine mr_iload (pc' := 172) rfl rfl rfl ?_
    refine mr_call (t := [(5, 0)]) (pc' := 175) rfl [.inr (.inl 5), .inl v2, .inl (y2 + y6), .inl y3, .inl y4] rfl rfl rfl (mj_recvV rfl) (Nat.le_of_ble_eq_true rfl) (mj_B_mono _ _ _ _ _ _ (fun r σ3 h => ?_) h)
    obtain ⟨v4, rfl, h⟩ := h
    refine mr_istore (pc' := 177) rfl rfl trivial (Nat.le_of_ble_eq_true rfl) rfl ?_
    refine mr_aload (pc' := 178) rfl rfl rfl ?_
    refine mr_iload (pc' := 180) rfl rfl rfl ?_
    refine mr_put (pc' := 183) rfl rfl rfl rfl (fun σ5 e9 => ?_)
    replace h := h σ5 e9
    refine mr_aload (pc' := 184) rfl rfl rfl ?_
    refine mr_getr (ci := 0) (pc' := 187) rfl rfl rfl rfl ?_
    refine mr_const (pc' := 189) rfl rfl (by unfold mj_r; decide) ?_
    refine mr_iload (pc' := 191) rfl rfl rfl ?_
    obtain ⟨h0, h⟩ := h
    refine mr_call (t := [(4, 0)]) (pc' := 194) rfl [.inr (.inl 4), .inl 8, .inl y6] rfl rfl rfl (mj_recvV rfl) (Nat.le_of_ble_eq_true rfl) (s_c59 h0 (fun σ6 e9 => ?_))
    replace h := h σ6 e9
    refine mr_pop (pc' := 195) rfl rfl trivial ?_
    refine mr_iload (pc' := 197) rfl rfl rfl ?_
    exact mr_iret rfl rfl trivial h
  · replace h := h.2 c
    refine mr_aload (pc' := 124) rfl rfl rfl ?_
    refine mr_aload (pc' := 125) rfl rfl rfl ?_
    refine mr_getr (ci := 0) (pc' := 128) rfl rfl rfl rfl ?_
    refine mr_aload (pc' := 129) rfl rfl rfl ?_
    refine mr_getr (ci := 0) (pc' := 132) rfl rfl rfl rfl ?_
    refine mr_iload (pc' := 134) rfl rfl rfl ?_
    refine mr_iload (pc' := 136) rfl rfl rfl ?_
    refine mr_call (t := [(2, 0)]) (pc' := 139) rfl [.inr (.inl 2), .inl y5, .inl y8] rfl rfl rfl (mj_recvV rfl) (Nat.le_of_ble_eq_true rfl) (mj_B_mono _ _ _ _ _ _ (fun r σ7 h => ?_) h)
    obtain ⟨v8, rfl, h⟩ := h
    obtain ⟨h0, h⟩ := h
    refine mr_call (t := [(2, 0)]) (pc' := 142) rfl [.inr (.inl 2), .inl v8] rfl rfl rfl (mj_recvV rfl) (Nat.le_of_ble_eq_true rfl) (s_c20 h0 ?_)
    refine mr_iload (pc' := 143) rfl rfl rfl ?_
    refine mr_iload (pc' := 145) rfl rfl rfl ?_
    obtain ⟨h0, h⟩ := h
    refine mr_iadd (pc' := 146) rfl rfl h0 ?_
    obtain ⟨h0, h⟩ := h
    refine mr_call (t := [(5, 0)]) (pc' := 149) rfl [.inr (.inl 5), .inl (z_cd (σ7 11) v8), .inl (y2 + y8)] rfl rfl rfl (mj_recvV rfl) (Nat.le_of_ble_eq_true rfl) (s_c67 h0 (fun σ9 e9 => ?_))
    replace h := h σ9 e9
    obtain ⟨h0, h⟩ := h
    refine mr_iinc (pc' := 152) rfl rfl rfl trivial h0 rfl ?_
    refine mr_goto rfl ?_
    exact mj_W_ls (mj_B_mono _) (mj_lev_of _ _ (by simp [mj_levb])) h
set_option maxRecDepth 20000 in
/-- ListSpeaker$Maker.let_ -/
theorem wq_c77 {d : Nat} {σ : mj_S} {Q : mj_Q} {x1 x2 x3 x4 : Int} (h : z_dr x1 ∧ mj_B mjc_L mjc_Ms (d + 2) 23 [.inr (.inl 2), .inl (z_cd (σ 11) x1)] σ (fun r σ1 => ∃ v2, r = some (.inl v2) ∧ (v2 < 0 → Q (some (.inl 1)) σ1) ∧ (0 ≤ v2 → mj_B mjc_L mjc_Ms (d + 2) 78 [.inr (.inl 5), .inl (z_cd (σ 11) x1), .inl v2] σ1 (fun r σ3 => ∃ v4, r = some (.inl v4) ∧ (v4 = 0 → Q (some (.inl 1)) σ3) ∧ (¬ v4 = 0 → mj_B mjc_L mjc_Ms (d + 2) 64 [.inr (.inl 5), .inl (z_cd (σ 11) x1), .inl v2, .inl 1] σ3 (fun r σ5 => ∃ v6, r = some (.inl v6) ∧ (¬ v6 = 0 → qh_c77_54 (d + 2) Q x1 x2 x3 x4 (z_cd (σ 11) x1) v2 0 σ5) ∧ (v6 = 0 → Q (some (.inl 1)) σ5))))))) : mj_B mjc_L mjc_Ms (d + 3) 77 [.inr (.inl 5), .inl x1, .inl x2, .inl x3, .inl x4] σ Q := by
  refine mj_B_of (M := mjcM77) (ls := [some (.inr (.inl 5)), some (.inl x1), some (.inl x2), some (.inl x3), some (.inl x4), none, none, none, none]) rfl (mj_c1_all rfl) (Nat.le_of_ble_eq_true rfl) rfl ?_
  refine mr_aload (pc' := 1) rfl rfl rfl ?_
  refine mr_getr (ci := 0) (pc' := 4) rfl rfl rfl rfl ?_
  refine mr_iload (pc' := 5) rfl rfl rfl ?_
  obtain ⟨h0, h⟩ := h
  refine mr_call (t := [(2, 0)]) (pc' := 8) rfl [.inr (.inl 2), .inl x1] rfl rfl rfl (mj_recvV rfl) (Nat.le_of_ble_eq_true rfl) (s_c20 h0 ?_)
  refine mr_istore (pc' := 10) rfl rfl trivial (Nat.le_of_ble_eq_true rfl) rfl ?_
  refine mr_aload (pc' := 11) rfl rfl rfl ?_
  refine mr_getr (ci := 0) (pc' := 14) rfl rfl rfl rfl ?_
  refine mr_iload (pc' := 16) rfl rfl rfl ?_
  refine mr_call (t := [(2, 0)]) (pc' := 19) rfl [.inr (.inl 2), .inl (z_cd (σ 11) x1)] rfl rfl rfl (mj_recvV rfl) (Nat.le_of_ble_eq_true rfl) (mj_B_mono _ _ _ _ _ _ (fun r σ1 h => ?_) h)
  obtain ⟨v2, rfl, h⟩ := h
  refine mr_istore (pc' := 21) rfl rfl trivial (Nat.le_of_ble_eq_true rfl) rfl ?_
  refine mr_iload (pc' := 23) rfl rfl rfl ?_
  refine mr_if_lt (pc' := 26) rfl rfl (fun c => ?_) (fun c => ?_)
  · replace h := h.1 c
    refine mr_const (pc' := 50) rfl rfl (by unfold mj_r; decide) ?_
    exact mr_iret rfl rfl trivial h
  · replace h := h.2 c
    refine mr_aload (pc' := 27) rfl rfl rfl ?_
    refine mr_iload (pc' := 29) rfl rfl rfl ?_
    refine mr_iload (pc' := 31) rfl rfl rfl ?_
    refine mr_call (t := [(5, 0)]) (pc' := 34) rfl [.inr (.inl 5), .inl (z_cd (σ 11) x1), .inl v2] rfl rfl rfl (mj_recvV rfl) (Nat.le_of_ble_eq_true rfl) (mj_B_mono _ _ _ _ _ _ (fun r σ3 h => ?_) h)
    obtain ⟨v4, rfl, h⟩ := h
    refine mr_if_eq (pc' := 37) rfl rfl (fun c => ?_) (fun c => ?_)
    · replace h := h.1 c
      refine mr_const (pc' := 50) rfl rfl (by unfold mj_r; decide) ?_
      exact mr_iret rfl rfl trivial h
    · replace h := h.2 c
      refine mr_aload (pc' := 38) rfl rfl rfl ?_
      refine mr_iload (pc' := 40) rfl rfl rfl ?_
      refine mr_iload (pc' := 42) rfl rfl rfl ?_
      refine mr_const (pc' := 43) rfl rfl (by unfold mj_r; decide) ?_
      refine mr_call (t := [(5, 0)]) (pc' := 46) rfl [.inr (.inl 5), .inl (z_cd (σ 11) x1), .inl v2, .inl 1] rfl rfl rfl (mj_recvV rfl) (Nat.le_of_ble_eq_true rfl) (mj_B_mono _ _ _ _ _ _ (fun r σ5 h => ?_) h)
      obtain ⟨v6, rfl, h⟩ := h
      refine mr_if_ne (pc' := 49) rfl rfl (fun c => ?_) (fun c => ?_)
      · replace h := h.1 c
        refine mr_const (pc' := 52) rfl rfl (by unfold mj_r; decide) ?_
        refine mr_istore (pc' := 54) rfl rfl trivial (Nat.le_of_ble_eq_true rfl) rfl ?_
        exact mj_W_ls (mj_B_mono _) (mj_lev_of _ _ (by simp [mj_levb])) h
      · replace h := h.2 c
        refine mr_const (pc' := 50) rfl rfl (by unfold mj_r; decide) ?_
        exact mr_iret rfl rfl trivial h
def qh_c78_5 (d : Nat) (Q : mj_Q) (y1 y2 y3 y4 : Int) (σ : mj_S) : Prop := mj_P mjc_L mjc_Ms d mjco78 ((Option.some Jvm.ClassFile.FieldType.boolean)) Q 5 [some (.inr (.inl 5)), some (.inl y1), some (.inl y2), some (.inl y3), some (.inl y4)] [] σ
set_option maxRecDepth 20000 in
theorem qw_c78_5 {d : Nat} {Q : mj_Q} {y1 y2 y3 y4 : Int} {σ : mj_S} (h : (y2 ≤ y4 → Q (some (.inl 1)) σ) ∧ (y4 < y2 → z_dr y3 ∧ mj_B mjc_L mjc_Ms (d + 1) 23 [.inr (.inl 2), .inl (z_cd (σ 11) y3)] σ (fun r σ1 => ∃ v2, r = some (.inl v2) ∧ (v2 = 2 → z_dr y3 ∧ mj_r (y4 + 1) ∧ qh_c78_5 (d + 1) Q y1 y2 (z_cd (σ1 12) y3) (y4 + 1) σ1) ∧ (¬ v2 = 2 → Q (some (.inl 0)) σ1)))) : qh_c78_5 (d + 1) Q y1 y2 y3 y4 σ := by
  show mj_P mjc_L mjc_Ms (d + 1) mjco78 ((Option.some Jvm.ClassFile.FieldType.boolean)) Q 5 [some (.inr (.inl 5)), some (.inl y1), some (.inl y2), some (.inl y3), some (.inl y4)] [] σ
  refine mr_iload (pc' := 7) rfl rfl rfl ?_
  refine mr_iload (pc' := 8) rfl rfl rfl ?_
  refine mr_ic_ge (pc' := 11) rfl rfl (fun c => ?_) (fun c => ?_)
  · replace h := h.1 c
    refine mr_const (pc' := 48) rfl rfl (by unfold mj_r; decide) ?_
    exact mr_iret rfl rfl (by simp [mj_fit]) h
  · replace h := h.2 c
    refine mr_aload (pc' := 12) rfl rfl rfl ?_
    refine mr_getr (ci := 0) (pc' := 15) rfl rfl rfl rfl ?_
    refine mr_aload (pc' := 16) rfl rfl rfl ?_
    refine mr_getr (ci := 0) (pc' := 19) rfl rfl rfl rfl ?_
    refine mr_iload (pc' := 20) rfl rfl rfl ?_
    obtain ⟨h0, h⟩ := h
    refine mr_call (t := [(2, 0)]) (pc' := 23) rfl [.inr (.inl 2), .inl y3] rfl rfl rfl (mj_recvV rfl) (Nat.le_of_ble_eq_true rfl) (s_c20 h0 ?_)
    refine mr_call (t := [(2, 0)]) (pc' := 26) rfl [.inr (.inl 2), .inl (z_cd (σ 11) y3)] rfl rfl rfl (mj_recvV rfl) (Nat.le_of_ble_eq_true rfl) (mj_B_mono _ _ _ _ _ _ (fun r σ1 h => ?_) h)
    obtain ⟨v2, rfl, h⟩ := h
    refine mr_const (pc' := 27) rfl rfl (by unfold mj_r; decide) ?_
    refine mr_ic_eq (pc' := 30) rfl rfl (fun c => ?_) (fun c => ?_)
    · replace h := h.1 c
      refine mr_aload (pc' := 33) rfl rfl rfl ?_
      refine mr_getr (ci := 0) (pc' := 36) rfl rfl rfl rfl ?_
      refine mr_iload (pc' := 37) rfl rfl rfl ?_
      obtain ⟨h0, h⟩ := h
      refine mr_call (t := [(2, 0)]) (pc' := 40) rfl [.inr (.inl 2), .inl y3] rfl rfl rfl (mj_recvV rfl) (Nat.le_of_ble_eq_true rfl) (s_c21 h0 ?_)
      refine mr_istore (pc' := 41) rfl rfl trivial (Nat.le_of_ble_eq_true rfl) rfl ?_
      obtain ⟨h0, h⟩ := h
      refine mr_iinc (pc' := 44) rfl rfl rfl trivial h0 rfl ?_
      refine mr_goto rfl ?_
      exact mj_W_ls (mj_B_mono _) (mj_lev_of _ _ (by simp [mj_levb])) h
    · replace h := h.2 c
      refine mr_const (pc' := 31) rfl rfl (by unfold mj_r; decide) ?_
      exact mr_iret rfl rfl (by simp [mj_fit]) h
set_option maxRecDepth 20000 in
/-- ListSpeaker$Maker.areCouples_ -/
theorem wq_c78 {d : Nat} {σ : mj_S} {Q : mj_Q} {x1 x2 : Int} (h : qh_c78_5 (d + 1) Q x1 x2 x1 0 σ) : mj_B mjc_L mjc_Ms (d + 2) 78 [.inr (.inl 5), .inl x1, .inl x2] σ Q := by
  refine mj_B_of (M := mjcM78) (ls := [some (.inr (.inl 5)), some (.inl x1), some (.inl x2), none, none]) rfl (mj_c1_all rfl) (Nat.le_of_ble_eq_true rfl) rfl ?_
  refine mr_iload (pc' := 1) rfl rfl rfl ?_
  refine mr_istore (pc' := 2) rfl rfl trivial (Nat.le_of_ble_eq_true rfl) rfl ?_
  refine mr_const (pc' := 3) rfl rfl (by unfold mj_r; decide) ?_
  refine mr_istore (pc' := 5) rfl rfl trivial (Nat.le_of_ble_eq_true rfl) rfl ?_
  exact mj_W_ls (mj_B_mono _) (mj_lev_of _ _ (by simp [mj_levb])) h
def qh_c79_9 (d : Nat) (Q : mj_Q) (y1 y2 y3 y4 y5 y6 y7 y8 : Int) (σ : mj_S) : Prop := mj_P mjc_L mjc_Ms d mjco79 ((Option.some Jvm.ClassFile.FieldType.int)) Q 9 [some (.inr (.inl 5)), some (.inl y1), some (.inl y2), some (.inl y3), some (.inl y4), some (.inl y5), some (.inl y6), some (.inl y7), some (.inl y8), none, none, none] [] σ
set_option maxRecDepth 20000 in
theorem qw_c79_9 {d : Nat} {Q : mj_Q} {y1 y2 y3 y4 y5 y6 y7 y8 : Int} {σ : mj_S} (h : (y2 ≤ y8 → 0 ≤ σ 4 3 ∧ ∀ σ1, σ1 = z_put σ 2 268435456 0 → mj_B mjc_L mjc_Ms (d + 2) 61 [.inr (.inl 4), .inl y6] σ1 (fun r σ2 => r = none ∧ Q (some (.inl 0)) σ2)) ∧ (y8 < y2 → z_dr y7 ∧ z_dr (z_cd (σ 11) y7) ∧ mj_B mjc_L mjc_Ms (d + 2) 68 [.inr (.inl 5), .inl (z_cd (σ 11) (z_cd (σ 11) y7)), .inl y3, .inl 0, .inl y5] σ (fun r σ3 => ∃ v4, r = some (.inl v4) ∧ (v4 = 0 → 0 ≤ σ3 4 3 ∧ ∀ σ5, σ5 = z_put σ3 5 (-1) 0 → mj_B mjc_L mjc_Ms (d + 2) 22 [.inr (.inl 2), .inl (z_cd (σ 11) y7), .inl 1] σ5 (fun r σ6 => ∃ v7, r = some (.inl v7) ∧ mj_B mjc_L mjc_Ms (d + 2) 68 [.inr (.inl 5), .inl v7, .inl y3, .inl y4, .inl y5] σ6 (fun r σ8 => ∃ v9, r = some (.inl v9) ∧ (v9 = 0 → 0 ≤ σ8 4 3 ∧ ∀ σ10, σ10 = z_put σ8 4 y6 0 → mj_B mjc_L mjc_Ms (d + 2) 61 [.inr (.inl 4), .inl (if σ3 4 3 < 2400 then σ3 4 3 else -1)] σ10 (fun r σ11 => r = none ∧ z_dr y7 ∧ mj_r (y8 + 1) ∧ qh_c79_9 (d + 2) Q y1 y2 y3 y4 y5 (if σ8 4 3 < 2400 then σ8 4 3 else -1) (z_cd (σ11 12) y7) (y8 + 1) σ11)) ∧ (¬ v9 = 0 → Q (some (.inl v9)) σ8)))) ∧ (¬ v4 = 0 → Q (some (.inl v4)) σ3)))) : qh_c79_9 (d + 2) Q y1 y2 y3 y4 y5 y6 y7 y8 σ := by
  show mj_P mjc_L mjc_Ms (d + 2) mjco79 ((Option.some Jvm.ClassFile.FieldType.int)) Q 9 [some (.inr (.inl 5)), some (.inl y1), some (.inl y2), some (.inl y3), some (.inl y4), some (.inl y5), some (.inl y6), some (.inl y7), some (.inl y8), none, none, none] [] σ
  refine mr_iload (pc' := 11) rfl rfl rfl ?_
  refine mr_iload (pc' := 12) rfl rfl rfl ?_
  refine mr_ic_ge (pc' := 15) rfl rfl (fun c => ?_) (fun c => ?_)
  · replace h := h.1 c
    refine mr_aload (pc' := 132) rfl rfl rfl ?_
    refine mr_getr (ci := 0) (pc' := 135) rfl rfl rfl rfl ?_
    refine mr_const (pc' := 136) rfl rfl (by unfold mj_r; decide) ?_
    refine mr_const (pc' := 138) rfl rfl (by unfold mj_r; decide) ?_
    obtain ⟨h0, h⟩ := h
    refine mr_call (t := [(4, 0)]) (pc' := 141) rfl [.inr (.inl 4), .inl 2, .inl 268435456] rfl rfl rfl (mj_recvV rfl) (Nat.le_of_ble_eq_true rfl) (s_c59 h0 (fun σ1 e9 => ?_))
    replace h := h σ1 e9
    refine mr_pop (pc' := 142) rfl rfl trivial ?_
    refine mr_aload (pc' := 143) rfl rfl rfl ?_
    refine mr_getr (ci := 0) (pc' := 146) rfl rfl rfl rfl ?_
    refine mr_iload (pc' := 148) rfl rfl rfl ?_
    refine mr_call (t := [(4, 0)]) (pc' := 151) rfl [.inr (.inl 4), .inl y6] rfl rfl rfl (mj_recvV rfl) (Nat.le_of_ble_eq_true rfl) (mj_B_mono _ _ _ _ _ _ (fun r σ2 h => ?_) h)
    obtain ⟨rfl, h⟩ := h
    refine mr_const (pc' := 152) rfl rfl (by unfold mj_r; decide) ?_
    exact mr_iret rfl rfl trivial h
  · replace h := h.2 c
    refine mr_aload (pc' := 16) rfl rfl rfl ?_
    refine mr_getr (ci := 0) (pc' := 19) rfl rfl rfl rfl ?_
    refine mr_iload (pc' := 21) rfl rfl rfl ?_
    obtain ⟨h0, h⟩ := h
    refine mr_call (t := [(2, 0)]) (pc' := 24) rfl [.inr (.inl 2), .inl y7] rfl rfl rfl (mj_recvV rfl) (Nat.le_of_ble_eq_true rfl) (s_c20 h0 ?_)
    refine mr_istore (pc' := 26) rfl rfl trivial (Nat.le_of_ble_eq_true rfl) rfl ?_
    refine mr_aload (pc' := 27) rfl rfl rfl ?_
    refine mr_aload (pc' := 28) rfl rfl rfl ?_
    refine mr_getr (ci := 0) (pc' := 31) rfl rfl rfl rfl ?_
    refine mr_iload (pc' := 33) rfl rfl rfl ?_
    obtain ⟨h0, h⟩ := h
    refine mr_call (t := [(2, 0)]) (pc' := 36) rfl [.inr (.inl 2), .inl (z_cd (σ 11) y7)] rfl rfl rfl (mj_recvV rfl) (Nat.le_of_ble_eq_true rfl) (s_c20 h0 ?_)
    refine mr_iload (pc' := 37) rfl rfl rfl ?_
    refine mr_const (pc' := 38) rfl rfl (by unfold mj_r; decide) ?_
    refine mr_iload (pc' := 40) rfl rfl rfl ?_
    refine mr_call (t := [(5, 0)]) (pc' := 43) rfl [.inr (.inl 5), .inl (z_cd (σ 11) (z_cd (σ 11) y7)), .inl y3, .inl 0, .inl y5] rfl rfl rfl (mj_recvV rfl) (Nat.le_of_ble_eq_true rfl) (mj_B_mono _ _ _ _ _ _ (fun r σ3 h => ?_) h)
    obtain ⟨v4, rfl, h⟩ := h
    refine mr_istore (pc' := 45) rfl rfl trivial (Nat.le_of_ble_eq_true rfl) rfl ?_
    refine mr_iload (pc' := 47) rfl rfl rfl ?_
    refine mr_if_eq (pc' := 50) rfl rfl (fun c => ?_) (fun c => ?_)
    · replace h := h.1 c
      refine mr_aload (pc' := 54) rfl rfl rfl ?_
      refine mr_getr (ci := 0) (pc' := 57) rfl rfl rfl rfl ?_
      refine mr_const (pc' := 58) rfl rfl (by unfold mj_r; decide) ?_
      refine mr_const (pc' := 59) rfl rfl (by unfold mj_r; decide) ?_
      obtain ⟨h0, h⟩ := h
      refine mr_call (t := [(4, 0)]) (pc' := 62) rfl [.inr (.inl 4), .inl 5, .inl (-1)] rfl rfl rfl (mj_recvV rfl) (Nat.le_of_ble_eq_true rfl) (s_c59 h0 (fun σ5 e9 => ?_))
      replace h := h σ5 e9
      refine mr_istore (pc' := 64) rfl rfl trivial (Nat.le_of_ble_eq_true rfl) rfl ?_
      refine mr_aload (pc' := 65) rfl rfl rfl ?_
      refine mr_aload (pc' := 66) rfl rfl rfl ?_
      refine mr_getr (ci := 0) (pc' := 69) rfl rfl rfl rfl ?_
      refine mr_iload (pc' := 71) rfl rfl rfl ?_
      refine mr_const (pc' := 72) rfl rfl (by unfold mj_r; decide) ?_
      refine mr_call (t := [(2, 0)]) (pc' := 75) rfl [.inr (.inl 2), .inl (z_cd (σ 11) y7), .inl 1] rfl rfl rfl (mj_recvV rfl) (Nat.le_of_ble_eq_true rfl) (mj_B_mono _ _ _ _ _ _ (fun r σ6 h => ?_) h)
      obtain ⟨v7, rfl, h⟩ := h
      refine mr_iload (pc' := 76) rfl rfl rfl ?_
      refine mr_iload (pc' := 78) rfl rfl rfl ?_
      refine mr_iload (pc' := 80) rfl rfl rfl ?_
      refine mr_call (t := [(5, 0)]) (pc' := 83) rfl [.inr (.inl 5), .inl v7, .inl y3, .inl y4, .inl y5] rfl rfl rfl (mj_recvV rfl) (Nat.le_of_ble_eq_true rfl) (mj_B_mono _ _ _ _ _ _ (fun r σ8 h => ?_) h)
      obtain ⟨v9, rfl, h⟩ := h
      refine mr_istore (pc' := 85) rfl rfl trivial (Nat.le_of_ble_eq_true rfl) rfl ?_
      refine mr_iload (pc' := 87) rfl rfl rfl ?_
      refine mr_if_eq (pc' := 90) rfl rfl (fun c => ?_) (fun c => ?_)
      · replace h := h.1 c
        refine mr_aload (pc' := 94) rfl rfl rfl ?_
        refine mr_getr (ci := 0) (pc' := 97) rfl rfl rfl rfl ?_
        refine mr_const (pc' := 98) rfl rfl (by unfold mj_r; decide) ?_
        refine mr_iload (pc' := 100) rfl rfl rfl ?_
        obtain ⟨h0, h⟩ := h
        refine mr_call (t := [(4, 0)]) (pc' := 103) rfl [.inr (.inl 4), .inl 4, .inl y6] rfl rfl rfl (mj_recvV rfl) (Nat.le_of_ble_eq_true rfl) (s_c59 h0 (fun σ10 e9 => ?_))
        replace h := h σ10 e9
        refine mr_istore (pc' := 105) rfl rfl trivial (Nat.le_of_ble_eq_true rfl) rfl ?_
        refine mr_aload (pc' := 106) rfl rfl rfl ?_
        refine mr_getr (ci := 0) (pc' := 109) rfl rfl rfl rfl ?_
        refine mr_iload (pc' := 111) rfl rfl rfl ?_
        refine mr_call (t := [(4, 0)]) (pc' := 114) rfl [.inr (.inl 4), .inl (if σ3 4 3 < 2400 then σ3 4 3 else -1)] rfl rfl rfl (mj_recvV rfl) (Nat.le_of_ble_eq_true rfl) (mj_B_mono _ _ _ _ _ _ (fun r σ11 h => ?_) h)
        obtain ⟨rfl, h⟩ := h
        refine mr_aload (pc' := 115) rfl rfl rfl ?_
        refine mr_getr (ci := 0) (pc' := 118) rfl rfl rfl rfl ?_
        refine mr_iload (pc' := 120) rfl rfl rfl ?_
        obtain ⟨h0, h⟩ := h
        refine mr_call (t := [(2, 0)]) (pc' := 123) rfl [.inr (.inl 2), .inl y7] rfl rfl rfl (mj_recvV rfl) (Nat.le_of_ble_eq_true rfl) (s_c21 h0 ?_)
        refine mr_istore (pc' := 125) rfl rfl trivial (Nat.le_of_ble_eq_true rfl) rfl ?_
        obtain ⟨h0, h⟩ := h
        refine mr_iinc (pc' := 128) rfl rfl rfl trivial h0 rfl ?_
        refine mr_goto rfl ?_
        exact mj_W_ls (mj_B_mono _) (mj_lev_of _ _ (by simp [mj_levb])) h
      · replace h := h.2 c
        refine mr_iload (pc' := 92) rfl rfl rfl ?_
        exact mr_iret rfl rfl trivial h
    · replace h := h.2 c
      refine mr_iload (pc' := 52) rfl rfl rfl ?_
      exact mr_iret rfl rfl trivial h
set_option maxRecDepth 20000 in
/-- ListSpeaker$Maker.clauses_ -/
theorem wq_c79 {d : Nat} {σ : mj_S} {Q : mj_Q} {x1 x2 x3 x4 x5 : Int} (h : qh_c79_9 (d + 2) Q x1 x2 x3 x4 x5 (-1) x1 0 σ) : mj_B mjc_L mjc_Ms (d + 3) 79 [.inr (.inl 5), .inl x1, .inl x2, .inl x3, .inl x4, .inl x5] σ Q := by
  refine mj_B_of (M := mjcM79) (ls := [some (.inr (.inl 5)), some (.inl x1), some (.inl x2), some (.inl x3), some (.inl x4), some (.inl x5), none, none, none, none, none, none]) rfl (mj_c1_all rfl) (Nat.le_of_ble_eq_true rfl) rfl ?_
  refine mr_const (pc' := 1) rfl rfl (by unfold mj_r; decide) ?_
  refine mr_istore (pc' := 3) rfl rfl trivial (Nat.le_of_ble_eq_true rfl) rfl ?_
  refine mr_iload (pc' := 4) rfl rfl rfl ?_
  refine mr_istore (pc' := 6) rfl rfl trivial (Nat.le_of_ble_eq_true rfl) rfl ?_
  refine mr_const (pc' := 7) rfl rfl (by unfold mj_r; decide) ?_
  refine mr_istore (pc' := 9) rfl rfl trivial (Nat.le_of_ble_eq_true rfl) rfl ?_
  exact mj_W_ls (mj_B_mono _) (mj_lev_of _ _ (by simp [mj_levb])) h
def qh_c80_37 (d : Nat) (Q : mj_Q) (y1 y2 y3 y4 y5 y6 y7 y8 y9 : Int) (σ : mj_S) : Prop := mj_P mjc_L mjc_Ms d mjco80 ((Option.some Jvm.ClassFile.FieldType.int)) Q 37 [some (.inr (.inl 5)), some (.inl y1), some (.inl y2), some (.inl y3), some (.inl y4), some (.inl y5), some (.inl y6), some (.inl y7), some (.inl y8), some (.inl y9), none] [] σ
set_option maxRecDepth 20000 in
theorem qw_c80_37 {d : Nat} {Q : mj_Q} {y1 y2 y3 y4 y5 y6 y7 y8 y9 : Int} {σ : mj_S} (h : mj_r (y3 - 1) ∧ ((y3 - 1) ≤ y9 → z_dr y8 ∧ mj_B mjc_L mjc_Ms (d + 2) 68 [.inr (.inl 5), .inl (z_cd (σ 11) y8), .inl y4, .inl y5, .inl y6] σ (fun r σ1 => ∃ v2, r = some (.inl v2) ∧ mj_B mjc_L mjc_Ms (d + 2) 61 [.inr (.inl 4), .inl y7] σ1 (fun r σ3 => r = none ∧ Q (some (.inl v2)) σ3))) ∧ (y9 < (y3 - 1) → z_dr y8 ∧ mj_B mjc_L mjc_Ms (d + 2) 68 [.inr (.inl 5), .inl (z_cd (σ 11) y8), .inl y4, .inl 0, .inl y6] σ (fun r σ4 => ∃ v5, r = some (.inl v5) ∧ (v5 = 0 → (¬ y1 = 268435462 → 0 ≤ σ4 4 3 ∧ ∀ σ6, σ6 = z_put σ4 7 y7 0 → z_dr y8 ∧ mj_r (y9 + 1) ∧ qh_c80_37 (d + 2) Q y1 y2 y3 y4 y5 y6 (if σ4 4 3 < 2400 then σ4 4 3 else -1) (z_cd (σ6 12) y8) (y9 + 1) σ6) ∧ (y1 = 268435462 → 0 ≤ σ4 4 3 ∧ ∀ σ7, σ7 = z_put σ4 6 y7 0 → z_dr y8 ∧ mj_r (y9 + 1) ∧ qh_c80_37 (d + 2) Q y1 y2 y3 y4 y5 y6 (if σ4 4 3 < 2400 then σ4 4 3 else -1) (z_cd (σ7 12) y8) (y9 + 1) σ7)) ∧ (¬ v5 = 0 → Q (some (.inl v5)) σ4)))) : qh_c80_37 (d + 2) Q y1 y2 y3 y4 y5 y6 y7 y8 y9 σ := by
  show mj_P mjc_L mjc_Ms (d + 2) mjco80 ((Option.some Jvm.ClassFile.FieldType.int)) Q 37 [some (.inr (.inl 5)), some (.inl y1), some (.inl y2), some (.inl y3), some (.inl y4), some (.inl y5), some (.inl y6), some (.inl y7), some (.inl y8), some (.inl y9), none] [] σ
  refine mr_iload (pc' := 39) rfl rfl rfl ?_
  refine mr_iload (pc' := 40) rfl rfl rfl ?_
  refine mr_const (pc' := 41) rfl rfl (by unfold mj_r; decide) ?_
  obtain ⟨h0, h⟩ := h
  refine mr_isub (pc' := 42) rfl rfl h0 ?_
  refine mr_ic_ge (pc' := 45) rfl rfl (fun c => ?_) (fun c => ?_)
  · replace h := h.1 c
    refine mr_aload (pc' := 115) rfl rfl rfl ?_
    refine mr_aload (pc' := 116) rfl rfl rfl ?_
    refine mr_getr (ci := 0) (pc' := 119) rfl rfl rfl rfl ?_
    refine mr_iload (pc' := 121) rfl rfl rfl ?_
    obtain ⟨h0, h⟩ := h
    refine mr_call (t := [(2, 0)]) (pc' := 124) rfl [.inr (.inl 2), .inl y8] rfl rfl rfl (mj_recvV rfl) (Nat.le_of_ble_eq_true rfl) (s_c20 h0 ?_)
    refine mr_iload (pc' := 126) rfl rfl rfl ?_
    refine mr_iload (pc' := 128) rfl rfl rfl ?_
    refine mr_iload (pc' := 130) rfl rfl rfl ?_
    refine mr_call (t := [(5, 0)]) (pc' := 133) rfl [.inr (.inl 5), .inl (z_cd (σ 11) y8), .inl y4, .inl y5, .inl y6] rfl rfl rfl (mj_recvV rfl) (Nat.le_of_ble_eq_true rfl) (mj_B_mono _ _ _ _ _ _ (fun r σ1 h => ?_) h)
    obtain ⟨v2, rfl, h⟩ := h
    refine mr_istore (pc' := 135) rfl rfl trivial (Nat.le_of_ble_eq_true rfl) rfl ?_
    refine mr_aload (pc' := 136) rfl rfl rfl ?_
    refine mr_getr (ci := 0) (pc' := 139) rfl rfl rfl rfl ?_
    refine mr_iload (pc' := 141) rfl rfl rfl ?_
    refine mr_call (t := [(4, 0)]) (pc' := 144) rfl [.inr (.inl 4), .inl y7] rfl rfl rfl (mj_recvV rfl) (Nat.le_of_ble_eq_true rfl) (mj_B_mono _ _ _ _ _ _ (fun r σ3 h => ?_) h)
    obtain ⟨rfl, h⟩ := h
    refine mr_iload (pc' := 146) rfl rfl rfl ?_
    exact mr_iret rfl rfl trivial h
  · replace h := h.2 c
    refine mr_aload (pc' := 46) rfl rfl rfl ?_
    refine mr_aload (pc' := 47) rfl rfl rfl ?_
    refine mr_getr (ci := 0) (pc' := 50) rfl rfl rfl rfl ?_
    refine mr_iload (pc' := 52) rfl rfl rfl ?_
    obtain ⟨h0, h⟩ := h
    refine mr_call (t := [(2, 0)]) (pc' := 55) rfl [.inr (.inl 2), .inl y8] rfl rfl rfl (mj_recvV rfl) (Nat.le_of_ble_eq_true rfl) (s_c20 h0 ?_)
    refine mr_iload (pc' := 57) rfl rfl rfl ?_
    refine mr_const (pc' := 58) rfl rfl (by unfold mj_r; decide) ?_
    refine mr_iload (pc' := 60) rfl rfl rfl ?_
    refine mr_call (t := [(5, 0)]) (pc' := 63) rfl [.inr (.inl 5), .inl (z_cd (σ 11) y8), .inl y4, .inl 0, .inl y6] rfl rfl rfl (mj_recvV rfl) (Nat.le_of_ble_eq_true rfl) (mj_B_mono _ _ _ _ _ _ (fun r σ4 h => ?_) h)
    obtain ⟨v5, rfl, h⟩ := h
    refine mr_istore (pc' := 65) rfl rfl trivial (Nat.le_of_ble_eq_true rfl) rfl ?_
    refine mr_iload (pc' := 67) rfl rfl rfl ?_
    refine mr_if_eq (pc' := 70) rfl rfl (fun c => ?_) (fun c => ?_)
    · replace h := h.1 c
      refine mr_aload (pc' := 74) rfl rfl rfl ?_
      refine mr_getr (ci := 0) (pc' := 77) rfl rfl rfl rfl ?_
      refine mr_iload (pc' := 78) rfl rfl rfl ?_
      refine mr_const (pc' := 80) rfl rfl (by unfold mj_r; decide) ?_
      refine mr_ic_ne (pc' := 83) rfl rfl (fun c => ?_) (fun c => ?_)
      · replace h := h.1 c
        refine mr_const (pc' := 90) rfl rfl (by unfold mj_r; decide) ?_
        refine mr_iload (pc' := 92) rfl rfl rfl ?_
        obtain ⟨h0, h⟩ := h
        refine mr_call (t := [(4, 0)]) (pc' := 95) rfl [.inr (.inl 4), .inl 7, .inl y7] rfl rfl rfl (mj_recvV rfl) (Nat.le_of_ble_eq_true rfl) (s_c59 h0 (fun σ6 e9 => ?_))
        replace h := h σ6 e9
        refine mr_istore (pc' := 97) rfl rfl trivial (Nat.le_of_ble_eq_true rfl) rfl ?_
        refine mr_aload (pc' := 98) rfl rfl rfl ?_
        refine mr_getr (ci := 0) (pc' := 101) rfl rfl rfl rfl ?_
        refine mr_iload (pc' := 103) rfl rfl rfl ?_
        obtain ⟨h0, h⟩ := h
        refine mr_call (t := [(2, 0)]) (pc' := 106) rfl [.inr (.inl 2), .inl y8] rfl rfl rfl (mj_recvV rfl) (Nat.le_of_ble_eq_true rfl) (s_c21 h0 ?_)
        refine mr_istore (pc' := 108) rfl rfl trivial (Nat.le_of_ble_eq_true rfl) rfl ?_
        obtain ⟨h0, h⟩ := h
        refine mr_iinc (pc' := 111) rfl rfl rfl trivial h0 rfl ?_
        refine mr_goto rfl ?_
        exact mj_W_ls (mj_B_mono _) (mj_lev_of _ _ (by simp [mj_levb])) h
      · replace h := h.2 c
        refine mr_const (pc' := 85) rfl rfl (by unfold mj_r; decide) ?_
        refine mr_goto rfl ?_
        refine mr_iload (pc' := 92) rfl rfl rfl ?_
        obtain ⟨h0, h⟩ := h
        refine mr_call (t := [(4, 0)]) (pc' := 95) rfl [.inr (.inl 4), .inl 6, .inl y7] rfl rfl rfl (mj_recvV rfl) (Nat.le_of_ble_eq_true rfl) (s_c59 h0 (fun σ7 e9 => ?_))
        replace h := h σ7 e9
        refine mr_istore (pc' := 97) rfl rfl trivial (Nat.le_of_ble_eq_true rfl) rfl ?_
        refine mr_aload (pc' := 98) rfl rfl rfl ?_
        refine mr_getr (ci := 0) (pc' := 101) rfl rfl rfl rfl ?_
        refine mr_iload (pc' := 103) rfl rfl rfl ?_
        obtain ⟨h0, h⟩ := h
        refine mr_call (t := [(2, 0)]) (pc' := 106) rfl [.inr (.inl 2), .inl y8] rfl rfl rfl (mj_recvV rfl) (Nat.le_of_ble_eq_true rfl) (s_c21 h0 ?_)
        refine mr_istore (pc' := 108) rfl rfl trivial (Nat.le_of_ble_eq_true rfl) rfl ?_
        obtain ⟨h0, h⟩ := h
        refine mr_iinc (pc' := 111) rfl rfl rfl trivial h0 rfl ?_
        refine mr_goto rfl ?_
        exact mj_W_ls (mj_B_mono _) (mj_lev_of _ _ (by simp [mj_levb])) h
    · replace h := h.2 c
      refine mr_iload (pc' := 72) rfl rfl rfl ?_
      exact mr_iret rfl rfl trivial h
set_option maxRecDepth 20000 in
/-- ListSpeaker$Maker.inTurn_ -/
theorem wq_c80 {d : Nat} {σ : mj_S} {Q : mj_Q} {x1 x2 x3 x4 x5 x6 : Int} (h : (¬ x3 = 0 → qh_c80_37 (d + 2) Q x1 x2 x3 x4 x5 x6 (-1) x2 0 σ) ∧ (x3 = 0 → (¬ x1 = 268435462 → 0 ≤ σ 4 3 ∧ ∀ σ1, σ1 = z_put σ 2 268435456 0 → Q (some (.inl 0)) σ1) ∧ (x1 = 268435462 → 0 ≤ σ 4 3 ∧ ∀ σ2, σ2 = z_put σ 2 268435457 0 → Q (some (.inl 0)) σ2))) : mj_B mjc_L mjc_Ms (d + 3) 80 [.inr (.inl 5), .inl x1, .inl x2, .inl x3, .inl x4, .inl x5, .inl x6] σ Q := by
  refine mj_B_of (M := mjcM80) (ls := [some (.inr (.inl 5)), some (.inl x1), some (.inl x2), some (.inl x3), some (.inl x4), some (.inl x5), some (.inl x6), none, none, none, none]) rfl (mj_c1_all rfl) (Nat.le_of_ble_eq_true rfl) rfl ?_
  refine mr_iload (pc' := 1) rfl rfl rfl ?_
  refine mr_if_ne (pc' := 4) rfl rfl (fun c => ?_) (fun c => ?_)
  · replace h := h.1 c
    refine mr_const (pc' := 29) rfl rfl (by unfold mj_r; decide) ?_
    refine mr_istore (pc' := 31) rfl rfl trivial (Nat.le_of_ble_eq_true rfl) rfl ?_
    refine mr_iload (pc' := 32) rfl rfl rfl ?_
    refine mr_istore (pc' := 34) rfl rfl trivial (Nat.le_of_ble_eq_true rfl) rfl ?_
    refine mr_const (pc' := 35) rfl rfl (by unfold mj_r; decide) ?_
    refine mr_istore (pc' := 37) rfl rfl trivial (Nat.le_of_ble_eq_true rfl) rfl ?_
    exact mj_W_ls (mj_B_mono _) (mj_lev_of _ _ (by simp [mj_levb])) h
  · replace h := h.2 c
    refine mr_aload (pc' := 5) rfl rfl rfl ?_
    refine mr_getr (ci := 0) (pc' := 8) rfl rfl rfl rfl ?_
    refine mr_const (pc' := 9) rfl rfl (by unfold mj_r; decide) ?_
    refine mr_iload (pc' := 10) rfl rfl rfl ?_
    refine mr_const (pc' := 12) rfl rfl (by unfold mj_r; decide) ?_
    refine mr_ic_ne (pc' := 15) rfl rfl (fun c => ?_) (fun c => ?_)
    · replace h := h.1 c
      refine mr_const (pc' := 22) rfl rfl (by unfold mj_r; decide) ?_
      obtain ⟨h0, h⟩ := h
      refine mr_call (t := [(4, 0)]) (pc' := 25) rfl [.inr (.inl 4), .inl 2, .inl 268435456] rfl rfl rfl (mj_recvV rfl) (Nat.le_of_ble_eq_true rfl) (s_c59 h0 (fun σ1 e9 => ?_))
      replace h := h σ1 e9
      refine mr_pop (pc' := 26) rfl rfl trivial ?_
      refine mr_const (pc' := 27) rfl rfl (by unfold mj_r; decide) ?_
      exact mr_iret rfl rfl trivial h
    · replace h := h.2 c
      refine mr_const (pc' := 17) rfl rfl (by unfold mj_r; decide) ?_
      refine mr_goto rfl ?_
      obtain ⟨h0, h⟩ := h
      refine mr_call (t := [(4, 0)]) (pc' := 25) rfl [.inr (.inl 4), .inl 2, .inl 268435457] rfl rfl rfl (mj_recvV rfl) (Nat.le_of_ble_eq_true rfl) (s_c59 h0 (fun σ2 e9 => ?_))
      replace h := h σ2 e9
      refine mr_pop (pc' := 26) rfl rfl trivial ?_
      refine mr_const (pc' := 27) rfl rfl (by unfold mj_r; decide) ?_
      exact mr_iret rfl rfl trivial h
set_option maxRecDepth 20000 in
/-- ListSpeaker$Functions.add_ -/
theorem wq_c82 {d : Nat} {σ : mj_S} {Q : mj_Q} {x1 x2 : Int} (h : mj_B mjc_L mjc_Ms d 22 [.inr (.inl 2), .inl x1, .inl 1] σ (fun r σ1 => ∃ v2, r = some (.inl v2) ∧ mj_r (v2 - 268435456) ∧ ((v2 - 268435456) < 0 → Q (some (.inl 1)) σ1) ∧ (0 ≤ (v2 - 268435456) → ((v2 - 268435456) < 60 → mj_B mjc_L mjc_Ms d 22 [.inr (.inl 2), .inl x1, .inl 2] σ1 (fun r σ3 => ∃ v4, r = some (.inl v4) ∧ mj_B mjc_L mjc_Ms d 22 [.inr (.inl 2), .inl x1, .inl 3] σ3 (fun r σ5 => ∃ v6, r = some (.inl v6) ∧ 0 ≤ (v2 - 268435456) ∧ (v2 - 268435456) < 60 ∧ ((σ5 24 (v2 - 268435456).toNat) = 0 → ((σ5 6 6) < 16 → 0 ≤ (v2 - 268435456) ∧ (v2 - 268435456) < 60 ∧ mj_fit .boolean 1 ∧ ∀ σ7, σ7 = mj_up σ5 24 (v2 - 268435456).toNat 1 → 0 ≤ (v2 - 268435456) ∧ (v2 - 268435456) < 60 ∧ ∀ σ8, σ8 = mj_up σ7 25 (v2 - 268435456).toNat v4 → mj_B mjc_L mjc_Ms d 23 [.inr (.inl 2), .inl v4] σ8 (fun r σ9 => ∃ v10, r = some (.inl v10) ∧ 0 ≤ (v2 - 268435456) ∧ (v2 - 268435456) < 60 ∧ ∀ σ11, σ11 = mj_up σ9 26 (v2 - 268435456).toNat v10 → 0 ≤ (v2 - 268435456) ∧ (v2 - 268435456) < 60 ∧ ∀ σ12, σ12 = mj_up σ11 27 (v2 - 268435456).toNat v6 → 0 ≤ (v2 - 268435456) ∧ (v2 - 268435456) < 60 ∧ ∀ σ13, σ13 = mj_up σ12 28 (v2 - 268435456).toNat x2 → mj_r ((σ13 6 6) + 1) ∧ ∀ σ14, σ14 = mj_up σ13 6 6 ((σ13 6 6) + 1) → Q (some (.inl 0)) σ14)) ∧ (16 ≤ (σ5 6 6) → Q (some (.inl 11)) σ5)) ∧ (¬ (σ5 24 (v2 - 268435456).toNat) = 0 → 0 ≤ (v2 - 268435456) ∧ (v2 - 268435456) < 60 ∧ mj_B mjc_L mjc_Ms d 83 [.inr (.inl 6), .inl v4, .inl (σ5 25 (v2 - 268435456).toNat)] σ5 (fun r σ15 => ∃ v16, r = some (.inl v16) ∧ (v16 = 0 → Q (some (.inl 10)) σ15) ∧ (¬ v16 = 0 → 0 ≤ (v2 - 268435456) ∧ (v2 - 268435456) < 60 ∧ mj_B mjc_L mjc_Ms d 83 [.inr (.inl 6), .inl v6, .inl (σ15 27 (v2 - 268435456).toNat)] σ15 (fun r σ17 => ∃ v18, r = some (.inl v18) ∧ (v18 = 0 → Q (some (.inl 10)) σ17) ∧ (¬ v18 = 0 → Q (some (.inl 0)) σ17)))))))) ∧ (60 ≤ (v2 - 268435456) → Q (some (.inl 1)) σ1)))) : mj_B mjc_L mjc_Ms (d + 1) 82 [.inr (.inl 6), .inl x1, .inl x2] σ Q := by
  refine mj_B_of (M := mjcM82) (ls := [some (.inr (.inl 6)), some (.inl x1), some (.inl x2), none, none, none]) rfl (mj_c1_all rfl) (Nat.le_of_ble_eq_true rfl) rfl ?_
  refine mr_aload (pc' := 1) rfl rfl rfl ?_
  refine mr_getr (ci := 0) (pc' := 4) rfl rfl rfl rfl ?_
  refine mr_iload (pc' := 5) rfl rfl rfl ?_
  refine mr_const (pc' := 6) rfl rfl (by unfold mj_r; decide) ?_
  refine mr_call (t := [(2, 0)]) (pc' := 9) rfl [.inr (.inl 2), .inl x1, .inl 1] rfl rfl rfl (mj_recvV rfl) (Nat.le_of_ble_eq_true rfl) (mj_B_mono _ _ _ _ _ _ (fun r σ1 h => ?_) h)
  obtain ⟨v2, rfl, h⟩ := h
  refine mr_const (pc' := 11) rfl rfl (by unfold mj_r; decide) ?_
  obtain ⟨h0, h⟩ := h
  refine mr_isub (pc' := 12) rfl rfl h0 ?_
  refine mr_istore (pc' := 13) rfl rfl trivial (Nat.le_of_ble_eq_true rfl) rfl ?_
  refine mr_iload (pc' := 14) rfl rfl rfl ?_
  refine mr_if_lt (pc' := 17) rfl rfl (fun c => ?_) (fun c => ?_)
  · replace h := h.1 c
    refine mr_const (pc' := 24) rfl rfl (by unfold mj_r; decide) ?_
    exact mr_iret rfl rfl trivial h
  · replace h := h.2 c
    refine mr_iload (pc' := 18) rfl rfl rfl ?_
    refine mr_const (pc' := 20) rfl rfl (by unfold mj_r; decide) ?_
    refine mr_ic_lt (pc' := 23) rfl rfl (fun c => ?_) (fun c => ?_)
    · replace h := h.1 c
      refine mr_aload (pc' := 26) rfl rfl rfl ?_
      refine mr_getr (ci := 0) (pc' := 29) rfl rfl rfl rfl ?_
      refine mr_iload (pc' := 30) rfl rfl rfl ?_
      refine mr_const (pc' := 31) rfl rfl (by unfold mj_r; decide) ?_
      refine mr_call (t := [(2, 0)]) (pc' := 34) rfl [.inr (.inl 2), .inl x1, .inl 2] rfl rfl rfl (mj_recvV rfl) (Nat.le_of_ble_eq_true rfl) (mj_B_mono _ _ _ _ _ _ (fun r σ3 h => ?_) h)
      obtain ⟨v4, rfl, h⟩ := h
      refine mr_istore (pc' := 36) rfl rfl trivial (Nat.le_of_ble_eq_true rfl) rfl ?_
      refine mr_aload (pc' := 37) rfl rfl rfl ?_
      refine mr_getr (ci := 0) (pc' := 40) rfl rfl rfl rfl ?_
      refine mr_iload (pc' := 41) rfl rfl rfl ?_
      refine mr_const (pc' := 42) rfl rfl (by unfold mj_r; decide) ?_
      refine mr_call (t := [(2, 0)]) (pc' := 45) rfl [.inr (.inl 2), .inl x1, .inl 3] rfl rfl rfl (mj_recvV rfl) (Nat.le_of_ble_eq_true rfl) (mj_B_mono _ _ _ _ _ _ (fun r σ5 h => ?_) h)
      obtain ⟨v6, rfl, h⟩ := h
      refine mr_istore (pc' := 47) rfl rfl trivial (Nat.le_of_ble_eq_true rfl) rfl ?_
      refine mr_aload (pc' := 48) rfl rfl rfl ?_
      refine mr_getr (ci := 0) (pc' := 51) rfl rfl rfl rfl ?_
      refine mr_iload (pc' := 52) rfl rfl rfl ?_
      obtain ⟨h0, h1, h⟩ := h
      refine mr_zald (pc' := 53) rfl rfl rfl h0 h1 ?_
      refine mr_if_eq (pc' := 56) rfl rfl (fun c => ?_) (fun c => ?_)
      · replace h := h.1 c
        refine mr_aload (pc' := 94) rfl rfl rfl ?_
        refine mr_get (ci := 0) (pc' := 97) rfl rfl rfl rfl ?_
        refine mr_const (pc' := 99) rfl rfl (by unfold mj_r; decide) ?_
        refine mr_ic_lt (pc' := 102) rfl rfl (fun c => ?_) (fun c => ?_)
        · replace h := h.1 c
          refine mr_aload (pc' := 106) rfl rfl rfl ?_
          refine mr_getr (ci := 0) (pc' := 109) rfl rfl rfl rfl ?_
          refine mr_iload (pc' := 110) rfl rfl rfl ?_
          refine mr_const (pc' := 111) rfl rfl (by unfold mj_r; decide) ?_
          obtain ⟨h0, h1, h2, h⟩ := h
          refine mr_zast (pc' := 112) rfl rfl rfl h0 h1 h2 (fun σ7 e9 => ?_)
          replace h := h σ7 e9
          refine mr_aload (pc' := 113) rfl rfl rfl ?_
          refine mr_getr (ci := 0) (pc' := 116) rfl rfl rfl rfl ?_
          refine mr_iload (pc' := 117) rfl rfl rfl ?_
          refine mr_iload (pc' := 119) rfl rfl rfl ?_
          obtain ⟨h0, h1, h⟩ := h
          refine mr_iast (pc' := 120) rfl rfl rfl h0 h1 (fun σ8 e9 => ?_)
          replace h := h σ8 e9
          refine mr_aload (pc' := 121) rfl rfl rfl ?_
          refine mr_getr (ci := 0) (pc' := 124) rfl rfl rfl rfl ?_
          refine mr_iload (pc' := 125) rfl rfl rfl ?_
          refine mr_aload (pc' := 126) rfl rfl rfl ?_
          refine mr_getr (ci := 0) (pc' := 129) rfl rfl rfl rfl ?_
          refine mr_iload (pc' := 131) rfl rfl rfl ?_
          refine mr_call (t := [(2, 0)]) (pc' := 134) rfl [.inr (.inl 2), .inl v4] rfl rfl rfl (mj_recvV rfl) (Nat.le_of_ble_eq_true rfl) (mj_B_mono _ _ _ _ _ _ (fun r σ9 h => ?_) h)
          obtain ⟨v10, rfl, h⟩ := h
          obtain ⟨h0, h1, h⟩ := h
          refine mr_iast (pc' := 135) rfl rfl rfl h0 h1 (fun σ11 e9 => ?_)
          replace h := h σ11 e9
          refine mr_aload (pc' := 136) rfl rfl rfl ?_
          refine mr_getr (ci := 0) (pc' := 139) rfl rfl rfl rfl ?_
          refine mr_iload (pc' := 140) rfl rfl rfl ?_
          refine mr_iload (pc' := 142) rfl rfl rfl ?_
          obtain ⟨h0, h1, h⟩ := h
          refine mr_iast (pc' := 143) rfl rfl rfl h0 h1 (fun σ12 e9 => ?_)
          replace h := h σ12 e9
          refine mr_aload (pc' := 144) rfl rfl rfl ?_
          refine mr_getr (ci := 0) (pc' := 147) rfl rfl rfl rfl ?_
          refine mr_iload (pc' := 148) rfl rfl rfl ?_
          refine mr_iload (pc' := 149) rfl rfl rfl ?_
          obtain ⟨h0, h1, h⟩ := h
          refine mr_iast (pc' := 150) rfl rfl rfl h0 h1 (fun σ13 e9 => ?_)
          replace h := h σ13 e9
          refine mr_aload (pc' := 151) rfl rfl rfl ?_
          refine mr_dup (pc' := 152) rfl rfl trivial ?_
          refine mr_get (ci := 0) (pc' := 155) rfl rfl rfl rfl ?_
          refine mr_const (pc' := 156) rfl rfl (by unfold mj_r; decide) ?_
          obtain ⟨h0, h⟩ := h
          refine mr_iadd (pc' := 157) rfl rfl h0 ?_
          refine mr_put (pc' := 160) rfl rfl rfl rfl (fun σ14 e9 => ?_)
          replace h := h σ14 e9
          refine mr_const (pc' := 161) rfl rfl (by unfold mj_r; decide) ?_
          exact mr_iret rfl rfl trivial h
        · replace h := h.2 c
          refine mr_const (pc' := 104) rfl rfl (by unfold mj_r; decide) ?_
          exact mr_iret rfl rfl trivial h
      · replace h := h.2 c
        refine mr_aload (pc' := 57) rfl rfl rfl ?_
        refine mr_iload (pc' := 59) rfl rfl rfl ?_
        refine mr_aload (pc' := 60) rfl rfl rfl ?_
        refine mr_getr (ci := 0) (pc' := 63) rfl rfl rfl rfl ?_
        refine mr_iload (pc' := 64) rfl rfl rfl ?_
        obtain ⟨h0, h1, h⟩ := h
        refine mr_iald (pc' := 65) rfl rfl rfl h0 h1 ?_
        refine mr_call (t := [(6, 0)]) (pc' := 68) rfl [.inr (.inl 6), .inl v4, .inl (σ5 25 (v2 - 268435456).toNat)] rfl rfl rfl (mj_recvV rfl) (Nat.le_of_ble_eq_true rfl) (mj_B_mono _ _ _ _ _ _ (fun r σ15 h => ?_) h)
        obtain ⟨v16, rfl, h⟩ := h
        refine mr_if_eq (pc' := 71) rfl rfl (fun c => ?_) (fun c => ?_)
        · replace h := h.1 c
          refine mr_const (pc' := 92) rfl rfl (by unfold mj_r; decide) ?_
          exact mr_iret rfl rfl trivial h
        · replace h := h.2 c
          refine mr_aload (pc' := 72) rfl rfl rfl ?_
          refine mr_iload (pc' := 74) rfl rfl rfl ?_
          refine mr_aload (pc' := 75) rfl rfl rfl ?_
          refine mr_getr (ci := 0) (pc' := 78) rfl rfl rfl rfl ?_
          refine mr_iload (pc' := 79) rfl rfl rfl ?_
          obtain ⟨h0, h1, h⟩ := h
          refine mr_iald (pc' := 80) rfl rfl rfl h0 h1 ?_
          refine mr_call (t := [(6, 0)]) (pc' := 83) rfl [.inr (.inl 6), .inl v6, .inl (σ15 27 (v2 - 268435456).toNat)] rfl rfl rfl (mj_recvV rfl) (Nat.le_of_ble_eq_true rfl) (mj_B_mono _ _ _ _ _ _ (fun r σ17 h => ?_) h)
          obtain ⟨v18, rfl, h⟩ := h
          refine mr_if_eq (pc' := 86) rfl rfl (fun c => ?_) (fun c => ?_)
          · replace h := h.1 c
            refine mr_const (pc' := 92) rfl rfl (by unfold mj_r; decide) ?_
            exact mr_iret rfl rfl trivial h
          · replace h := h.2 c
            refine mr_const (pc' := 87) rfl rfl (by unfold mj_r; decide) ?_
            refine mr_goto rfl ?_
            exact mr_iret rfl rfl trivial h
    · replace h := h.2 c
      refine mr_const (pc' := 24) rfl rfl (by unfold mj_r; decide) ?_
      exact mr_iret rfl rfl trivial h
set_option maxRecDepth 20000 in
/-- ListSpeaker$Functions.areSame_ -/
theorem wq_c83 {d : Nat} {σ : mj_S} {Q : mj_Q} {x1 x2 : Int} (h : mj_B mjc_L mjc_Ms d 32 [.inr (.inl 2), .inl x1, .inl x2, .inl 1000000] σ (fun r σ1 => ∃ v2, r = some (.inl v2) ∧ (¬ v2 = 0 → Q (some (.inl 0)) σ1) ∧ (v2 = 0 → Q (some (.inl 1)) σ1))) : mj_B mjc_L mjc_Ms (d + 1) 83 [.inr (.inl 6), .inl x1, .inl x2] σ Q := by
  refine mj_B_of (M := mjcM83) (ls := [some (.inr (.inl 6)), some (.inl x1), some (.inl x2)]) rfl (mj_c1_all rfl) (Nat.le_of_ble_eq_true rfl) rfl ?_
  refine mr_aload (pc' := 1) rfl rfl rfl ?_
  refine mr_getr (ci := 0) (pc' := 4) rfl rfl rfl rfl ?_
  refine mr_iload (pc' := 5) rfl rfl rfl ?_
  refine mr_iload (pc' := 6) rfl rfl rfl ?_
  refine mr_const (pc' := 8) rfl rfl (by unfold mj_r; decide) ?_
  refine mr_call (t := [(2, 0)]) (pc' := 11) rfl [.inr (.inl 2), .inl x1, .inl x2, .inl 1000000] rfl rfl rfl (mj_recvV rfl) (Nat.le_of_ble_eq_true rfl) (mj_B_mono _ _ _ _ _ _ (fun r σ1 h => ?_) h)
  obtain ⟨v2, rfl, h⟩ := h
  refine mr_if_ne (pc' := 14) rfl rfl (fun c => ?_) (fun c => ?_)
  · replace h := h.1 c
    refine mr_const (pc' := 19) rfl rfl (by unfold mj_r; decide) ?_
    exact mr_iret rfl rfl (by simp [mj_fit]) h
  · replace h := h.2 c
    refine mr_const (pc' := 15) rfl rfl (by unfold mj_r; decide) ?_
    refine mr_goto rfl ?_
    exact mr_iret rfl rfl (by simp [mj_fit]) h
