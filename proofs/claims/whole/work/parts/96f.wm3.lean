def qh_m42_16 (d : Nat) (Q : mj_Q) (y1 y2 y3 y4 y5 : Int) (σ : mj_S) : Prop := mj_P mjm_L mjm_Ms d mjmo42 ((Option.none : Option Jvm.ClassFile.FieldType)) Q 16 [some (.inr (.inl 0)), some (.inl y1), some (.inl y2), some (.inl y3), some (.inl y4), some (.inl y5)] [] σ
set_option maxRecDepth 20000 in
theorem qw_m42_16 {d : Nat} {Q : mj_Q} {y1 y2 y3 y4 y5 : Int} {σ : mj_S} (h : (¬ (536870912 ≤ y5) → 0 ≤ σ 0 26 ∧ σ 0 26 < 3000 ∧ mj_fit .boolean 0 ∧ ∀ σ1, σ1 = z_la σ 5 268435456 y2 0 → mj_B mjm_L mjm_Ms (d + 1) 8 [.inr (.inl 0), .inl y1, .inl 2] σ1 (fun r σ2 => ∃ v3, r = some (.inl v3) ∧ 0 ≤ σ2 0 26 ∧ σ2 0 26 < 3000 ∧ mj_fit .boolean y3 ∧ ∀ σ4, σ4 = z_la σ2 1 v3 0 y3 → Q none σ4)) ∧ (536870912 ≤ y5 → z_pr y5 ∧ z_pr (z_cd (σ 4) y5) ∧ 0 ≤ σ 0 33 ∧ σ 0 33 < 400 ∧ ∀ σ5, σ5 = z_bi σ (z_cd (σ 4) (z_cd (σ 4) y5)) y4 → mj_r (y4 + 1) ∧ z_pr y5 ∧ qh_m42_16 (d + 1) Q y1 y2 y3 (y4 + 1) (z_cd (σ5 5) y5) σ5)) : qh_m42_16 (d + 1) Q y1 y2 y3 y4 y5 σ := by
  show mj_P mjm_L mjm_Ms (d + 1) mjmo42 ((Option.none : Option Jvm.ClassFile.FieldType)) Q 16 [some (.inr (.inl 0)), some (.inl y1), some (.inl y2), some (.inl y3), some (.inl y4), some (.inl y5)] [] σ
  refine mr_iload (pc' := 18) rfl rfl rfl ?_
  refine mr_call (t := []) (pc' := 21) rfl [.inl y5] rfl rfl rfl trivial (Nat.le_of_ble_eq_true rfl) (s_m3  ?_)
  refine mr_if_eq (pc' := 24) rfl rfl (fun c => ?_) (fun c => ?_)
  · replace h := h.1 (bo_0 c)
    refine mr_aload (pc' := 55) rfl rfl rfl ?_
    refine mr_const (pc' := 56) rfl rfl (by unfold mj_r; decide) ?_
    refine mr_const (pc' := 58) rfl rfl (by unfold mj_r; decide) ?_
    refine mr_iload (pc' := 59) rfl rfl rfl ?_
    refine mr_const (pc' := 60) rfl rfl (by unfold mj_r; decide) ?_
    obtain ⟨h0, h1, h2, h⟩ := h
    refine mr_call (t := [(9, 0)]) (pc' := 63) rfl [.inr (.inl 0), .inl 5, .inl 268435456, .inl y2, .inl 0] rfl rfl rfl (mj_recvV rfl) (Nat.le_of_ble_eq_true rfl) (s_m24 h0 h1 h2 (fun σ1 e9 => ?_))
    replace h := h σ1 e9
    refine mr_aload (pc' := 64) rfl rfl rfl ?_
    refine mr_const (pc' := 65) rfl rfl (by unfold mj_r; decide) ?_
    refine mr_aload (pc' := 66) rfl rfl rfl ?_
    refine mr_iload (pc' := 67) rfl rfl rfl ?_
    refine mr_const (pc' := 68) rfl rfl (by unfold mj_r; decide) ?_
    refine mr_call (t := [(9, 0)]) (pc' := 71) rfl [.inr (.inl 0), .inl y1, .inl 2] rfl rfl rfl (mj_recvV rfl) (Nat.le_of_ble_eq_true rfl) (mj_B_mono _ _ _ _ _ _ (fun r σ2 h => ?_) h)
    obtain ⟨v3, rfl, h⟩ := h
    refine mr_const (pc' := 72) rfl rfl (by unfold mj_r; decide) ?_
    refine mr_iload (pc' := 73) rfl rfl rfl ?_
    obtain ⟨h0, h1, h2, h⟩ := h
    refine mr_call (t := [(9, 0)]) (pc' := 76) rfl [.inr (.inl 0), .inl 1, .inl v3, .inl 0, .inl y3] rfl rfl rfl (mj_recvV rfl) (Nat.le_of_ble_eq_true rfl) (s_m24 h0 h1 h2 (fun σ4 e9 => ?_))
    replace h := h σ4 e9
    exact mr_ret rfl rfl h
  · replace h := h.2 (bo_1 c)
    refine mr_aload (pc' := 25) rfl rfl rfl ?_
    refine mr_aload (pc' := 26) rfl rfl rfl ?_
    refine mr_aload (pc' := 27) rfl rfl rfl ?_
    refine mr_iload (pc' := 29) rfl rfl rfl ?_
    obtain ⟨h0, h⟩ := h
    refine mr_call (t := [(9, 0)]) (pc' := 32) rfl [.inr (.inl 0), .inl y5] rfl rfl rfl (mj_recvV rfl) (Nat.le_of_ble_eq_true rfl) (s_m5 h0 ?_)
    obtain ⟨h0, h⟩ := h
    refine mr_call (t := [(9, 0)]) (pc' := 35) rfl [.inr (.inl 0), .inl (z_cd (σ 4) y5)] rfl rfl rfl (mj_recvV rfl) (Nat.le_of_ble_eq_true rfl) (s_m5 h0 ?_)
    refine mr_iload (pc' := 37) rfl rfl rfl ?_
    obtain ⟨h0, h1, h⟩ := h
    refine mr_call (t := [(9, 0)]) (pc' := 40) rfl [.inr (.inl 0), .inl (z_cd (σ 4) (z_cd (σ 4) y5)), .inl y4] rfl rfl rfl (mj_recvV rfl) (Nat.le_of_ble_eq_true rfl) (s_m25 h0 h1 (fun σ5 e9 => ?_))
    replace h := h σ5 e9
    obtain ⟨h0, h⟩ := h
    refine mr_iinc (pc' := 43) rfl rfl rfl trivial h0 rfl ?_
    refine mr_aload (pc' := 44) rfl rfl rfl ?_
    refine mr_iload (pc' := 46) rfl rfl rfl ?_
    obtain ⟨h0, h⟩ := h
    refine mr_call (t := [(9, 0)]) (pc' := 49) rfl [.inr (.inl 0), .inl y5] rfl rfl rfl (mj_recvV rfl) (Nat.le_of_ble_eq_true rfl) (s_m6 h0 ?_)
    refine mr_istore (pc' := 51) rfl rfl trivial (Nat.le_of_ble_eq_true rfl) rfl ?_
    refine mr_goto rfl ?_
    exact mj_W_ls (mj_B_mono _) (mj_lev_of _ _ (by simp [mj_levb])) h
set_option maxRecDepth 20000 in
/-- ListSpeakerModel.enterLet_ -/
theorem wq_m42 {d : Nat} {σ : mj_S} {Q : mj_Q} {x1 x2 x3 : Int} (h : mj_r ((σ 0 31) - x2) ∧ mj_B mjm_L mjm_Ms (d + 1) 8 [.inr (.inl 0), .inl x1, .inl 1] σ (fun r σ1 => ∃ v2, r = some (.inl v2) ∧ qh_m42_16 (d + 1) Q x1 x2 x3 ((σ 0 31) - x2) v2 σ1)) : mj_B mjm_L mjm_Ms (d + 2) 42 [.inr (.inl 0), .inl x1, .inl x2, .inl x3] σ Q := by
  refine mj_B_of (M := mjmM42) (ls := [some (.inr (.inl 0)), some (.inl x1), some (.inl x2), some (.inl x3), none, none]) rfl (mj_c1_all rfl) (Nat.le_of_ble_eq_true rfl) rfl ?_
  refine mr_aload (pc' := 1) rfl rfl rfl ?_
  refine mr_get (ci := 0) (pc' := 4) rfl rfl rfl rfl ?_
  refine mr_iload (pc' := 5) rfl rfl rfl ?_
  obtain ⟨h0, h⟩ := h
  refine mr_isub (pc' := 6) rfl rfl h0 ?_
  refine mr_istore (pc' := 8) rfl rfl trivial (Nat.le_of_ble_eq_true rfl) rfl ?_
  refine mr_aload (pc' := 9) rfl rfl rfl ?_
  refine mr_iload (pc' := 10) rfl rfl rfl ?_
  refine mr_const (pc' := 11) rfl rfl (by unfold mj_r; decide) ?_
  refine mr_call (t := [(9, 0)]) (pc' := 14) rfl [.inr (.inl 0), .inl x1, .inl 1] rfl rfl rfl (mj_recvV rfl) (Nat.le_of_ble_eq_true rfl) (mj_B_mono _ _ _ _ _ _ (fun r σ1 h => ?_) h)
  obtain ⟨v2, rfl, h⟩ := h
  refine mr_istore (pc' := 16) rfl rfl trivial (Nat.le_of_ble_eq_true rfl) rfl ?_
  exact mj_W_ls (mj_B_mono _) (mj_lev_of _ _ (by simp [mj_levb])) h
set_option maxRecDepth 20000 in
/-- ListSpeakerModel.comeBack_ -/
theorem wq_m43 {d : Nat} {σ : mj_S} {Q : mj_Q} (h : mj_r ((σ 0 38) - 2) ∧ ∀ σ1, σ1 = mj_up σ 0 38 ((σ 0 38) - 2) → ∀ σ2, σ2 = mj_up σ1 0 33 (σ1 0 36) → mj_r ((σ2 0 31) - 1) ∧ mj_r (((σ2 0 31) - 1) - (σ2 0 37)) ∧ mj_B mjm_L mjm_Ms d 44 [.inr (.inl 0), .inl (((σ2 0 31) - 1) - (σ2 0 37)), .inl 0] σ2 (fun r σ3 => r = none ∧ 0 ≤ (σ3 0 38) ∧ (σ3 0 38) < 220 ∧ ∀ σ4, σ4 = mj_up σ3 0 36 (σ3 23 (σ3 0 38).toNat) → mj_r ((σ4 0 38) + 1) ∧ 0 ≤ ((σ4 0 38) + 1) ∧ ((σ4 0 38) + 1) < 220 ∧ ∀ σ5, σ5 = mj_up σ4 0 37 (σ4 23 ((σ4 0 38) + 1).toNat) → Q none σ5)) : mj_B mjm_L mjm_Ms (d + 1) 43 [.inr (.inl 0)] σ Q := by
  refine mj_B_of (M := mjmM43) (ls := [some (.inr (.inl 0))]) rfl (mj_c1_all rfl) (Nat.le_of_ble_eq_true rfl) rfl ?_
  refine mr_aload (pc' := 1) rfl rfl rfl ?_
  refine mr_dup (pc' := 2) rfl rfl trivial ?_
  refine mr_get (ci := 0) (pc' := 5) rfl rfl rfl rfl ?_
  refine mr_const (pc' := 6) rfl rfl (by unfold mj_r; decide) ?_
  obtain ⟨h0, h⟩ := h
  refine mr_isub (pc' := 7) rfl rfl h0 ?_
  refine mr_put (pc' := 10) rfl rfl rfl rfl (fun σ1 e9 => ?_)
  replace h := h σ1 e9
  refine mr_aload (pc' := 11) rfl rfl rfl ?_
  refine mr_aload (pc' := 12) rfl rfl rfl ?_
  refine mr_get (ci := 0) (pc' := 15) rfl rfl rfl rfl ?_
  refine mr_put (pc' := 18) rfl rfl rfl rfl (fun σ2 e9 => ?_)
  replace h := h σ2 e9
  refine mr_aload (pc' := 19) rfl rfl rfl ?_
  refine mr_aload (pc' := 20) rfl rfl rfl ?_
  refine mr_get (ci := 0) (pc' := 23) rfl rfl rfl rfl ?_
  refine mr_const (pc' := 24) rfl rfl (by unfold mj_r; decide) ?_
  obtain ⟨h0, h⟩ := h
  refine mr_isub (pc' := 25) rfl rfl h0 ?_
  refine mr_aload (pc' := 26) rfl rfl rfl ?_
  refine mr_get (ci := 0) (pc' := 29) rfl rfl rfl rfl ?_
  obtain ⟨h0, h⟩ := h
  refine mr_isub (pc' := 30) rfl rfl h0 ?_
  refine mr_const (pc' := 31) rfl rfl (by unfold mj_r; decide) ?_
  refine mr_call (t := [(9, 0)]) (pc' := 34) rfl [.inr (.inl 0), .inl (((σ2 0 31) - 1) - (σ2 0 37)), .inl 0] rfl rfl rfl (mj_recvV rfl) (Nat.le_of_ble_eq_true rfl) (mj_B_mono _ _ _ _ _ _ (fun r σ3 h => ?_) h)
  obtain ⟨rfl, h⟩ := h
  refine mr_aload (pc' := 35) rfl rfl rfl ?_
  refine mr_aload (pc' := 36) rfl rfl rfl ?_
  refine mr_getr (ci := 0) (pc' := 39) rfl rfl rfl rfl ?_
  refine mr_aload (pc' := 40) rfl rfl rfl ?_
  refine mr_get (ci := 0) (pc' := 43) rfl rfl rfl rfl ?_
  obtain ⟨h0, h1, h⟩ := h
  refine mr_iald (pc' := 44) rfl rfl rfl h0 h1 ?_
  refine mr_put (pc' := 47) rfl rfl rfl rfl (fun σ4 e9 => ?_)
  replace h := h σ4 e9
  refine mr_aload (pc' := 48) rfl rfl rfl ?_
  refine mr_aload (pc' := 49) rfl rfl rfl ?_
  refine mr_getr (ci := 0) (pc' := 52) rfl rfl rfl rfl ?_
  refine mr_aload (pc' := 53) rfl rfl rfl ?_
  refine mr_get (ci := 0) (pc' := 56) rfl rfl rfl rfl ?_
  refine mr_const (pc' := 57) rfl rfl (by unfold mj_r; decide) ?_
  obtain ⟨h0, h⟩ := h
  refine mr_iadd (pc' := 58) rfl rfl h0 ?_
  obtain ⟨h0, h1, h⟩ := h
  refine mr_iald (pc' := 59) rfl rfl rfl h0 h1 ?_
  refine mr_put (pc' := 62) rfl rfl rfl rfl (fun σ5 e9 => ?_)
  replace h := h σ5 e9
  exact mr_ret rfl rfl h
set_option maxRecDepth 20000 in
/-- ListSpeakerModel.leave_ -/
theorem wq_m44 {d : Nat} {σ : mj_S} {Q : mj_Q} {x1 x2 : Int} (h : 1 ≤ σ 0 31 ∧ σ 0 31 ≤ 100 ∧ ∀ σ1, σ1 = mj_up σ 0 31 (σ 0 31 - 1) → mj_r ((σ1 0 31) - x1) ∧ ∀ σ2, σ2 = mj_up σ1 0 31 ((σ1 0 31) - x1) → 0 ≤ (σ2 0 31) ∧ (σ2 0 31) < 100 ∧ ∀ σ3, σ3 = mj_up σ2 20 (σ2 0 31).toNat (σ 20 (σ 0 31 - 1).toNat) → mj_r ((σ3 0 31) + 1) ∧ ∀ σ4, σ4 = mj_up σ3 0 31 ((σ3 0 31) + 1) → mj_r ((σ4 0 33) - x2) ∧ ∀ σ5, σ5 = mj_up σ4 0 33 ((σ4 0 33) - x2) → Q none σ5) : mj_B mjm_L mjm_Ms (d + 2) 44 [.inr (.inl 0), .inl x1, .inl x2] σ Q := by
  refine mj_B_of (M := mjmM44) (ls := [some (.inr (.inl 0)), some (.inl x1), some (.inl x2), none]) rfl (mj_c1_all rfl) (Nat.le_of_ble_eq_true rfl) rfl ?_
  refine mr_aload (pc' := 1) rfl rfl rfl ?_
  obtain ⟨h0, h1, h⟩ := h
  refine mr_call (t := [(9, 0)]) (pc' := 4) rfl [.inr (.inl 0)] rfl rfl rfl (mj_recvV rfl) (Nat.le_of_ble_eq_true rfl) (s_m39 h0 h1 (fun σ1 e9 => ?_))
  replace h := h σ1 e9
  refine mr_istore (pc' := 5) rfl rfl trivial (Nat.le_of_ble_eq_true rfl) rfl ?_
  refine mr_aload (pc' := 6) rfl rfl rfl ?_
  refine mr_dup (pc' := 7) rfl rfl trivial ?_
  refine mr_get (ci := 0) (pc' := 10) rfl rfl rfl rfl ?_
  refine mr_iload (pc' := 11) rfl rfl rfl ?_
  obtain ⟨h0, h⟩ := h
  refine mr_isub (pc' := 12) rfl rfl h0 ?_
  refine mr_put (pc' := 15) rfl rfl rfl rfl (fun σ2 e9 => ?_)
  replace h := h σ2 e9
  refine mr_aload (pc' := 16) rfl rfl rfl ?_
  refine mr_getr (ci := 0) (pc' := 19) rfl rfl rfl rfl ?_
  refine mr_aload (pc' := 20) rfl rfl rfl ?_
  refine mr_get (ci := 0) (pc' := 23) rfl rfl rfl rfl ?_
  refine mr_iload (pc' := 24) rfl rfl rfl ?_
  obtain ⟨h0, h1, h⟩ := h
  refine mr_iast (pc' := 25) rfl rfl rfl h0 h1 (fun σ3 e9 => ?_)
  replace h := h σ3 e9
  refine mr_aload (pc' := 26) rfl rfl rfl ?_
  refine mr_dup (pc' := 27) rfl rfl trivial ?_
  refine mr_get (ci := 0) (pc' := 30) rfl rfl rfl rfl ?_
  refine mr_const (pc' := 31) rfl rfl (by unfold mj_r; decide) ?_
  obtain ⟨h0, h⟩ := h
  refine mr_iadd (pc' := 32) rfl rfl h0 ?_
  refine mr_put (pc' := 35) rfl rfl rfl rfl (fun σ4 e9 => ?_)
  replace h := h σ4 e9
  refine mr_aload (pc' := 36) rfl rfl rfl ?_
  refine mr_dup (pc' := 37) rfl rfl trivial ?_
  refine mr_get (ci := 0) (pc' := 40) rfl rfl rfl rfl ?_
  refine mr_iload (pc' := 41) rfl rfl rfl ?_
  obtain ⟨h0, h⟩ := h
  refine mr_isub (pc' := 42) rfl rfl h0 ?_
  refine mr_put (pc' := 45) rfl rfl rfl rfl (fun σ5 e9 => ?_)
  replace h := h σ5 e9
  exact mr_ret rfl rfl h
set_option maxRecDepth 20000 in
/-- ListSpeakerModel.connect_ -/
theorem wq_m45 {d : Nat} {σ : mj_S} {Q : mj_Q} {x1 x2 x3 : Int} (h : (536870912 ≤ x2 → z_pr x2 ∧ (¬ (z_cd (σ 5) x2) = 268435456 → (¬ x1 = 8 → 0 ≤ σ 0 26 ∧ σ 0 26 < 3000 ∧ mj_fit .boolean x3 ∧ ∀ σ1, σ1 = z_la σ 11 x2 0 x3 → z_pr x2 ∧ 0 ≤ σ1 0 26 ∧ σ1 0 26 < 3000 ∧ mj_fit .boolean 0 ∧ ∀ σ2, σ2 = z_la σ1 1 (z_cd (σ1 4) x2) 0 0 → Q none σ2) ∧ (x1 = 8 → 0 ≤ σ 0 26 ∧ σ 0 26 < 3000 ∧ mj_fit .boolean x3 ∧ ∀ σ3, σ3 = z_la σ 9 x2 0 x3 → z_pr x2 ∧ 0 ≤ σ3 0 26 ∧ σ3 0 26 < 3000 ∧ mj_fit .boolean 0 ∧ ∀ σ4, σ4 = z_la σ3 1 (z_cd (σ3 4) x2) 0 0 → Q none σ4)) ∧ ((z_cd (σ 5) x2) = 268435456 → z_pr x2 ∧ 0 ≤ σ 0 26 ∧ σ 0 26 < 3000 ∧ mj_fit .boolean x3 ∧ ∀ σ5, σ5 = z_la σ 1 (z_cd (σ 4) x2) 0 x3 → Q none σ5)) ∧ (¬ (536870912 ≤ x2) → (¬ x1 = 8 → 0 ≤ σ 0 31 ∧ σ 0 31 ≤ 100 ∧ ∀ σ6, σ6 = z_pu σ 268435456 → Q none σ6) ∧ (x1 = 8 → 0 ≤ σ 0 31 ∧ σ 0 31 ≤ 100 ∧ ∀ σ7, σ7 = z_pu σ 268435457 → Q none σ7))) : mj_B mjm_L mjm_Ms (d + 3) 45 [.inr (.inl 0), .inl x1, .inl x2, .inl x3] σ Q := by
  refine mj_B_of (M := mjmM45) (ls := [some (.inr (.inl 0)), some (.inl x1), some (.inl x2), some (.inl x3)]) rfl (mj_c1_all rfl) (Nat.le_of_ble_eq_true rfl) rfl ?_
  refine mr_iload (pc' := 1) rfl rfl rfl ?_
  refine mr_call (t := []) (pc' := 4) rfl [.inl x2] rfl rfl rfl trivial (Nat.le_of_ble_eq_true rfl) (s_m3  ?_)
  refine mr_if_ne (pc' := 7) rfl rfl (fun c => ?_) (fun c => ?_)
  · replace h := h.1 (bo_1 c)
    refine mr_aload (pc' := 28) rfl rfl rfl ?_
    refine mr_iload (pc' := 29) rfl rfl rfl ?_
    obtain ⟨h0, h⟩ := h
    refine mr_call (t := [(9, 0)]) (pc' := 32) rfl [.inr (.inl 0), .inl x2] rfl rfl rfl (mj_recvV rfl) (Nat.le_of_ble_eq_true rfl) (s_m6 h0 ?_)
    refine mr_const (pc' := 34) rfl rfl (by unfold mj_r; decide) ?_
    refine mr_ic_ne (pc' := 37) rfl rfl (fun c => ?_) (fun c => ?_)
    · replace h := h.1 c
      refine mr_aload (pc' := 53) rfl rfl rfl ?_
      refine mr_iload (pc' := 54) rfl rfl rfl ?_
      refine mr_const (pc' := 56) rfl rfl (by unfold mj_r; decide) ?_
      refine mr_ic_ne (pc' := 59) rfl rfl (fun c => ?_) (fun c => ?_)
      · replace h := h.1 c
        refine mr_const (pc' := 66) rfl rfl (by unfold mj_r; decide) ?_
        refine mr_iload (pc' := 67) rfl rfl rfl ?_
        refine mr_const (pc' := 68) rfl rfl (by unfold mj_r; decide) ?_
        refine mr_iload (pc' := 69) rfl rfl rfl ?_
        obtain ⟨h0, h1, h2, h⟩ := h
        refine mr_call (t := [(9, 0)]) (pc' := 72) rfl [.inr (.inl 0), .inl 11, .inl x2, .inl 0, .inl x3] rfl rfl rfl (mj_recvV rfl) (Nat.le_of_ble_eq_true rfl) (s_m24 h0 h1 h2 (fun σ1 e9 => ?_))
        replace h := h σ1 e9
        refine mr_aload (pc' := 73) rfl rfl rfl ?_
        refine mr_const (pc' := 74) rfl rfl (by unfold mj_r; decide) ?_
        refine mr_aload (pc' := 75) rfl rfl rfl ?_
        refine mr_iload (pc' := 76) rfl rfl rfl ?_
        obtain ⟨h0, h⟩ := h
        refine mr_call (t := [(9, 0)]) (pc' := 79) rfl [.inr (.inl 0), .inl x2] rfl rfl rfl (mj_recvV rfl) (Nat.le_of_ble_eq_true rfl) (s_m5 h0 ?_)
        refine mr_const (pc' := 80) rfl rfl (by unfold mj_r; decide) ?_
        refine mr_const (pc' := 81) rfl rfl (by unfold mj_r; decide) ?_
        obtain ⟨h0, h1, h2, h⟩ := h
        refine mr_call (t := [(9, 0)]) (pc' := 84) rfl [.inr (.inl 0), .inl 1, .inl (z_cd (σ1 4) x2), .inl 0, .inl 0] rfl rfl rfl (mj_recvV rfl) (Nat.le_of_ble_eq_true rfl) (s_m24 h0 h1 h2 (fun σ2 e9 => ?_))
        replace h := h σ2 e9
        exact mr_ret rfl rfl h
      · replace h := h.2 c
        refine mr_const (pc' := 61) rfl rfl (by unfold mj_r; decide) ?_
        refine mr_goto rfl ?_
        refine mr_iload (pc' := 67) rfl rfl rfl ?_
        refine mr_const (pc' := 68) rfl rfl (by unfold mj_r; decide) ?_
        refine mr_iload (pc' := 69) rfl rfl rfl ?_
        obtain ⟨h0, h1, h2, h⟩ := h
        refine mr_call (t := [(9, 0)]) (pc' := 72) rfl [.inr (.inl 0), .inl 9, .inl x2, .inl 0, .inl x3] rfl rfl rfl (mj_recvV rfl) (Nat.le_of_ble_eq_true rfl) (s_m24 h0 h1 h2 (fun σ3 e9 => ?_))
        replace h := h σ3 e9
        refine mr_aload (pc' := 73) rfl rfl rfl ?_
        refine mr_const (pc' := 74) rfl rfl (by unfold mj_r; decide) ?_
        refine mr_aload (pc' := 75) rfl rfl rfl ?_
        refine mr_iload (pc' := 76) rfl rfl rfl ?_
        obtain ⟨h0, h⟩ := h
        refine mr_call (t := [(9, 0)]) (pc' := 79) rfl [.inr (.inl 0), .inl x2] rfl rfl rfl (mj_recvV rfl) (Nat.le_of_ble_eq_true rfl) (s_m5 h0 ?_)
        refine mr_const (pc' := 80) rfl rfl (by unfold mj_r; decide) ?_
        refine mr_const (pc' := 81) rfl rfl (by unfold mj_r; decide) ?_
        obtain ⟨h0, h1, h2, h⟩ := h
        refine mr_call (t := [(9, 0)]) (pc' := 84) rfl [.inr (.inl 0), .inl 1, .inl (z_cd (σ3 4) x2), .inl 0, .inl 0] rfl rfl rfl (mj_recvV rfl) (Nat.le_of_ble_eq_true rfl) (s_m24 h0 h1 h2 (fun σ4 e9 => ?_))
        replace h := h σ4 e9
        exact mr_ret rfl rfl h
    · replace h := h.2 c
      refine mr_aload (pc' := 38) rfl rfl rfl ?_
      refine mr_const (pc' := 39) rfl rfl (by unfold mj_r; decide) ?_
      refine mr_aload (pc' := 40) rfl rfl rfl ?_
      refine mr_iload (pc' := 41) rfl rfl rfl ?_
      obtain ⟨h0, h⟩ := h
      refine mr_call (t := [(9, 0)]) (pc' := 44) rfl [.inr (.inl 0), .inl x2] rfl rfl rfl (mj_recvV rfl) (Nat.le_of_ble_eq_true rfl) (s_m5 h0 ?_)
      refine mr_const (pc' := 45) rfl rfl (by unfold mj_r; decide) ?_
      refine mr_iload (pc' := 46) rfl rfl rfl ?_
      obtain ⟨h0, h1, h2, h⟩ := h
      refine mr_call (t := [(9, 0)]) (pc' := 49) rfl [.inr (.inl 0), .inl 1, .inl (z_cd (σ 4) x2), .inl 0, .inl x3] rfl rfl rfl (mj_recvV rfl) (Nat.le_of_ble_eq_true rfl) (s_m24 h0 h1 h2 (fun σ5 e9 => ?_))
      replace h := h σ5 e9
      refine mr_goto rfl ?_
      exact mr_ret rfl rfl h
  · replace h := h.2 (bo_0 c)
    refine mr_aload (pc' := 8) rfl rfl rfl ?_
    refine mr_iload (pc' := 9) rfl rfl rfl ?_
    refine mr_const (pc' := 11) rfl rfl (by unfold mj_r; decide) ?_
    refine mr_ic_ne (pc' := 14) rfl rfl (fun c => ?_) (fun c => ?_)
    · replace h := h.1 c
      refine mr_const (pc' := 21) rfl rfl (by unfold mj_r; decide) ?_
      obtain ⟨h0, h1, h⟩ := h
      refine mr_call (t := [(9, 0)]) (pc' := 24) rfl [.inr (.inl 0), .inl 268435456] rfl rfl rfl (mj_recvV rfl) (Nat.le_of_ble_eq_true rfl) (s_m38 h0 h1 (fun σ6 e9 => ?_))
      replace h := h σ6 e9
      refine mr_goto rfl ?_
      exact mr_ret rfl rfl h
    · replace h := h.2 c
      refine mr_const (pc' := 16) rfl rfl (by unfold mj_r; decide) ?_
      refine mr_goto rfl ?_
      obtain ⟨h0, h1, h⟩ := h
      refine mr_call (t := [(9, 0)]) (pc' := 24) rfl [.inr (.inl 0), .inl 268435457] rfl rfl rfl (mj_recvV rfl) (Nat.le_of_ble_eq_true rfl) (s_m38 h0 h1 (fun σ7 e9 => ?_))
      replace h := h σ7 e9
      refine mr_goto rfl ?_
      exact mr_ret rfl rfl h
set_option maxRecDepth 20000 in
/-- ListSpeakerModel.evaluate_ -/
theorem wq_m46 {d : Nat} {σ : mj_S} {Q : mj_Q} {x1 x2 : Int} (h : (536870912 ≤ x1 → z_pr x1 ∧ mj_r ((z_cd (σ 4) x1) - 268435456) ∧ z_pr x1 ∧ mj_B mjm_L mjm_Ms (d + 2) 7 [.inr (.inl 0), .inl (z_cd (σ 5) x1)] σ (fun r σ1 => ∃ v2, r = some (.inl v2) ∧ (¬ ((z_cd (σ 4) x1) - 268435456) = 2 → (¬ ((z_cd (σ 4) x1) - 268435456) = 3 → (¬ ((z_cd (σ 4) x1) - 268435456) = 4 → (¬ ((z_cd (σ 4) x1) - 268435456) = 5 → (((z_cd (σ 4) x1) - 268435456) = 6 → (¬ ((z_cd (σ 4) x1) - 268435456) = 6 → mj_B mjm_L mjm_Ms (d + 2) 45 [.inr (.inl 0), .inl 10, .inl (z_cd (σ 5) x1), .inl x2] σ1 (fun r σ3 => r = none ∧ Q none σ3)) ∧ (((z_cd (σ 4) x1) - 268435456) = 6 → mj_B mjm_L mjm_Ms (d + 2) 45 [.inr (.inl 0), .inl 8, .inl (z_cd (σ 5) x1), .inl x2] σ1 (fun r σ4 => r = none ∧ Q none σ4))) ∧ (¬ ((z_cd (σ 4) x1) - 268435456) = 6 → (¬ ((z_cd (σ 4) x1) - 268435456) = 7 → (¬ ((z_cd (σ 4) x1) - 268435456) = 8 → (((z_cd (σ 4) x1) - 268435456) < 10 → z_pr x1 ∧ 0 ≤ σ1 0 26 ∧ σ1 0 26 < 3000 ∧ mj_fit .boolean x2 ∧ ∀ σ5, σ5 = z_la σ1 14 (z_cd (σ1 4) x1) v2 x2 → 0 ≤ σ5 0 26 ∧ σ5 0 26 < 3000 ∧ mj_fit .boolean 0 ∧ ∀ σ6, σ6 = z_la σ5 2 (z_cd (σ 5) x1) 0 0 → Q none σ6) ∧ (10 ≤ ((z_cd (σ 4) x1) - 268435456) → (20 < ((z_cd (σ 4) x1) - 268435456) → z_pr x1 ∧ 0 ≤ σ1 0 26 ∧ σ1 0 26 < 3000 ∧ mj_fit .boolean x2 ∧ ∀ σ7, σ7 = z_la σ1 14 (z_cd (σ1 4) x1) v2 x2 → 0 ≤ σ7 0 26 ∧ σ7 0 26 < 3000 ∧ mj_fit .boolean 0 ∧ ∀ σ8, σ8 = z_la σ7 2 (z_cd (σ 5) x1) 0 0 → Q none σ8) ∧ (((z_cd (σ 4) x1) - 268435456) ≤ 20 → 0 ≤ σ1 0 26 ∧ σ1 0 26 < 3000 ∧ mj_fit .boolean 0 ∧ ∀ σ9, σ9 = z_la σ1 13 268435456 ((z_cd (σ 4) x1) - 268435456) 0 → 0 ≤ σ9 0 26 ∧ σ9 0 26 < 3000 ∧ mj_fit .boolean 0 ∧ ∀ σ10, σ10 = z_la σ9 2 (z_cd (σ 5) x1) 0 0 → Q none σ10))) ∧ (((z_cd (σ 4) x1) - 268435456) = 8 → 0 ≤ σ1 0 26 ∧ σ1 0 26 < 3000 ∧ mj_fit .boolean 0 ∧ ∀ σ11, σ11 = z_la σ1 12 268435456 v2 0 → 0 ≤ σ11 0 26 ∧ σ11 0 26 < 3000 ∧ mj_fit .boolean 0 ∧ ∀ σ12, σ12 = z_la σ11 2 (z_cd (σ 5) x1) 0 0 → Q none σ12)) ∧ (((z_cd (σ 4) x1) - 268435456) = 7 → (¬ ((z_cd (σ 4) x1) - 268435456) = 6 → mj_B mjm_L mjm_Ms (d + 2) 45 [.inr (.inl 0), .inl 10, .inl (z_cd (σ 5) x1), .inl x2] σ1 (fun r σ13 => r = none ∧ Q none σ13)) ∧ (((z_cd (σ 4) x1) - 268435456) = 6 → mj_B mjm_L mjm_Ms (d + 2) 45 [.inr (.inl 0), .inl 8, .inl (z_cd (σ 5) x1), .inl x2] σ1 (fun r σ14 => r = none ∧ Q none σ14))))) ∧ (((z_cd (σ 4) x1) - 268435456) = 5 → 0 ≤ σ1 0 26 ∧ σ1 0 26 < 3000 ∧ mj_fit .boolean x2 ∧ ∀ σ15, σ15 = z_la σ1 6 (z_cd (σ 5) x1) 0 x2 → Q none σ15)) ∧ (((z_cd (σ 4) x1) - 268435456) = 4 → z_pr (z_cd (σ 5) x1) ∧ mj_B mjm_L mjm_Ms (d + 2) 7 [.inr (.inl 0), .inl (z_cd (σ1 4) (z_cd (σ 5) x1))] σ1 (fun r σ16 => ∃ v17, r = some (.inl v17) ∧ 0 ≤ σ16 0 26 ∧ σ16 0 26 < 3000 ∧ mj_fit .boolean x2 ∧ ∀ σ18, σ18 = z_la σ16 4 x1 v17 x2 → z_pr (z_cd (σ 5) x1) ∧ 0 ≤ σ18 0 26 ∧ σ18 0 26 < 3000 ∧ mj_fit .boolean 0 ∧ ∀ σ19, σ19 = z_la σ18 2 (z_cd (σ18 4) (z_cd (σ 5) x1)) 1 0 → Q none σ19))) ∧ (((z_cd (σ 4) x1) - 268435456) = 3 → 0 ≤ σ1 0 26 ∧ σ1 0 26 < 3000 ∧ mj_fit .boolean x2 ∧ ∀ σ20, σ20 = z_la σ1 3 x1 0 x2 → z_pr (z_cd (σ 5) x1) ∧ 0 ≤ σ20 0 26 ∧ σ20 0 26 < 3000 ∧ mj_fit .boolean 0 ∧ ∀ σ21, σ21 = z_la σ20 1 (z_cd (σ20 4) (z_cd (σ 5) x1)) 0 0 → Q none σ21)) ∧ (((z_cd (σ 4) x1) - 268435456) = 2 → z_pr (z_cd (σ 5) x1) ∧ 0 ≤ σ1 0 31 ∧ σ1 0 31 ≤ 100 ∧ ∀ σ22, σ22 = z_pu σ1 (z_cd (σ1 4) (z_cd (σ 5) x1)) → Q none σ22))) ∧ (¬ (536870912 ≤ x1) → (¬ (268435456 ≤ x1 ∧ x1 < 536870912) → 0 ≤ σ 0 31 ∧ σ 0 31 ≤ 100 ∧ ∀ σ23, σ23 = z_pu σ x1 → Q none σ23) ∧ (268435456 ≤ x1 ∧ x1 < 536870912 → (x1 = 268435456 → 0 ≤ σ 0 31 ∧ σ 0 31 ≤ 100 ∧ ∀ σ24, σ24 = z_pu σ x1 → Q none σ24) ∧ (¬ x1 = 268435456 → (¬ x1 = 268435457 → mj_B mjm_L mjm_Ms (d + 2) 26 [.inr (.inl 0), .inl x1] σ (fun r σ25 => ∃ v26, r = some (.inl v26) ∧ 0 ≤ v26 ∧ v26 < 100 ∧ 0 ≤ σ25 0 31 ∧ σ25 0 31 ≤ 100 ∧ ∀ σ27, σ27 = z_pu σ25 (σ25 20 v26.toNat) → Q none σ27)) ∧ (x1 = 268435457 → 0 ≤ σ 0 31 ∧ σ 0 31 ≤ 100 ∧ ∀ σ28, σ28 = z_pu σ x1 → Q none σ28))))) : mj_B mjm_L mjm_Ms (d + 3) 46 [.inr (.inl 0), .inl x1, .inl x2] σ Q := by
  refine mj_B_of (M := mjmM46) (ls := [some (.inr (.inl 0)), some (.inl x1), some (.inl x2), none, none, none]) rfl (mj_c1_all rfl) (Nat.le_of_ble_eq_true rfl) rfl ?_
  refine mr_iload (pc' := 1) rfl rfl rfl ?_
  refine mr_call (t := []) (pc' := 4) rfl [.inl x1] rfl rfl rfl trivial (Nat.le_of_ble_eq_true rfl) (s_m3  ?_)
  refine mr_if_ne (pc' := 7) rfl rfl (fun c => ?_) (fun c => ?_)
  · replace h := h.1 (bo_1 c)
    refine mr_aload (pc' := 46) rfl rfl rfl ?_
    refine mr_iload (pc' := 47) rfl rfl rfl ?_
    obtain ⟨h0, h⟩ := h
    refine mr_call (t := [(9, 0)]) (pc' := 50) rfl [.inr (.inl 0), .inl x1] rfl rfl rfl (mj_recvV rfl) (Nat.le_of_ble_eq_true rfl) (s_m5 h0 ?_)
    refine mr_const (pc' := 52) rfl rfl (by unfold mj_r; decide) ?_
    obtain ⟨h0, h⟩ := h
    refine mr_isub (pc' := 53) rfl rfl h0 ?_
    refine mr_istore (pc' := 54) rfl rfl trivial (Nat.le_of_ble_eq_true rfl) rfl ?_
    refine mr_aload (pc' := 55) rfl rfl rfl ?_
    refine mr_iload (pc' := 56) rfl rfl rfl ?_
    obtain ⟨h0, h⟩ := h
    refine mr_call (t := [(9, 0)]) (pc' := 59) rfl [.inr (.inl 0), .inl x1] rfl rfl rfl (mj_recvV rfl) (Nat.le_of_ble_eq_true rfl) (s_m6 h0 ?_)
    refine mr_istore (pc' := 61) rfl rfl trivial (Nat.le_of_ble_eq_true rfl) rfl ?_
    refine mr_aload (pc' := 62) rfl rfl rfl ?_
    refine mr_iload (pc' := 64) rfl rfl rfl ?_
    refine mr_call (t := [(9, 0)]) (pc' := 67) rfl [.inr (.inl 0), .inl (z_cd (σ 5) x1)] rfl rfl rfl (mj_recvV rfl) (Nat.le_of_ble_eq_true rfl) (mj_B_mono _ _ _ _ _ _ (fun r σ1 h => ?_) h)
    obtain ⟨v2, rfl, h⟩ := h
    refine mr_istore (pc' := 69) rfl rfl trivial (Nat.le_of_ble_eq_true rfl) rfl ?_
    refine mr_iload (pc' := 70) rfl rfl rfl ?_
    refine mr_const (pc' := 71) rfl rfl (by unfold mj_r; decide) ?_
    refine mr_ic_ne (pc' := 74) rfl rfl (fun c => ?_) (fun c => ?_)
    · replace h := h.1 c
      refine mr_iload (pc' := 88) rfl rfl rfl ?_
      refine mr_const (pc' := 89) rfl rfl (by unfold mj_r; decide) ?_
      refine mr_ic_ne (pc' := 92) rfl rfl (fun c => ?_) (fun c => ?_)
      · replace h := h.1 c
        refine mr_iload (pc' := 117) rfl rfl rfl ?_
        refine mr_const (pc' := 118) rfl rfl (by unfold mj_r; decide) ?_
        refine mr_ic_ne (pc' := 121) rfl rfl (fun c => ?_) (fun c => ?_)
        · replace h := h.1 c
          refine mr_iload (pc' := 155) rfl rfl rfl ?_
          refine mr_const (pc' := 156) rfl rfl (by unfold mj_r; decide) ?_
          refine mr_ic_ne (pc' := 159) rfl rfl (fun c => ?_) (fun c => ?_)
          · replace h := h.1 c
            refine mr_iload (pc' := 173) rfl rfl rfl ?_
            refine mr_const (pc' := 175) rfl rfl (by unfold mj_r; decide) ?_
            refine mr_ic_eq (pc' := 178) rfl rfl (fun c => ?_) (fun c => ?_)
            · replace h := h.1 c
              refine mr_aload (pc' := 185) rfl rfl rfl ?_
              refine mr_iload (pc' := 186) rfl rfl rfl ?_
              refine mr_const (pc' := 188) rfl rfl (by unfold mj_r; decide) ?_
              refine mr_ic_ne (pc' := 191) rfl rfl (fun c => ?_) (fun c => ?_)
              · replace h := h.1 c
                refine mr_const (pc' := 198) rfl rfl (by unfold mj_r; decide) ?_
                refine mr_iload (pc' := 200) rfl rfl rfl ?_
                refine mr_iload (pc' := 201) rfl rfl rfl ?_
                refine mr_call (t := [(9, 0)]) (pc' := 204) rfl [.inr (.inl 0), .inl 10, .inl (z_cd (σ 5) x1), .inl x2] rfl rfl rfl (mj_recvV rfl) (Nat.le_of_ble_eq_true rfl) (mj_B_mono _ _ _ _ _ _ (fun r σ3 h => ?_) h)
                obtain ⟨rfl, h⟩ := h
                refine mr_goto rfl ?_
                exact mr_ret rfl rfl h
              · replace h := h.2 c
                refine mr_const (pc' := 193) rfl rfl (by unfold mj_r; decide) ?_
                refine mr_goto rfl ?_
                refine mr_iload (pc' := 200) rfl rfl rfl ?_
                refine mr_iload (pc' := 201) rfl rfl rfl ?_
                refine mr_call (t := [(9, 0)]) (pc' := 204) rfl [.inr (.inl 0), .inl 8, .inl (z_cd (σ 5) x1), .inl x2] rfl rfl rfl (mj_recvV rfl) (Nat.le_of_ble_eq_true rfl) (mj_B_mono _ _ _ _ _ _ (fun r σ4 h => ?_) h)
                obtain ⟨rfl, h⟩ := h
                refine mr_goto rfl ?_
                exact mr_ret rfl rfl h
            · replace h := h.2 c
              refine mr_iload (pc' := 179) rfl rfl rfl ?_
              refine mr_const (pc' := 181) rfl rfl (by unfold mj_r; decide) ?_
              refine mr_ic_ne (pc' := 184) rfl rfl (fun c => ?_) (fun c => ?_)
              · replace h := h.1 c
                refine mr_iload (pc' := 208) rfl rfl rfl ?_
                refine mr_const (pc' := 210) rfl rfl (by unfold mj_r; decide) ?_
                refine mr_ic_ne (pc' := 213) rfl rfl (fun c => ?_) (fun c => ?_)
                · replace h := h.1 c
                  refine mr_iload (pc' := 228) rfl rfl rfl ?_
                  refine mr_const (pc' := 230) rfl rfl (by unfold mj_r; decide) ?_
                  refine mr_ic_lt (pc' := 233) rfl rfl (fun c => ?_) (fun c => ?_)
                  · replace h := h.1 c
                    refine mr_aload (pc' := 253) rfl rfl rfl ?_
                    refine mr_const (pc' := 255) rfl rfl (by unfold mj_r; decide) ?_
                    refine mr_aload (pc' := 256) rfl rfl rfl ?_
                    refine mr_iload (pc' := 257) rfl rfl rfl ?_
                    obtain ⟨h0, h⟩ := h
                    refine mr_call (t := [(9, 0)]) (pc' := 260) rfl [.inr (.inl 0), .inl x1] rfl rfl rfl (mj_recvV rfl) (Nat.le_of_ble_eq_true rfl) (s_m5 h0 ?_)
                    refine mr_iload (pc' := 262) rfl rfl rfl ?_
                    refine mr_iload (pc' := 263) rfl rfl rfl ?_
                    obtain ⟨h0, h1, h2, h⟩ := h
                    refine mr_call (t := [(9, 0)]) (pc' := 266) rfl [.inr (.inl 0), .inl 14, .inl (z_cd (σ1 4) x1), .inl v2, .inl x2] rfl rfl rfl (mj_recvV rfl) (Nat.le_of_ble_eq_true rfl) (s_m24 h0 h1 h2 (fun σ5 e9 => ?_))
                    replace h := h σ5 e9
                    refine mr_aload (pc' := 267) rfl rfl rfl ?_
                    refine mr_const (pc' := 268) rfl rfl (by unfold mj_r; decide) ?_
                    refine mr_iload (pc' := 270) rfl rfl rfl ?_
                    refine mr_const (pc' := 271) rfl rfl (by unfold mj_r; decide) ?_
                    refine mr_const (pc' := 272) rfl rfl (by unfold mj_r; decide) ?_
                    obtain ⟨h0, h1, h2, h⟩ := h
                    refine mr_call (t := [(9, 0)]) (pc' := 275) rfl [.inr (.inl 0), .inl 2, .inl (z_cd (σ 5) x1), .inl 0, .inl 0] rfl rfl rfl (mj_recvV rfl) (Nat.le_of_ble_eq_true rfl) (s_m24 h0 h1 h2 (fun σ6 e9 => ?_))
                    replace h := h σ6 e9
                    exact mr_ret rfl rfl h
                  · replace h := h.2 c
                    refine mr_iload (pc' := 234) rfl rfl rfl ?_
                    refine mr_const (pc' := 236) rfl rfl (by unfold mj_r; decide) ?_
                    refine mr_ic_gt (pc' := 239) rfl rfl (fun c => ?_) (fun c => ?_)
                    · replace h := h.1 c
                      refine mr_aload (pc' := 253) rfl rfl rfl ?_
                      refine mr_const (pc' := 255) rfl rfl (by unfold mj_r; decide) ?_
                      refine mr_aload (pc' := 256) rfl rfl rfl ?_
                      refine mr_iload (pc' := 257) rfl rfl rfl ?_
                      obtain ⟨h0, h⟩ := h
                      refine mr_call (t := [(9, 0)]) (pc' := 260) rfl [.inr (.inl 0), .inl x1] rfl rfl rfl (mj_recvV rfl) (Nat.le_of_ble_eq_true rfl) (s_m5 h0 ?_)
                      refine mr_iload (pc' := 262) rfl rfl rfl ?_
                      refine mr_iload (pc' := 263) rfl rfl rfl ?_
                      obtain ⟨h0, h1, h2, h⟩ := h
                      refine mr_call (t := [(9, 0)]) (pc' := 266) rfl [.inr (.inl 0), .inl 14, .inl (z_cd (σ1 4) x1), .inl v2, .inl x2] rfl rfl rfl (mj_recvV rfl) (Nat.le_of_ble_eq_true rfl) (s_m24 h0 h1 h2 (fun σ7 e9 => ?_))
                      replace h := h σ7 e9
                      refine mr_aload (pc' := 267) rfl rfl rfl ?_
                      refine mr_const (pc' := 268) rfl rfl (by unfold mj_r; decide) ?_
                      refine mr_iload (pc' := 270) rfl rfl rfl ?_
                      refine mr_const (pc' := 271) rfl rfl (by unfold mj_r; decide) ?_
                      refine mr_const (pc' := 272) rfl rfl (by unfold mj_r; decide) ?_
                      obtain ⟨h0, h1, h2, h⟩ := h
                      refine mr_call (t := [(9, 0)]) (pc' := 275) rfl [.inr (.inl 0), .inl 2, .inl (z_cd (σ 5) x1), .inl 0, .inl 0] rfl rfl rfl (mj_recvV rfl) (Nat.le_of_ble_eq_true rfl) (s_m24 h0 h1 h2 (fun σ8 e9 => ?_))
                      replace h := h σ8 e9
                      exact mr_ret rfl rfl h
                    · replace h := h.2 c
                      refine mr_aload (pc' := 240) rfl rfl rfl ?_
                      refine mr_const (pc' := 242) rfl rfl (by unfold mj_r; decide) ?_
                      refine mr_const (pc' := 244) rfl rfl (by unfold mj_r; decide) ?_
                      refine mr_iload (pc' := 245) rfl rfl rfl ?_
                      refine mr_const (pc' := 246) rfl rfl (by unfold mj_r; decide) ?_
                      obtain ⟨h0, h1, h2, h⟩ := h
                      refine mr_call (t := [(9, 0)]) (pc' := 249) rfl [.inr (.inl 0), .inl 13, .inl 268435456, .inl ((z_cd (σ 4) x1) - 268435456), .inl 0] rfl rfl rfl (mj_recvV rfl) (Nat.le_of_ble_eq_true rfl) (s_m24 h0 h1 h2 (fun σ9 e9 => ?_))
                      replace h := h σ9 e9
                      refine mr_goto rfl ?_
                      refine mr_aload (pc' := 267) rfl rfl rfl ?_
                      refine mr_const (pc' := 268) rfl rfl (by unfold mj_r; decide) ?_
                      refine mr_iload (pc' := 270) rfl rfl rfl ?_
                      refine mr_const (pc' := 271) rfl rfl (by unfold mj_r; decide) ?_
                      refine mr_const (pc' := 272) rfl rfl (by unfold mj_r; decide) ?_
                      obtain ⟨h0, h1, h2, h⟩ := h
                      refine mr_call (t := [(9, 0)]) (pc' := 275) rfl [.inr (.inl 0), .inl 2, .inl (z_cd (σ 5) x1), .inl 0, .inl 0] rfl rfl rfl (mj_recvV rfl) (Nat.le_of_ble_eq_true rfl) (s_m24 h0 h1 h2 (fun σ10 e9 => ?_))
                      replace h := h σ10 e9
                      exact mr_ret rfl rfl h
                · replace h := h.2 c
                  refine mr_aload (pc' := 214) rfl rfl rfl ?_
                  refine mr_const (pc' := 216) rfl rfl (by unfold mj_r; decide) ?_
                  refine mr_const (pc' := 218) rfl rfl (by unfold mj_r; decide) ?_
                  refine mr_iload (pc' := 220) rfl rfl rfl ?_
                  refine mr_const (pc' := 221) rfl rfl (by unfold mj_r; decide) ?_
                  obtain ⟨h0, h1, h2, h⟩ := h
                  refine mr_call (t := [(9, 0)]) (pc' := 224) rfl [.inr (.inl 0), .inl 12, .inl 268435456, .inl v2, .inl 0] rfl rfl rfl (mj_recvV rfl) (Nat.le_of_ble_eq_true rfl) (s_m24 h0 h1 h2 (fun σ11 e9 => ?_))
                  replace h := h σ11 e9
                  refine mr_goto rfl ?_
                  refine mr_aload (pc' := 267) rfl rfl rfl ?_
                  refine mr_const (pc' := 268) rfl rfl (by unfold mj_r; decide) ?_
                  refine mr_iload (pc' := 270) rfl rfl rfl ?_
                  refine mr_const (pc' := 271) rfl rfl (by unfold mj_r; decide) ?_
                  refine mr_const (pc' := 272) rfl rfl (by unfold mj_r; decide) ?_
                  obtain ⟨h0, h1, h2, h⟩ := h
                  refine mr_call (t := [(9, 0)]) (pc' := 275) rfl [.inr (.inl 0), .inl 2, .inl (z_cd (σ 5) x1), .inl 0, .inl 0] rfl rfl rfl (mj_recvV rfl) (Nat.le_of_ble_eq_true rfl) (s_m24 h0 h1 h2 (fun σ12 e9 => ?_))
                  replace h := h σ12 e9
                  exact mr_ret rfl rfl h
              · replace h := h.2 c
                refine mr_aload (pc' := 185) rfl rfl rfl ?_
                refine mr_iload (pc' := 186) rfl rfl rfl ?_
                refine mr_const (pc' := 188) rfl rfl (by unfold mj_r; decide) ?_
                refine mr_ic_ne (pc' := 191) rfl rfl (fun c => ?_) (fun c => ?_)
                · replace h := h.1 c
                  refine mr_const (pc' := 198) rfl rfl (by unfold mj_r; decide) ?_
                  refine mr_iload (pc' := 200) rfl rfl rfl ?_
                  refine mr_iload (pc' := 201) rfl rfl rfl ?_
                  refine mr_call (t := [(9, 0)]) (pc' := 204) rfl [.inr (.inl 0), .inl 10, .inl (z_cd (σ 5) x1), .inl x2] rfl rfl rfl (mj_recvV rfl) (Nat.le_of_ble_eq_true rfl) (mj_B_mono _ _ _ _ _ _ (fun r σ13 h => ?_) h)
                  obtain ⟨rfl, h⟩ := h
                  refine mr_goto rfl ?_
                  exact mr_ret rfl rfl h
                · replace h := h.2 c
                  refine mr_const (pc' := 193) rfl rfl (by unfold mj_r; decide) ?_
                  refine mr_goto rfl ?_
                  refine mr_iload (pc' := 200) rfl rfl rfl ?_
                  refine mr_iload (pc' := 201) rfl rfl rfl ?_
                  refine mr_call (t := [(9, 0)]) (pc' := 204) rfl [.inr (.inl 0), .inl 8, .inl (z_cd (σ 5) x1), .inl x2] rfl rfl rfl (mj_recvV rfl) (Nat.le_of_ble_eq_true rfl) (mj_B_mono _ _ _ _ _ _ (fun r σ14 h => ?_) h)
                  obtain ⟨rfl, h⟩ := h
                  refine mr_goto rfl ?_
                  exact mr_ret rfl rfl h
          · replace h := h.2 c
            refine mr_aload (pc' := 160) rfl rfl rfl ?_
            refine mr_const (pc' := 162) rfl rfl (by unfold mj_r; decide) ?_
            refine mr_iload (pc' := 164) rfl rfl rfl ?_
            refine mr_const (pc' := 165) rfl rfl (by unfold mj_r; decide) ?_
            refine mr_iload (pc' := 166) rfl rfl rfl ?_
            obtain ⟨h0, h1, h2, h⟩ := h
            refine mr_call (t := [(9, 0)]) (pc' := 169) rfl [.inr (.inl 0), .inl 6, .inl (z_cd (σ 5) x1), .inl 0, .inl x2] rfl rfl rfl (mj_recvV rfl) (Nat.le_of_ble_eq_true rfl) (s_m24 h0 h1 h2 (fun σ15 e9 => ?_))
            replace h := h σ15 e9
            refine mr_goto rfl ?_
            exact mr_ret rfl rfl h
        · replace h := h.2 c
          refine mr_aload (pc' := 122) rfl rfl rfl ?_
          refine mr_const (pc' := 123) rfl rfl (by unfold mj_r; decide) ?_
          refine mr_iload (pc' := 124) rfl rfl rfl ?_
          refine mr_aload (pc' := 125) rfl rfl rfl ?_
          refine mr_aload (pc' := 126) rfl rfl rfl ?_
          refine mr_iload (pc' := 128) rfl rfl rfl ?_
          obtain ⟨h0, h⟩ := h
          refine mr_call (t := [(9, 0)]) (pc' := 131) rfl [.inr (.inl 0), .inl (z_cd (σ 5) x1)] rfl rfl rfl (mj_recvV rfl) (Nat.le_of_ble_eq_true rfl) (s_m5 h0 ?_)
          refine mr_call (t := [(9, 0)]) (pc' := 134) rfl [.inr (.inl 0), .inl (z_cd (σ1 4) (z_cd (σ 5) x1))] rfl rfl rfl (mj_recvV rfl) (Nat.le_of_ble_eq_true rfl) (mj_B_mono _ _ _ _ _ _ (fun r σ16 h => ?_) h)
          obtain ⟨v17, rfl, h⟩ := h
          refine mr_iload (pc' := 135) rfl rfl rfl ?_
          obtain ⟨h0, h1, h2, h⟩ := h
          refine mr_call (t := [(9, 0)]) (pc' := 138) rfl [.inr (.inl 0), .inl 4, .inl x1, .inl v17, .inl x2] rfl rfl rfl (mj_recvV rfl) (Nat.le_of_ble_eq_true rfl) (s_m24 h0 h1 h2 (fun σ18 e9 => ?_))
          replace h := h σ18 e9
          refine mr_aload (pc' := 139) rfl rfl rfl ?_
          refine mr_const (pc' := 140) rfl rfl (by unfold mj_r; decide) ?_
          refine mr_aload (pc' := 141) rfl rfl rfl ?_
          refine mr_iload (pc' := 143) rfl rfl rfl ?_
          obtain ⟨h0, h⟩ := h
          refine mr_call (t := [(9, 0)]) (pc' := 146) rfl [.inr (.inl 0), .inl (z_cd (σ 5) x1)] rfl rfl rfl (mj_recvV rfl) (Nat.le_of_ble_eq_true rfl) (s_m5 h0 ?_)
          refine mr_const (pc' := 147) rfl rfl (by unfold mj_r; decide) ?_
          refine mr_const (pc' := 148) rfl rfl (by unfold mj_r; decide) ?_
          obtain ⟨h0, h1, h2, h⟩ := h
          refine mr_call (t := [(9, 0)]) (pc' := 151) rfl [.inr (.inl 0), .inl 2, .inl (z_cd (σ18 4) (z_cd (σ 5) x1)), .inl 1, .inl 0] rfl rfl rfl (mj_recvV rfl) (Nat.le_of_ble_eq_true rfl) (s_m24 h0 h1 h2 (fun σ19 e9 => ?_))
          replace h := h σ19 e9
          refine mr_goto rfl ?_
          exact mr_ret rfl rfl h
      · replace h := h.2 c
        refine mr_aload (pc' := 93) rfl rfl rfl ?_
        refine mr_const (pc' := 94) rfl rfl (by unfold mj_r; decide) ?_
        refine mr_iload (pc' := 95) rfl rfl rfl ?_
        refine mr_const (pc' := 96) rfl rfl (by unfold mj_r; decide) ?_
        refine mr_iload (pc' := 97) rfl rfl rfl ?_
        obtain ⟨h0, h1, h2, h⟩ := h
        refine mr_call (t := [(9, 0)]) (pc' := 100) rfl [.inr (.inl 0), .inl 3, .inl x1, .inl 0, .inl x2] rfl rfl rfl (mj_recvV rfl) (Nat.le_of_ble_eq_true rfl) (s_m24 h0 h1 h2 (fun σ20 e9 => ?_))
        replace h := h σ20 e9
        refine mr_aload (pc' := 101) rfl rfl rfl ?_
        refine mr_const (pc' := 102) rfl rfl (by unfold mj_r; decide) ?_
        refine mr_aload (pc' := 103) rfl rfl rfl ?_
        refine mr_iload (pc' := 105) rfl rfl rfl ?_
        obtain ⟨h0, h⟩ := h
        refine mr_call (t := [(9, 0)]) (pc' := 108) rfl [.inr (.inl 0), .inl (z_cd (σ 5) x1)] rfl rfl rfl (mj_recvV rfl) (Nat.le_of_ble_eq_true rfl) (s_m5 h0 ?_)
        refine mr_const (pc' := 109) rfl rfl (by unfold mj_r; decide) ?_
        refine mr_const (pc' := 110) rfl rfl (by unfold mj_r; decide) ?_
        obtain ⟨h0, h1, h2, h⟩ := h
        refine mr_call (t := [(9, 0)]) (pc' := 113) rfl [.inr (.inl 0), .inl 1, .inl (z_cd (σ20 4) (z_cd (σ 5) x1)), .inl 0, .inl 0] rfl rfl rfl (mj_recvV rfl) (Nat.le_of_ble_eq_true rfl) (s_m24 h0 h1 h2 (fun σ21 e9 => ?_))
        replace h := h σ21 e9
        refine mr_goto rfl ?_
        exact mr_ret rfl rfl h
    · replace h := h.2 c
      refine mr_aload (pc' := 75) rfl rfl rfl ?_
      refine mr_aload (pc' := 76) rfl rfl rfl ?_
      refine mr_iload (pc' := 78) rfl rfl rfl ?_
      obtain ⟨h0, h⟩ := h
      refine mr_call (t := [(9, 0)]) (pc' := 81) rfl [.inr (.inl 0), .inl (z_cd (σ 5) x1)] rfl rfl rfl (mj_recvV rfl) (Nat.le_of_ble_eq_true rfl) (s_m5 h0 ?_)
      obtain ⟨h0, h1, h⟩ := h
      refine mr_call (t := [(9, 0)]) (pc' := 84) rfl [.inr (.inl 0), .inl (z_cd (σ1 4) (z_cd (σ 5) x1))] rfl rfl rfl (mj_recvV rfl) (Nat.le_of_ble_eq_true rfl) (s_m38 h0 h1 (fun σ22 e9 => ?_))
      replace h := h σ22 e9
      refine mr_goto rfl ?_
      exact mr_ret rfl rfl h
  · replace h := h.2 (bo_0 c)
    refine mr_aload (pc' := 8) rfl rfl rfl ?_
    refine mr_iload (pc' := 9) rfl rfl rfl ?_
    refine mr_call (t := []) (pc' := 12) rfl [.inl x1] rfl rfl rfl trivial (Nat.le_of_ble_eq_true rfl) (s_m4  ?_)
    refine mr_if_eq (pc' := 15) rfl rfl (fun c => ?_) (fun c => ?_)
    · replace h := h.1 (bo_0 c)
      refine mr_iload (pc' := 28) rfl rfl rfl ?_
      refine mr_goto rfl ?_
      obtain ⟨h0, h1, h⟩ := h
      refine mr_call (t := [(9, 0)]) (pc' := 44) rfl [.inr (.inl 0), .inl x1] rfl rfl rfl (mj_recvV rfl) (Nat.le_of_ble_eq_true rfl) (s_m38 h0 h1 (fun σ23 e9 => ?_))
      replace h := h σ23 e9
      exact mr_ret rfl rfl h
    · replace h := h.2 (bo_1 c)
      refine mr_iload (pc' := 16) rfl rfl rfl ?_
      refine mr_const (pc' := 18) rfl rfl (by unfold mj_r; decide) ?_
      refine mr_ic_eq (pc' := 21) rfl rfl (fun c => ?_) (fun c => ?_)
      · replace h := h.1 c
        refine mr_iload (pc' := 28) rfl rfl rfl ?_
        refine mr_goto rfl ?_
        obtain ⟨h0, h1, h⟩ := h
        refine mr_call (t := [(9, 0)]) (pc' := 44) rfl [.inr (.inl 0), .inl x1] rfl rfl rfl (mj_recvV rfl) (Nat.le_of_ble_eq_true rfl) (s_m38 h0 h1 (fun σ24 e9 => ?_))
        replace h := h σ24 e9
        exact mr_ret rfl rfl h
      · replace h := h.2 c
        refine mr_iload (pc' := 22) rfl rfl rfl ?_
        refine mr_const (pc' := 24) rfl rfl (by unfold mj_r; decide) ?_
        refine mr_ic_ne (pc' := 27) rfl rfl (fun c => ?_) (fun c => ?_)
        · replace h := h.1 c
          refine mr_aload (pc' := 32) rfl rfl rfl ?_
          refine mr_getr (ci := 0) (pc' := 35) rfl rfl rfl rfl ?_
          refine mr_aload (pc' := 36) rfl rfl rfl ?_
          refine mr_iload (pc' := 37) rfl rfl rfl ?_
          refine mr_call (t := [(9, 0)]) (pc' := 40) rfl [.inr (.inl 0), .inl x1] rfl rfl rfl (mj_recvV rfl) (Nat.le_of_ble_eq_true rfl) (mj_B_mono _ _ _ _ _ _ (fun r σ25 h => ?_) h)
          obtain ⟨v26, rfl, h⟩ := h
          obtain ⟨h0, h1, h⟩ := h
          refine mr_iald (pc' := 41) rfl rfl rfl h0 h1 ?_
          obtain ⟨h0, h1, h⟩ := h
          refine mr_call (t := [(9, 0)]) (pc' := 44) rfl [.inr (.inl 0), .inl (σ25 20 v26.toNat)] rfl rfl rfl (mj_recvV rfl) (Nat.le_of_ble_eq_true rfl) (s_m38 h0 h1 (fun σ27 e9 => ?_))
          replace h := h σ27 e9
          exact mr_ret rfl rfl h
        · replace h := h.2 c
          refine mr_iload (pc' := 28) rfl rfl rfl ?_
          refine mr_goto rfl ?_
          obtain ⟨h0, h1, h⟩ := h
          refine mr_call (t := [(9, 0)]) (pc' := 44) rfl [.inr (.inl 0), .inl x1] rfl rfl rfl (mj_recvV rfl) (Nat.le_of_ble_eq_true rfl) (s_m38 h0 h1 (fun σ28 e9 => ?_))
          replace h := h σ28 e9
          exact mr_ret rfl rfl h
def qh_m47_221 (d : Nat) (Q : mj_Q) (y1 y2 y3 y4 y5 y6 : Int) (σ : mj_S) : Prop := mj_P mjm_L mjm_Ms d mjmo47 ((Option.none : Option Jvm.ClassFile.FieldType)) Q 221 [some (.inr (.inl 0)), some (.inl y1), some (.inl y2), some (.inl y3), some (.inl y4), some (.inl y5), some (.inl y6)] [] σ
def qh_m47_50 (d : Nat) (Q : mj_Q) (y1 y2 y3 y4 y5 : Int) (σ : mj_S) : Prop := mj_P mjm_L mjm_Ms d mjmo47 ((Option.none : Option Jvm.ClassFile.FieldType)) Q 50 [some (.inr (.inl 0)), some (.inl y1), some (.inl y2), some (.inl y3), some (.inl y4), some (.inl y5), none] [] σ
def qh_m47_98 (d : Nat) (Q : mj_Q) (y1 y2 y3 y4 y5 : Int) (σ : mj_S) : Prop := mj_P mjm_L mjm_Ms d mjmo47 ((Option.none : Option Jvm.ClassFile.FieldType)) Q 98 [some (.inr (.inl 0)), some (.inl y1), some (.inl y2), some (.inl y3), some (.inl y4), some (.inl y5), none] [] σ
set_option maxRecDepth 20000 in
theorem qw_m47_221 {d : Nat} {Q : mj_Q} {y1 y2 y3 y4 y5 y6 : Int} {σ : mj_S} (h : (¬ (536870912 ≤ y6) → 0 ≤ y4 ∧ y4 < 16 ∧ 0 ≤ σ 0 26 ∧ σ 0 26 < 3000 ∧ mj_fit .boolean 1 ∧ ∀ σ1, σ1 = z_la σ 1 (σ 15 y4.toNat) 0 1 → Q none σ1) ∧ (536870912 ≤ y6 → z_pr y6 ∧ 0 ≤ σ 0 33 ∧ σ 0 33 < 400 ∧ ∀ σ2, σ2 = z_bi σ (z_cd (σ 4) y6) y5 → mj_r (y5 + 1) ∧ z_pr y6 ∧ qh_m47_221 (d + 2) Q y1 y2 y3 y4 (y5 + 1) (z_cd (σ2 5) y6) σ2)) : qh_m47_221 (d + 2) Q y1 y2 y3 y4 y5 y6 σ := by
  show mj_P mjm_L mjm_Ms (d + 2) mjmo47 ((Option.none : Option Jvm.ClassFile.FieldType)) Q 221 [some (.inr (.inl 0)), some (.inl y1), some (.inl y2), some (.inl y3), some (.inl y4), some (.inl y5), some (.inl y6)] [] σ
  refine mr_iload (pc' := 223) rfl rfl rfl ?_
  refine mr_call (t := []) (pc' := 226) rfl [.inl y6] rfl rfl rfl trivial (Nat.le_of_ble_eq_true rfl) (s_m3  ?_)
  refine mr_if_eq (pc' := 229) rfl rfl (fun c => ?_) (fun c => ?_)
  · replace h := h.1 (bo_0 c)
    refine mr_aload (pc' := 256) rfl rfl rfl ?_
    refine mr_const (pc' := 257) rfl rfl (by unfold mj_r; decide) ?_
    refine mr_aload (pc' := 258) rfl rfl rfl ?_
    refine mr_getr (ci := 0) (pc' := 261) rfl rfl rfl rfl ?_
    refine mr_iload (pc' := 263) rfl rfl rfl ?_
    obtain ⟨h0, h1, h⟩ := h
    refine mr_iald (pc' := 264) rfl rfl rfl h0 h1 ?_
    refine mr_const (pc' := 265) rfl rfl (by unfold mj_r; decide) ?_
    refine mr_const (pc' := 266) rfl rfl (by unfold mj_r; decide) ?_
    obtain ⟨h0, h1, h2, h⟩ := h
    refine mr_call (t := [(9, 0)]) (pc' := 269) rfl [.inr (.inl 0), .inl 1, .inl (σ 15 y4.toNat), .inl 0, .inl 1] rfl rfl rfl (mj_recvV rfl) (Nat.le_of_ble_eq_true rfl) (s_m24 h0 h1 h2 (fun σ1 e9 => ?_))
    replace h := h σ1 e9
    exact mr_ret rfl rfl h
  · replace h := h.2 (bo_1 c)
    refine mr_aload (pc' := 230) rfl rfl rfl ?_
    refine mr_aload (pc' := 231) rfl rfl rfl ?_
    refine mr_iload (pc' := 233) rfl rfl rfl ?_
    obtain ⟨h0, h⟩ := h
    refine mr_call (t := [(9, 0)]) (pc' := 236) rfl [.inr (.inl 0), .inl y6] rfl rfl rfl (mj_recvV rfl) (Nat.le_of_ble_eq_true rfl) (s_m5 h0 ?_)
    refine mr_iload (pc' := 238) rfl rfl rfl ?_
    obtain ⟨h0, h1, h⟩ := h
    refine mr_call (t := [(9, 0)]) (pc' := 241) rfl [.inr (.inl 0), .inl (z_cd (σ 4) y6), .inl y5] rfl rfl rfl (mj_recvV rfl) (Nat.le_of_ble_eq_true rfl) (s_m25 h0 h1 (fun σ2 e9 => ?_))
    replace h := h σ2 e9
    obtain ⟨h0, h⟩ := h
    refine mr_iinc (pc' := 244) rfl rfl rfl trivial h0 rfl ?_
    refine mr_aload (pc' := 245) rfl rfl rfl ?_
    refine mr_iload (pc' := 247) rfl rfl rfl ?_
    obtain ⟨h0, h⟩ := h
    refine mr_call (t := [(9, 0)]) (pc' := 250) rfl [.inr (.inl 0), .inl y6] rfl rfl rfl (mj_recvV rfl) (Nat.le_of_ble_eq_true rfl) (s_m6 h0 ?_)
    refine mr_istore (pc' := 252) rfl rfl trivial (Nat.le_of_ble_eq_true rfl) rfl ?_
    refine mr_goto rfl ?_
    exact mj_W_ls (mj_B_mono _) (mj_lev_of _ _ (by simp [mj_levb])) h
set_option maxRecDepth 20000 in
theorem qw_m47_50 {d : Nat} {Q : mj_Q} {y1 y2 y3 y4 y5 : Int} {σ : mj_S} (h : (y2 ≤ y5 → mj_r ((σ 0 37) + y2) ∧ ∀ σ1, σ1 = mj_up σ 0 31 ((σ 0 37) + y2) → qh_m47_98 (d + 2) Q y1 y2 y3 y4 y5 σ1) ∧ (y5 < y2 → mj_r ((σ 0 37) + y5) ∧ mj_r ((σ 0 31) - y2) ∧ mj_r (((σ 0 31) - y2) + y5) ∧ 0 ≤ (((σ 0 31) - y2) + y5) ∧ (((σ 0 31) - y2) + y5) < 100 ∧ 0 ≤ ((σ 0 37) + y5) ∧ ((σ 0 37) + y5) < 100 ∧ ∀ σ2, σ2 = mj_up σ 20 ((σ 0 37) + y5).toNat (σ 20 (((σ 0 31) - y2) + y5).toNat) → mj_r (y5 + 1) ∧ qh_m47_50 (d + 2) Q y1 y2 y3 y4 (y5 + 1) σ2)) : qh_m47_50 (d + 2) Q y1 y2 y3 y4 y5 σ := by
  show mj_P mjm_L mjm_Ms (d + 2) mjmo47 ((Option.none : Option Jvm.ClassFile.FieldType)) Q 50 [some (.inr (.inl 0)), some (.inl y1), some (.inl y2), some (.inl y3), some (.inl y4), some (.inl y5), none] [] σ
  refine mr_iload (pc' := 52) rfl rfl rfl ?_
  refine mr_iload (pc' := 53) rfl rfl rfl ?_
  refine mr_ic_ge (pc' := 56) rfl rfl (fun c => ?_) (fun c => ?_)
  · replace h := h.1 c
    refine mr_aload (pc' := 89) rfl rfl rfl ?_
    refine mr_aload (pc' := 90) rfl rfl rfl ?_
    refine mr_get (ci := 0) (pc' := 93) rfl rfl rfl rfl ?_
    refine mr_iload (pc' := 94) rfl rfl rfl ?_
    obtain ⟨h0, h⟩ := h
    refine mr_iadd (pc' := 95) rfl rfl h0 ?_
    refine mr_put (pc' := 98) rfl rfl rfl rfl (fun σ1 e9 => ?_)
    replace h := h σ1 e9
    exact mj_W_ls (mj_B_mono _) (mj_lev_of _ _ (by simp [mj_levb])) h
  · replace h := h.2 c
    refine mr_aload (pc' := 57) rfl rfl rfl ?_
    refine mr_getr (ci := 0) (pc' := 60) rfl rfl rfl rfl ?_
    refine mr_aload (pc' := 61) rfl rfl rfl ?_
    refine mr_get (ci := 0) (pc' := 64) rfl rfl rfl rfl ?_
    refine mr_iload (pc' := 66) rfl rfl rfl ?_
    obtain ⟨h0, h⟩ := h
    refine mr_iadd (pc' := 67) rfl rfl h0 ?_
    refine mr_aload (pc' := 68) rfl rfl rfl ?_
    refine mr_getr (ci := 0) (pc' := 71) rfl rfl rfl rfl ?_
    refine mr_aload (pc' := 72) rfl rfl rfl ?_
    refine mr_get (ci := 0) (pc' := 75) rfl rfl rfl rfl ?_
    refine mr_iload (pc' := 76) rfl rfl rfl ?_
    obtain ⟨h0, h⟩ := h
    refine mr_isub (pc' := 77) rfl rfl h0 ?_
    refine mr_iload (pc' := 79) rfl rfl rfl ?_
    obtain ⟨h0, h⟩ := h
    refine mr_iadd (pc' := 80) rfl rfl h0 ?_
    obtain ⟨h0, h1, h⟩ := h
    refine mr_iald (pc' := 81) rfl rfl rfl h0 h1 ?_
    obtain ⟨h0, h1, h⟩ := h
    refine mr_iast (pc' := 82) rfl rfl rfl h0 h1 (fun σ2 e9 => ?_)
    replace h := h σ2 e9
    obtain ⟨h0, h⟩ := h
    refine mr_iinc (pc' := 85) rfl rfl rfl trivial h0 rfl ?_
    refine mr_goto rfl ?_
    exact mj_W_ls (mj_B_mono _) (mj_lev_of _ _ (by simp [mj_levb])) h
set_option maxRecDepth 20000 in
theorem qw_m47_98 {d : Nat} {Q : mj_Q} {y1 y2 y3 y4 y5 : Int} {σ : mj_S} (h : mj_r ((σ 0 26) - 1) ∧ 0 ≤ ((σ 0 26) - 1) ∧ ((σ 0 26) - 1) < 3000 ∧ ((σ 16 ((σ 0 26) - 1).toNat) = 15 → 0 ≤ σ 0 31 ∧ σ 0 31 ≤ 100 ∧ ∀ σ1, σ1 = z_pu σ (-1) → ∀ σ2, σ2 = mj_up σ1 0 33 (σ1 0 36) → 0 ≤ y4 ∧ y4 < 16 ∧ qh_m47_221 (d + 2) Q y1 y2 y3 y4 (σ2 0 37) (σ2 14 y4.toNat) σ2) ∧ (¬ (σ 16 ((σ 0 26) - 1).toNat) = 15 → mj_r ((σ 0 26) - 1) ∧ ∀ σ3, σ3 = mj_up σ 0 26 ((σ 0 26) - 1) → qh_m47_98 (d + 2) Q y1 y2 y3 y4 y5 σ3)) : qh_m47_98 (d + 2) Q y1 y2 y3 y4 y5 σ := by
  show mj_P mjm_L mjm_Ms (d + 2) mjmo47 ((Option.none : Option Jvm.ClassFile.FieldType)) Q 98 [some (.inr (.inl 0)), some (.inl y1), some (.inl y2), some (.inl y3), some (.inl y4), some (.inl y5), none] [] σ
  refine mr_aload (pc' := 99) rfl rfl rfl ?_
  refine mr_getr (ci := 0) (pc' := 102) rfl rfl rfl rfl ?_
  refine mr_aload (pc' := 103) rfl rfl rfl ?_
  refine mr_get (ci := 0) (pc' := 106) rfl rfl rfl rfl ?_
  refine mr_const (pc' := 107) rfl rfl (by unfold mj_r; decide) ?_
  obtain ⟨h0, h⟩ := h
  refine mr_isub (pc' := 108) rfl rfl h0 ?_
  obtain ⟨h0, h1, h⟩ := h
  refine mr_iald (pc' := 109) rfl rfl rfl h0 h1 ?_
  refine mr_const (pc' := 111) rfl rfl (by unfold mj_r; decide) ?_
  refine mr_ic_eq (pc' := 114) rfl rfl (fun c => ?_) (fun c => ?_)
  · replace h := h.1 c
    refine mr_aload (pc' := 194) rfl rfl rfl ?_
    refine mr_const (pc' := 195) rfl rfl (by unfold mj_r; decide) ?_
    obtain ⟨h0, h1, h⟩ := h
    refine mr_call (t := [(9, 0)]) (pc' := 198) rfl [.inr (.inl 0), .inl (-1)] rfl rfl rfl (mj_recvV rfl) (Nat.le_of_ble_eq_true rfl) (s_m38 h0 h1 (fun σ1 e9 => ?_))
    replace h := h σ1 e9
    refine mr_aload (pc' := 199) rfl rfl rfl ?_
    refine mr_aload (pc' := 200) rfl rfl rfl ?_
    refine mr_get (ci := 0) (pc' := 203) rfl rfl rfl rfl ?_
    refine mr_put (pc' := 206) rfl rfl rfl rfl (fun σ2 e9 => ?_)
    replace h := h σ2 e9
    refine mr_aload (pc' := 207) rfl rfl rfl ?_
    refine mr_get (ci := 0) (pc' := 210) rfl rfl rfl rfl ?_
    refine mr_istore (pc' := 212) rfl rfl trivial (Nat.le_of_ble_eq_true rfl) rfl ?_
    refine mr_aload (pc' := 213) rfl rfl rfl ?_
    refine mr_getr (ci := 0) (pc' := 216) rfl rfl rfl rfl ?_
    refine mr_iload (pc' := 218) rfl rfl rfl ?_
    obtain ⟨h0, h1, h⟩ := h
    refine mr_iald (pc' := 219) rfl rfl rfl h0 h1 ?_
    refine mr_istore (pc' := 221) rfl rfl trivial (Nat.le_of_ble_eq_true rfl) rfl ?_
    exact mj_W_ls (mj_B_mono _) (mj_lev_of _ _ (by simp [mj_levb])) h
  · replace h := h.2 c
    refine mr_aload (pc' := 115) rfl rfl rfl ?_
    refine mr_dup (pc' := 116) rfl rfl trivial ?_
    refine mr_get (ci := 0) (pc' := 119) rfl rfl rfl rfl ?_
    refine mr_const (pc' := 120) rfl rfl (by unfold mj_r; decide) ?_
    obtain ⟨h0, h⟩ := h
    refine mr_isub (pc' := 121) rfl rfl h0 ?_
    refine mr_put (pc' := 124) rfl rfl rfl rfl (fun σ3 e9 => ?_)
    replace h := h σ3 e9
    refine mr_goto rfl ?_
    exact mj_W_ls (mj_B_mono _) (mj_lev_of _ _ (by simp [mj_levb])) h
set_option maxRecDepth 20000 in
/-- ListSpeakerModel.call_ -/
theorem wq_m47 {d : Nat} {σ : mj_S} {Q : mj_Q} {x1 x2 x3 : Int} (h : mj_B mjm_L mjm_Ms (d + 2) 34 [.inr (.inl 0), .inl x1] σ (fun r σ1 => ∃ v2, r = some (.inl v2) ∧ (v2 < 0 → (0 ≤ v2 → ∀ σ3, σ3 = z_sp σ1 4 → Q none σ3) ∧ (v2 < 0 → ∀ σ4, σ4 = z_sp σ1 3 → Q none σ4)) ∧ (0 ≤ v2 → 0 ≤ v2 ∧ v2 < 16 ∧ mj_B mjm_L mjm_Ms (d + 2) 7 [.inr (.inl 0), .inl (σ1 14 v2.toNat)] σ1 (fun r σ5 => ∃ v6, r = some (.inl v6) ∧ (v6 = x2 → (x3 = 0 → 0 ≤ (σ5 0 38) ∧ (σ5 0 38) < 220 ∧ ∀ σ7, σ7 = mj_up σ5 23 (σ5 0 38).toNat (σ5 0 36) → mj_r ((σ7 0 38) + 1) ∧ 0 ≤ ((σ7 0 38) + 1) ∧ ((σ7 0 38) + 1) < 220 ∧ ∀ σ8, σ8 = mj_up σ7 23 ((σ7 0 38) + 1).toNat (σ7 0 37) → mj_r ((σ8 0 38) + 2) ∧ ∀ σ9, σ9 = mj_up σ8 0 38 ((σ8 0 38) + 2) → mj_r ((σ9 0 31) - x2) ∧ ∀ σ10, σ10 = mj_up σ9 0 37 ((σ9 0 31) - x2) → ∀ σ11, σ11 = mj_up σ10 0 36 (σ10 0 33) → 0 ≤ σ11 0 26 ∧ σ11 0 26 < 3000 ∧ mj_fit .boolean 0 ∧ ∀ σ12, σ12 = z_la σ11 15 268435456 0 0 → 0 ≤ σ12 0 31 ∧ σ12 0 31 ≤ 100 ∧ ∀ σ13, σ13 = z_pu σ12 (-1) → ∀ σ14, σ14 = mj_up σ13 0 33 (σ13 0 36) → 0 ≤ v2 ∧ v2 < 16 ∧ qh_m47_221 (d + 2) Q x1 x2 x3 v2 (σ14 0 37) (σ14 14 v2.toNat) σ14) ∧ (¬ x3 = 0 → qh_m47_50 (d + 2) Q x1 x2 x3 v2 0 σ5)) ∧ (¬ v6 = x2 → (0 ≤ v2 → ∀ σ15, σ15 = z_sp σ5 4 → Q none σ15) ∧ (v2 < 0 → ∀ σ16, σ16 = z_sp σ5 3 → Q none σ16)))))) : mj_B mjm_L mjm_Ms (d + 3) 47 [.inr (.inl 0), .inl x1, .inl x2, .inl x3] σ Q := by
  refine mj_B_of (M := mjmM47) (ls := [some (.inr (.inl 0)), some (.inl x1), some (.inl x2), some (.inl x3), none, none, none]) rfl (mj_c1_all rfl) (Nat.le_of_ble_eq_true rfl) rfl ?_
  refine mr_aload (pc' := 1) rfl rfl rfl ?_
  refine mr_iload (pc' := 2) rfl rfl rfl ?_
  refine mr_call (t := [(9, 0)]) (pc' := 5) rfl [.inr (.inl 0), .inl x1] rfl rfl rfl (mj_recvV rfl) (Nat.le_of_ble_eq_true rfl) (mj_B_mono _ _ _ _ _ _ (fun r σ1 h => ?_) h)
  obtain ⟨v2, rfl, h⟩ := h
  refine mr_istore (pc' := 7) rfl rfl trivial (Nat.le_of_ble_eq_true rfl) rfl ?_
  refine mr_iload (pc' := 9) rfl rfl rfl ?_
  refine mr_if_lt (pc' := 12) rfl rfl (fun c => ?_) (fun c => ?_)
  · replace h := h.1 c
    refine mr_aload (pc' := 28) rfl rfl rfl ?_
    refine mr_iload (pc' := 30) rfl rfl rfl ?_
    refine mr_if_ge (pc' := 33) rfl rfl (fun c => ?_) (fun c => ?_)
    · replace h := h.1 c
      refine mr_const (pc' := 38) rfl rfl (by unfold mj_r; decide) ?_
      refine mr_call (t := [(9, 0)]) (pc' := 41) rfl [.inr (.inl 0), .inl 4] rfl rfl rfl (mj_recvV rfl) (Nat.le_of_ble_eq_true rfl) (s_m2  (fun σ3 e9 => ?_))
      replace h := h σ3 e9
      refine mr_pop (pc' := 42) rfl rfl trivial ?_
      exact mr_ret rfl rfl h
    · replace h := h.2 c
      refine mr_const (pc' := 34) rfl rfl (by unfold mj_r; decide) ?_
      refine mr_goto rfl ?_
      refine mr_call (t := [(9, 0)]) (pc' := 41) rfl [.inr (.inl 0), .inl 3] rfl rfl rfl (mj_recvV rfl) (Nat.le_of_ble_eq_true rfl) (s_m2  (fun σ4 e9 => ?_))
      replace h := h σ4 e9
      refine mr_pop (pc' := 42) rfl rfl trivial ?_
      exact mr_ret rfl rfl h
  · replace h := h.2 c
    refine mr_aload (pc' := 13) rfl rfl rfl ?_
    refine mr_aload (pc' := 14) rfl rfl rfl ?_
    refine mr_getr (ci := 0) (pc' := 17) rfl rfl rfl rfl ?_
    refine mr_iload (pc' := 19) rfl rfl rfl ?_
    obtain ⟨h0, h1, h⟩ := h
    refine mr_iald (pc' := 20) rfl rfl rfl h0 h1 ?_
    refine mr_call (t := [(9, 0)]) (pc' := 23) rfl [.inr (.inl 0), .inl (σ1 14 v2.toNat)] rfl rfl rfl (mj_recvV rfl) (Nat.le_of_ble_eq_true rfl) (mj_B_mono _ _ _ _ _ _ (fun r σ5 h => ?_) h)
    obtain ⟨v6, rfl, h⟩ := h
    refine mr_iload (pc' := 24) rfl rfl rfl ?_
    refine mr_ic_eq (pc' := 27) rfl rfl (fun c => ?_) (fun c => ?_)
    · replace h := h.1 c
      refine mr_iload (pc' := 44) rfl rfl rfl ?_
      refine mr_if_eq (pc' := 47) rfl rfl (fun c => ?_) (fun c => ?_)
      · replace h := h.1 c
        refine mr_aload (pc' := 128) rfl rfl rfl ?_
        refine mr_getr (ci := 0) (pc' := 131) rfl rfl rfl rfl ?_
        refine mr_aload (pc' := 132) rfl rfl rfl ?_
        refine mr_get (ci := 0) (pc' := 135) rfl rfl rfl rfl ?_
        refine mr_aload (pc' := 136) rfl rfl rfl ?_
        refine mr_get (ci := 0) (pc' := 139) rfl rfl rfl rfl ?_
        obtain ⟨h0, h1, h⟩ := h
        refine mr_iast (pc' := 140) rfl rfl rfl h0 h1 (fun σ7 e9 => ?_)
        replace h := h σ7 e9
        refine mr_aload (pc' := 141) rfl rfl rfl ?_
        refine mr_getr (ci := 0) (pc' := 144) rfl rfl rfl rfl ?_
        refine mr_aload (pc' := 145) rfl rfl rfl ?_
        refine mr_get (ci := 0) (pc' := 148) rfl rfl rfl rfl ?_
        refine mr_const (pc' := 149) rfl rfl (by unfold mj_r; decide) ?_
        obtain ⟨h0, h⟩ := h
        refine mr_iadd (pc' := 150) rfl rfl h0 ?_
        refine mr_aload (pc' := 151) rfl rfl rfl ?_
        refine mr_get (ci := 0) (pc' := 154) rfl rfl rfl rfl ?_
        obtain ⟨h0, h1, h⟩ := h
        refine mr_iast (pc' := 155) rfl rfl rfl h0 h1 (fun σ8 e9 => ?_)
        replace h := h σ8 e9
        refine mr_aload (pc' := 156) rfl rfl rfl ?_
        refine mr_dup (pc' := 157) rfl rfl trivial ?_
        refine mr_get (ci := 0) (pc' := 160) rfl rfl rfl rfl ?_
        refine mr_const (pc' := 161) rfl rfl (by unfold mj_r; decide) ?_
        obtain ⟨h0, h⟩ := h
        refine mr_iadd (pc' := 162) rfl rfl h0 ?_
        refine mr_put (pc' := 165) rfl rfl rfl rfl (fun σ9 e9 => ?_)
        replace h := h σ9 e9
        refine mr_aload (pc' := 166) rfl rfl rfl ?_
        refine mr_aload (pc' := 167) rfl rfl rfl ?_
        refine mr_get (ci := 0) (pc' := 170) rfl rfl rfl rfl ?_
        refine mr_iload (pc' := 171) rfl rfl rfl ?_
        obtain ⟨h0, h⟩ := h
        refine mr_isub (pc' := 172) rfl rfl h0 ?_
        refine mr_put (pc' := 175) rfl rfl rfl rfl (fun σ10 e9 => ?_)
        replace h := h σ10 e9
        refine mr_aload (pc' := 176) rfl rfl rfl ?_
        refine mr_aload (pc' := 177) rfl rfl rfl ?_
        refine mr_get (ci := 0) (pc' := 180) rfl rfl rfl rfl ?_
        refine mr_put (pc' := 183) rfl rfl rfl rfl (fun σ11 e9 => ?_)
        replace h := h σ11 e9
        refine mr_aload (pc' := 184) rfl rfl rfl ?_
        refine mr_const (pc' := 186) rfl rfl (by unfold mj_r; decide) ?_
        refine mr_const (pc' := 188) rfl rfl (by unfold mj_r; decide) ?_
        refine mr_const (pc' := 189) rfl rfl (by unfold mj_r; decide) ?_
        refine mr_const (pc' := 190) rfl rfl (by unfold mj_r; decide) ?_
        obtain ⟨h0, h1, h2, h⟩ := h
        refine mr_call (t := [(9, 0)]) (pc' := 193) rfl [.inr (.inl 0), .inl 15, .inl 268435456, .inl 0, .inl 0] rfl rfl rfl (mj_recvV rfl) (Nat.le_of_ble_eq_true rfl) (s_m24 h0 h1 h2 (fun σ12 e9 => ?_))
        replace h := h σ12 e9
        refine mr_aload (pc' := 194) rfl rfl rfl ?_
        refine mr_const (pc' := 195) rfl rfl (by unfold mj_r; decide) ?_
        obtain ⟨h0, h1, h⟩ := h
        refine mr_call (t := [(9, 0)]) (pc' := 198) rfl [.inr (.inl 0), .inl (-1)] rfl rfl rfl (mj_recvV rfl) (Nat.le_of_ble_eq_true rfl) (s_m38 h0 h1 (fun σ13 e9 => ?_))
        replace h := h σ13 e9
        refine mr_aload (pc' := 199) rfl rfl rfl ?_
        refine mr_aload (pc' := 200) rfl rfl rfl ?_
        refine mr_get (ci := 0) (pc' := 203) rfl rfl rfl rfl ?_
        refine mr_put (pc' := 206) rfl rfl rfl rfl (fun σ14 e9 => ?_)
        replace h := h σ14 e9
        refine mr_aload (pc' := 207) rfl rfl rfl ?_
        refine mr_get (ci := 0) (pc' := 210) rfl rfl rfl rfl ?_
        refine mr_istore (pc' := 212) rfl rfl trivial (Nat.le_of_ble_eq_true rfl) rfl ?_
        refine mr_aload (pc' := 213) rfl rfl rfl ?_
        refine mr_getr (ci := 0) (pc' := 216) rfl rfl rfl rfl ?_
        refine mr_iload (pc' := 218) rfl rfl rfl ?_
        obtain ⟨h0, h1, h⟩ := h
        refine mr_iald (pc' := 219) rfl rfl rfl h0 h1 ?_
        refine mr_istore (pc' := 221) rfl rfl trivial (Nat.le_of_ble_eq_true rfl) rfl ?_
        exact mj_W_ls (mj_B_mono _) (mj_lev_of _ _ (by simp [mj_levb])) h
      · replace h := h.2 c
        refine mr_const (pc' := 48) rfl rfl (by unfold mj_r; decide) ?_
        refine mr_istore (pc' := 50) rfl rfl trivial (Nat.le_of_ble_eq_true rfl) rfl ?_
        exact mj_W_ls (mj_B_mono _) (mj_lev_of _ _ (by simp [mj_levb])) h
    · replace h := h.2 c
      refine mr_aload (pc' := 28) rfl rfl rfl ?_
      refine mr_iload (pc' := 30) rfl rfl rfl ?_
      refine mr_if_ge (pc' := 33) rfl rfl (fun c => ?_) (fun c => ?_)
      · replace h := h.1 c
        refine mr_const (pc' := 38) rfl rfl (by unfold mj_r; decide) ?_
        refine mr_call (t := [(9, 0)]) (pc' := 41) rfl [.inr (.inl 0), .inl 4] rfl rfl rfl (mj_recvV rfl) (Nat.le_of_ble_eq_true rfl) (s_m2  (fun σ15 e9 => ?_))
        replace h := h σ15 e9
        refine mr_pop (pc' := 42) rfl rfl trivial ?_
        exact mr_ret rfl rfl h
      · replace h := h.2 c
        refine mr_const (pc' := 34) rfl rfl (by unfold mj_r; decide) ?_
        refine mr_goto rfl ?_
        refine mr_call (t := [(9, 0)]) (pc' := 41) rfl [.inr (.inl 0), .inl 3] rfl rfl rfl (mj_recvV rfl) (Nat.le_of_ble_eq_true rfl) (s_m2  (fun σ16 e9 => ?_))
        replace h := h σ16 e9
        refine mr_pop (pc' := 42) rfl rfl trivial ?_
        exact mr_ret rfl rfl h
def qh_m48_36 (d : Nat) (Q : mj_Q) (y1 : Int) (σ : mj_S) : Prop := mj_P mjm_L mjm_Ms d mjmo48 ((Option.none : Option Jvm.ClassFile.FieldType)) Q 36 [some (.inr (.inl 0)), some (.inl y1)] [] σ
set_option maxRecDepth 20000 in
theorem qw_m48_36 {d : Nat} {Q : mj_Q} {y1 : Int} {σ : mj_S} (h : 0 ≤ y1 ∧ y1 < 200 ∧ ((σ 6 y1.toNat) = 0 → 0 ≤ y1 ∧ y1 < 200 ∧ mj_fit .boolean 1 ∧ ∀ σ1, σ1 = mj_up σ 6 y1.toNat 1 → mj_r ((σ1 0 12) + 1) ∧ ∀ σ2, σ2 = mj_up σ1 0 12 ((σ1 0 12) + 1) → mj_r (400 + y1) ∧ 1 ≤ σ2 0 31 ∧ σ2 0 31 ≤ 100 ∧ ∀ σ3, σ3 = mj_up σ2 0 31 (σ2 0 31 - 1) → 0 ≤ (400 + y1) ∧ (400 + y1) < 600 ∧ ∀ σ4, σ4 = mj_up σ3 5 (400 + y1).toNat (σ2 20 (σ2 0 31 - 1).toNat) → mj_r (400 + y1) ∧ 1 ≤ σ4 0 31 ∧ σ4 0 31 ≤ 100 ∧ ∀ σ5, σ5 = mj_up σ4 0 31 (σ4 0 31 - 1) → 0 ≤ (400 + y1) ∧ (400 + y1) < 600 ∧ ∀ σ6, σ6 = mj_up σ5 4 (400 + y1).toNat (σ4 20 (σ4 0 31 - 1).toNat) → mj_r (536871312 + y1) ∧ 0 ≤ σ6 0 31 ∧ σ6 0 31 ≤ 100 ∧ ∀ σ7, σ7 = z_pu σ6 (536871312 + y1) → Q none σ7) ∧ (¬ (σ 6 y1.toNat) = 0 → mj_r (y1 + 1) ∧ qh_m48_36 (d + 2) Q (y1 + 1) σ)) : qh_m48_36 (d + 2) Q y1 σ := by
  show mj_P mjm_L mjm_Ms (d + 2) mjmo48 ((Option.none : Option Jvm.ClassFile.FieldType)) Q 36 [some (.inr (.inl 0)), some (.inl y1)] [] σ
  refine mr_aload (pc' := 37) rfl rfl rfl ?_
  refine mr_getr (ci := 0) (pc' := 40) rfl rfl rfl rfl ?_
  refine mr_iload (pc' := 41) rfl rfl rfl ?_
  obtain ⟨h0, h1, h⟩ := h
  refine mr_zald (pc' := 42) rfl rfl rfl h0 h1 ?_
  refine mr_if_eq (pc' := 45) rfl rfl (fun c => ?_) (fun c => ?_)
  · replace h := h.1 c
    refine mr_aload (pc' := 52) rfl rfl rfl ?_
    refine mr_getr (ci := 0) (pc' := 55) rfl rfl rfl rfl ?_
    refine mr_iload (pc' := 56) rfl rfl rfl ?_
    refine mr_const (pc' := 57) rfl rfl (by unfold mj_r; decide) ?_
    obtain ⟨h0, h1, h2, h⟩ := h
    refine mr_zast (pc' := 58) rfl rfl rfl h0 h1 h2 (fun σ1 e9 => ?_)
    replace h := h σ1 e9
    refine mr_aload (pc' := 59) rfl rfl rfl ?_
    refine mr_dup (pc' := 60) rfl rfl trivial ?_
    refine mr_get (ci := 0) (pc' := 63) rfl rfl rfl rfl ?_
    refine mr_const (pc' := 64) rfl rfl (by unfold mj_r; decide) ?_
    obtain ⟨h0, h⟩ := h
    refine mr_iadd (pc' := 65) rfl rfl h0 ?_
    refine mr_put (pc' := 68) rfl rfl rfl rfl (fun σ2 e9 => ?_)
    replace h := h σ2 e9
    refine mr_aload (pc' := 69) rfl rfl rfl ?_
    refine mr_getr (ci := 0) (pc' := 72) rfl rfl rfl rfl ?_
    refine mr_const (pc' := 75) rfl rfl (by unfold mj_r; decide) ?_
    refine mr_iload (pc' := 76) rfl rfl rfl ?_
    obtain ⟨h0, h⟩ := h
    refine mr_iadd (pc' := 77) rfl rfl h0 ?_
    refine mr_aload (pc' := 78) rfl rfl rfl ?_
    obtain ⟨h0, h1, h⟩ := h
    refine mr_call (t := [(9, 0)]) (pc' := 81) rfl [.inr (.inl 0)] rfl rfl rfl (mj_recvV rfl) (Nat.le_of_ble_eq_true rfl) (s_m39 h0 h1 (fun σ3 e9 => ?_))
    replace h := h σ3 e9
    obtain ⟨h0, h1, h⟩ := h
    refine mr_iast (pc' := 82) rfl rfl rfl h0 h1 (fun σ4 e9 => ?_)
    replace h := h σ4 e9
    refine mr_aload (pc' := 83) rfl rfl rfl ?_
    refine mr_getr (ci := 0) (pc' := 86) rfl rfl rfl rfl ?_
    refine mr_const (pc' := 89) rfl rfl (by unfold mj_r; decide) ?_
    refine mr_iload (pc' := 90) rfl rfl rfl ?_
    obtain ⟨h0, h⟩ := h
    refine mr_iadd (pc' := 91) rfl rfl h0 ?_
    refine mr_aload (pc' := 92) rfl rfl rfl ?_
    obtain ⟨h0, h1, h⟩ := h
    refine mr_call (t := [(9, 0)]) (pc' := 95) rfl [.inr (.inl 0)] rfl rfl rfl (mj_recvV rfl) (Nat.le_of_ble_eq_true rfl) (s_m39 h0 h1 (fun σ5 e9 => ?_))
    replace h := h σ5 e9
    obtain ⟨h0, h1, h⟩ := h
    refine mr_iast (pc' := 96) rfl rfl rfl h0 h1 (fun σ6 e9 => ?_)
    replace h := h σ6 e9
    refine mr_aload (pc' := 97) rfl rfl rfl ?_
    refine mr_const (pc' := 100) rfl rfl (by unfold mj_r; decide) ?_
    refine mr_iload (pc' := 101) rfl rfl rfl ?_
    obtain ⟨h0, h⟩ := h
    refine mr_iadd (pc' := 102) rfl rfl h0 ?_
    obtain ⟨h0, h1, h⟩ := h
    refine mr_call (t := [(9, 0)]) (pc' := 105) rfl [.inr (.inl 0), .inl (536871312 + y1)] rfl rfl rfl (mj_recvV rfl) (Nat.le_of_ble_eq_true rfl) (s_m38 h0 h1 (fun σ7 e9 => ?_))
    replace h := h σ7 e9
    exact mr_ret rfl rfl h
  · replace h := h.2 c
    obtain ⟨h0, h⟩ := h
    refine mr_iinc (pc' := 48) rfl rfl rfl trivial h0 rfl ?_
    refine mr_goto rfl ?_
    exact mj_W_ls (mj_B_mono _) (mj_lev_of _ _ (by simp [mj_levb])) h
set_option maxRecDepth 20000 in
/-- ListSpeakerModel.pair_ -/
theorem wq_m48 {d : Nat} {σ : mj_S} {Q : mj_Q} (h : (¬ (σ 0 12) = (σ 0 0) → (¬ (σ 0 12) = (σ 0 0) → qh_m48_36 (d + 2) Q 0 σ) ∧ ((σ 0 12) = (σ 0 0) → ∀ σ1, σ1 = z_sp σ 6 → Q none σ1)) ∧ ((σ 0 12) = (σ 0 0) → mj_B mjm_L mjm_Ms (d + 2) 49 [.inr (.inl 0)] σ (fun r σ2 => r = none ∧ (¬ (σ2 0 12) = (σ2 0 0) → qh_m48_36 (d + 2) Q 0 σ2) ∧ ((σ2 0 12) = (σ2 0 0) → ∀ σ3, σ3 = z_sp σ2 6 → Q none σ3)))) : mj_B mjm_L mjm_Ms (d + 3) 48 [.inr (.inl 0)] σ Q := by
  refine mj_B_of (M := mjmM48) (ls := [some (.inr (.inl 0)), none]) rfl (mj_c1_all rfl) (Nat.le_of_ble_eq_true rfl) rfl ?_
  refine mr_aload (pc' := 1) rfl rfl rfl ?_
  refine mr_get (ci := 0) (pc' := 4) rfl rfl rfl rfl ?_
  refine mr_aload (pc' := 5) rfl rfl rfl ?_
  refine mr_get (ci := 0) (pc' := 8) rfl rfl rfl rfl ?_
  refine mr_ic_ne (pc' := 11) rfl rfl (fun c => ?_) (fun c => ?_)
  · replace h := h.1 c
    refine mr_aload (pc' := 16) rfl rfl rfl ?_
    refine mr_get (ci := 0) (pc' := 19) rfl rfl rfl rfl ?_
    refine mr_aload (pc' := 20) rfl rfl rfl ?_
    refine mr_get (ci := 0) (pc' := 23) rfl rfl rfl rfl ?_
    refine mr_ic_ne (pc' := 26) rfl rfl (fun c => ?_) (fun c => ?_)
    · replace h := h.1 c
      refine mr_const (pc' := 35) rfl rfl (by unfold mj_r; decide) ?_
      refine mr_istore (pc' := 36) rfl rfl trivial (Nat.le_of_ble_eq_true rfl) rfl ?_
      exact mj_W_ls (mj_B_mono _) (mj_lev_of _ _ (by simp [mj_levb])) h
    · replace h := h.2 c
      refine mr_aload (pc' := 27) rfl rfl rfl ?_
      refine mr_const (pc' := 29) rfl rfl (by unfold mj_r; decide) ?_
      refine mr_call (t := [(9, 0)]) (pc' := 32) rfl [.inr (.inl 0), .inl 6] rfl rfl rfl (mj_recvV rfl) (Nat.le_of_ble_eq_true rfl) (s_m2  (fun σ1 e9 => ?_))
      replace h := h σ1 e9
      refine mr_pop (pc' := 33) rfl rfl trivial ?_
      exact mr_ret rfl rfl h
  · replace h := h.2 c
    refine mr_aload (pc' := 12) rfl rfl rfl ?_
    refine mr_call (t := [(9, 0)]) (pc' := 15) rfl [.inr (.inl 0)] rfl rfl rfl (mj_recvV rfl) (Nat.le_of_ble_eq_true rfl) (mj_B_mono _ _ _ _ _ _ (fun r σ2 h => ?_) h)
    obtain ⟨rfl, h⟩ := h
    refine mr_aload (pc' := 16) rfl rfl rfl ?_
    refine mr_get (ci := 0) (pc' := 19) rfl rfl rfl rfl ?_
    refine mr_aload (pc' := 20) rfl rfl rfl ?_
    refine mr_get (ci := 0) (pc' := 23) rfl rfl rfl rfl ?_
    refine mr_ic_ne (pc' := 26) rfl rfl (fun c => ?_) (fun c => ?_)
    · replace h := h.1 c
      refine mr_const (pc' := 35) rfl rfl (by unfold mj_r; decide) ?_
      refine mr_istore (pc' := 36) rfl rfl trivial (Nat.le_of_ble_eq_true rfl) rfl ?_
      exact mj_W_ls (mj_B_mono _) (mj_lev_of _ _ (by simp [mj_levb])) h
    · replace h := h.2 c
      refine mr_aload (pc' := 27) rfl rfl rfl ?_
      refine mr_const (pc' := 29) rfl rfl (by unfold mj_r; decide) ?_
      refine mr_call (t := [(9, 0)]) (pc' := 32) rfl [.inr (.inl 0), .inl 6] rfl rfl rfl (mj_recvV rfl) (Nat.le_of_ble_eq_true rfl) (s_m2  (fun σ3 e9 => ?_))
      replace h := h σ3 e9
      refine mr_pop (pc' := 33) rfl rfl trivial ?_
      exact mr_ret rfl rfl h
def qh_m49_12 (d : Nat) (Q : mj_Q) (y1 : Int) (σ : mj_S) : Prop := mj_P mjm_L mjm_Ms d mjmo49 ((Option.none : Option Jvm.ClassFile.FieldType)) Q 12 [some (.inr (.inl 0)), some (.inl y1), none] [] σ
def qh_m49_37 (d : Nat) (Q : mj_Q) (y1 y2 : Int) (σ : mj_S) : Prop := mj_P mjm_L mjm_Ms d mjmo49 ((Option.none : Option Jvm.ClassFile.FieldType)) Q 37 [some (.inr (.inl 0)), some (.inl y1), some (.inl y2)] [] σ
def qh_m49_63 (d : Nat) (Q : mj_Q) (y1 y2 : Int) (σ : mj_S) : Prop := mj_P mjm_L mjm_Ms d mjmo49 ((Option.none : Option Jvm.ClassFile.FieldType)) Q 63 [some (.inr (.inl 0)), some (.inl y1), some (.inl y2)] [] σ
def qh_m49_111 (d : Nat) (Q : mj_Q) (y1 y2 : Int) (σ : mj_S) : Prop := mj_P mjm_L mjm_Ms d mjmo49 ((Option.none : Option Jvm.ClassFile.FieldType)) Q 111 [some (.inr (.inl 0)), some (.inl y1), some (.inl y2)] [] σ
set_option maxRecDepth 20000 in
theorem qw_m49_12 {d : Nat} {Q : mj_Q} {y1 : Int} {σ : mj_S} (h : ((σ 0 0) ≤ y1 → qh_m49_37 d Q 0 0 σ) ∧ (y1 < (σ 0 0) → 0 ≤ y1 ∧ y1 < 200 ∧ mj_fit .boolean 0 ∧ ∀ σ1, σ1 = mj_up σ 7 y1.toNat 0 → mj_r (y1 + 1) ∧ qh_m49_12 d Q (y1 + 1) σ1)) : qh_m49_12 d Q y1 σ := by
  show mj_P mjm_L mjm_Ms d mjmo49 ((Option.none : Option Jvm.ClassFile.FieldType)) Q 12 [some (.inr (.inl 0)), some (.inl y1), none] [] σ
  refine mr_iload (pc' := 13) rfl rfl rfl ?_
  refine mr_aload (pc' := 14) rfl rfl rfl ?_
  refine mr_get (ci := 0) (pc' := 17) rfl rfl rfl rfl ?_
  refine mr_ic_ge (pc' := 20) rfl rfl (fun c => ?_) (fun c => ?_)
  · replace h := h.1 c
    refine mr_const (pc' := 34) rfl rfl (by unfold mj_r; decide) ?_
    refine mr_istore (pc' := 35) rfl rfl trivial (Nat.le_of_ble_eq_true rfl) rfl ?_
    refine mr_const (pc' := 36) rfl rfl (by unfold mj_r; decide) ?_
    refine mr_istore (pc' := 37) rfl rfl trivial (Nat.le_of_ble_eq_true rfl) rfl ?_
    exact mj_W_ls (mj_B_mono _) (mj_lev_of _ _ (by simp [mj_levb])) h
  · replace h := h.2 c
    refine mr_aload (pc' := 21) rfl rfl rfl ?_
    refine mr_getr (ci := 0) (pc' := 24) rfl rfl rfl rfl ?_
    refine mr_iload (pc' := 25) rfl rfl rfl ?_
    refine mr_const (pc' := 26) rfl rfl (by unfold mj_r; decide) ?_
    obtain ⟨h0, h1, h2, h⟩ := h
    refine mr_zast (pc' := 27) rfl rfl rfl h0 h1 h2 (fun σ1 e9 => ?_)
    replace h := h σ1 e9
    obtain ⟨h0, h⟩ := h
    refine mr_iinc (pc' := 30) rfl rfl rfl trivial h0 rfl ?_
    refine mr_goto rfl ?_
    exact mj_W_ls (mj_B_mono _) (mj_lev_of _ _ (by simp [mj_levb])) h
set_option maxRecDepth 20000 in
theorem qw_m49_37 {d : Nat} {Q : mj_Q} {y1 y2 : Int} {σ : mj_S} (h : ((σ 0 31) ≤ y2 → qh_m49_63 d Q y1 y2 σ) ∧ (y2 < (σ 0 31) → 0 ≤ y2 ∧ y2 < 100 ∧ mj_B mjm_L mjm_Ms d 50 [.inr (.inl 0), .inl (σ 20 y2.toNat), .inl y1] σ (fun r σ1 => ∃ v2, r = some (.inl v2) ∧ mj_r (y2 + 1) ∧ qh_m49_37 d Q v2 (y2 + 1) σ1))) : qh_m49_37 d Q y1 y2 σ := by
  show mj_P mjm_L mjm_Ms d mjmo49 ((Option.none : Option Jvm.ClassFile.FieldType)) Q 37 [some (.inr (.inl 0)), some (.inl y1), some (.inl y2)] [] σ
  refine mr_iload (pc' := 38) rfl rfl rfl ?_
  refine mr_aload (pc' := 39) rfl rfl rfl ?_
  refine mr_get (ci := 0) (pc' := 42) rfl rfl rfl rfl ?_
  refine mr_ic_ge (pc' := 45) rfl rfl (fun c => ?_) (fun c => ?_)
  · replace h := h.1 c
    exact mj_W_ls (mj_B_mono _) (mj_lev_of _ _ (by simp [mj_levb])) h
  · replace h := h.2 c
    refine mr_aload (pc' := 46) rfl rfl rfl ?_
    refine mr_aload (pc' := 47) rfl rfl rfl ?_
    refine mr_getr (ci := 0) (pc' := 50) rfl rfl rfl rfl ?_
    refine mr_iload (pc' := 51) rfl rfl rfl ?_
    obtain ⟨h0, h1, h⟩ := h
    refine mr_iald (pc' := 52) rfl rfl rfl h0 h1 ?_
    refine mr_iload (pc' := 53) rfl rfl rfl ?_
    refine mr_call (t := [(9, 0)]) (pc' := 56) rfl [.inr (.inl 0), .inl (σ 20 y2.toNat), .inl y1] rfl rfl rfl (mj_recvV rfl) (Nat.le_of_ble_eq_true rfl) (mj_B_mono _ _ _ _ _ _ (fun r σ1 h => ?_) h)
    obtain ⟨v2, rfl, h⟩ := h
    refine mr_istore (pc' := 57) rfl rfl trivial (Nat.le_of_ble_eq_true rfl) rfl ?_
    obtain ⟨h0, h⟩ := h
    refine mr_iinc (pc' := 60) rfl rfl rfl trivial h0 rfl ?_
    refine mr_goto rfl ?_
    exact mj_W_ls (mj_B_mono _) (mj_lev_of _ _ (by simp [mj_levb])) h
set_option maxRecDepth 20000 in
theorem qw_m49_63 {d : Nat} {Q : mj_Q} {y1 y2 : Int} {σ : mj_S} (h : (y1 ≤ 0 → ∀ σ1, σ1 = mj_up σ 0 12 0 → qh_m49_111 d Q y1 0 σ1) ∧ (0 < y1 → mj_r (y1 + (-1)) ∧ 0 ≤ (y1 + (-1)) ∧ (y1 + (-1)) < 700 ∧ 0 ≤ (σ 8 (y1 + (-1)).toNat) ∧ (σ 8 (y1 + (-1)).toNat) < 600 ∧ mj_B mjm_L mjm_Ms d 50 [.inr (.inl 0), .inl (σ 4 (σ 8 (y1 + (-1)).toNat).toNat), .inl (y1 + (-1))] σ (fun r σ2 => ∃ v3, r = some (.inl v3) ∧ 0 ≤ (σ 8 (y1 + (-1)).toNat) ∧ (σ 8 (y1 + (-1)).toNat) < 600 ∧ mj_B mjm_L mjm_Ms d 50 [.inr (.inl 0), .inl (σ2 5 (σ 8 (y1 + (-1)).toNat).toNat), .inl v3] σ2 (fun r σ4 => ∃ v5, r = some (.inl v5) ∧ qh_m49_63 d Q v5 (σ 8 (y1 + (-1)).toNat) σ4)))) : qh_m49_63 d Q y1 y2 σ := by
  show mj_P mjm_L mjm_Ms d mjmo49 ((Option.none : Option Jvm.ClassFile.FieldType)) Q 63 [some (.inr (.inl 0)), some (.inl y1), some (.inl y2)] [] σ
  refine mr_iload (pc' := 64) rfl rfl rfl ?_
  refine mr_if_le (pc' := 67) rfl rfl (fun c => ?_) (fun c => ?_)
  · replace h := h.1 c
    refine mr_aload (pc' := 105) rfl rfl rfl ?_
    refine mr_const (pc' := 106) rfl rfl (by unfold mj_r; decide) ?_
    refine mr_put (pc' := 109) rfl rfl rfl rfl (fun σ1 e9 => ?_)
    replace h := h σ1 e9
    refine mr_const (pc' := 110) rfl rfl (by unfold mj_r; decide) ?_
    refine mr_istore (pc' := 111) rfl rfl trivial (Nat.le_of_ble_eq_true rfl) rfl ?_
    exact mj_W_ls (mj_B_mono _) (mj_lev_of _ _ (by simp [mj_levb])) h
  · replace h := h.2 c
    obtain ⟨h0, h⟩ := h
    refine mr_iinc (pc' := 70) rfl rfl rfl trivial h0 rfl ?_
    refine mr_aload (pc' := 71) rfl rfl rfl ?_
    refine mr_getr (ci := 0) (pc' := 74) rfl rfl rfl rfl ?_
    refine mr_iload (pc' := 75) rfl rfl rfl ?_
    obtain ⟨h0, h1, h⟩ := h
    refine mr_iald (pc' := 76) rfl rfl rfl h0 h1 ?_
    refine mr_istore (pc' := 77) rfl rfl trivial (Nat.le_of_ble_eq_true rfl) rfl ?_
    refine mr_aload (pc' := 78) rfl rfl rfl ?_
    refine mr_aload (pc' := 79) rfl rfl rfl ?_
    refine mr_getr (ci := 0) (pc' := 82) rfl rfl rfl rfl ?_
    refine mr_iload (pc' := 83) rfl rfl rfl ?_
    obtain ⟨h0, h1, h⟩ := h
    refine mr_iald (pc' := 84) rfl rfl rfl h0 h1 ?_
    refine mr_iload (pc' := 85) rfl rfl rfl ?_
    refine mr_call (t := [(9, 0)]) (pc' := 88) rfl [.inr (.inl 0), .inl (σ 4 (σ 8 (y1 + (-1)).toNat).toNat), .inl (y1 + (-1))] rfl rfl rfl (mj_recvV rfl) (Nat.le_of_ble_eq_true rfl) (mj_B_mono _ _ _ _ _ _ (fun r σ2 h => ?_) h)
    obtain ⟨v3, rfl, h⟩ := h
    refine mr_istore (pc' := 89) rfl rfl trivial (Nat.le_of_ble_eq_true rfl) rfl ?_
    refine mr_aload (pc' := 90) rfl rfl rfl ?_
    refine mr_aload (pc' := 91) rfl rfl rfl ?_
    refine mr_getr (ci := 0) (pc' := 94) rfl rfl rfl rfl ?_
    refine mr_iload (pc' := 95) rfl rfl rfl ?_
    obtain ⟨h0, h1, h⟩ := h
    refine mr_iald (pc' := 96) rfl rfl rfl h0 h1 ?_
    refine mr_iload (pc' := 97) rfl rfl rfl ?_
    refine mr_call (t := [(9, 0)]) (pc' := 100) rfl [.inr (.inl 0), .inl (σ2 5 (σ 8 (y1 + (-1)).toNat).toNat), .inl v3] rfl rfl rfl (mj_recvV rfl) (Nat.le_of_ble_eq_true rfl) (mj_B_mono _ _ _ _ _ _ (fun r σ4 h => ?_) h)
    obtain ⟨v5, rfl, h⟩ := h
    refine mr_istore (pc' := 101) rfl rfl trivial (Nat.le_of_ble_eq_true rfl) rfl ?_
    refine mr_goto rfl ?_
    exact mj_W_ls (mj_B_mono _) (mj_lev_of _ _ (by simp [mj_levb])) h
set_option maxRecDepth 20000 in
theorem qw_m49_111 {d : Nat} {Q : mj_Q} {y1 y2 : Int} {σ : mj_S} (h : ((σ 0 0) ≤ y2 → Q none σ) ∧ (y2 < (σ 0 0) → 0 ≤ y2 ∧ y2 < 200 ∧ ((σ 6 y2.toNat) = 0 → 0 ≤ y2 ∧ y2 < 200 ∧ mj_fit .boolean 0 ∧ ∀ σ1, σ1 = mj_up σ 6 y2.toNat 0 → 0 ≤ y2 ∧ y2 < 200 ∧ ((σ1 6 y2.toNat) = 0 → mj_r ((σ1 0 12) + 0) ∧ ∀ σ2, σ2 = mj_up σ1 0 12 ((σ1 0 12) + 0) → mj_r (y2 + 1) ∧ qh_m49_111 d Q y1 (y2 + 1) σ2) ∧ (¬ (σ1 6 y2.toNat) = 0 → mj_r ((σ1 0 12) + 1) ∧ ∀ σ3, σ3 = mj_up σ1 0 12 ((σ1 0 12) + 1) → mj_r (y2 + 1) ∧ qh_m49_111 d Q y1 (y2 + 1) σ3)) ∧ (¬ (σ 6 y2.toNat) = 0 → 0 ≤ y2 ∧ y2 < 200 ∧ ((σ 7 y2.toNat) = 0 → 0 ≤ y2 ∧ y2 < 200 ∧ mj_fit .boolean 0 ∧ ∀ σ4, σ4 = mj_up σ 6 y2.toNat 0 → 0 ≤ y2 ∧ y2 < 200 ∧ ((σ4 6 y2.toNat) = 0 → mj_r ((σ4 0 12) + 0) ∧ ∀ σ5, σ5 = mj_up σ4 0 12 ((σ4 0 12) + 0) → mj_r (y2 + 1) ∧ qh_m49_111 d Q y1 (y2 + 1) σ5) ∧ (¬ (σ4 6 y2.toNat) = 0 → mj_r ((σ4 0 12) + 1) ∧ ∀ σ6, σ6 = mj_up σ4 0 12 ((σ4 0 12) + 1) → mj_r (y2 + 1) ∧ qh_m49_111 d Q y1 (y2 + 1) σ6)) ∧ (¬ (σ 7 y2.toNat) = 0 → 0 ≤ y2 ∧ y2 < 200 ∧ mj_fit .boolean 1 ∧ ∀ σ7, σ7 = mj_up σ 6 y2.toNat 1 → 0 ≤ y2 ∧ y2 < 200 ∧ ((σ7 6 y2.toNat) = 0 → mj_r ((σ7 0 12) + 0) ∧ ∀ σ8, σ8 = mj_up σ7 0 12 ((σ7 0 12) + 0) → mj_r (y2 + 1) ∧ qh_m49_111 d Q y1 (y2 + 1) σ8) ∧ (¬ (σ7 6 y2.toNat) = 0 → mj_r ((σ7 0 12) + 1) ∧ ∀ σ9, σ9 = mj_up σ7 0 12 ((σ7 0 12) + 1) → mj_r (y2 + 1) ∧ qh_m49_111 d Q y1 (y2 + 1) σ9))))) : qh_m49_111 d Q y1 y2 σ := by
  show mj_P mjm_L mjm_Ms d mjmo49 ((Option.none : Option Jvm.ClassFile.FieldType)) Q 111 [some (.inr (.inl 0)), some (.inl y1), some (.inl y2)] [] σ
  refine mr_iload (pc' := 112) rfl rfl rfl ?_
  refine mr_aload (pc' := 113) rfl rfl rfl ?_
  refine mr_get (ci := 0) (pc' := 116) rfl rfl rfl rfl ?_
  refine mr_ic_ge (pc' := 119) rfl rfl (fun c => ?_) (fun c => ?_)
  · replace h := h.1 c
    exact mr_ret rfl rfl h
  · replace h := h.2 c
    refine mr_aload (pc' := 120) rfl rfl rfl ?_
    refine mr_getr (ci := 0) (pc' := 123) rfl rfl rfl rfl ?_
    refine mr_iload (pc' := 124) rfl rfl rfl ?_
    refine mr_aload (pc' := 125) rfl rfl rfl ?_
    refine mr_getr (ci := 0) (pc' := 128) rfl rfl rfl rfl ?_
    refine mr_iload (pc' := 129) rfl rfl rfl ?_
    obtain ⟨h0, h1, h⟩ := h
    refine mr_zald (pc' := 130) rfl rfl rfl h0 h1 ?_
    refine mr_if_eq (pc' := 133) rfl rfl (fun c => ?_) (fun c => ?_)
    · replace h := h.1 c
      refine mr_const (pc' := 147) rfl rfl (by unfold mj_r; decide) ?_
      obtain ⟨h0, h1, h2, h⟩ := h
      refine mr_zast (pc' := 148) rfl rfl rfl h0 h1 h2 (fun σ1 e9 => ?_)
      replace h := h σ1 e9
      refine mr_aload (pc' := 149) rfl rfl rfl ?_
      refine mr_dup (pc' := 150) rfl rfl trivial ?_
      refine mr_get (ci := 0) (pc' := 153) rfl rfl rfl rfl ?_
      refine mr_aload (pc' := 154) rfl rfl rfl ?_
      refine mr_getr (ci := 0) (pc' := 157) rfl rfl rfl rfl ?_
      refine mr_iload (pc' := 158) rfl rfl rfl ?_
      obtain ⟨h0, h1, h⟩ := h
      refine mr_zald (pc' := 159) rfl rfl rfl h0 h1 ?_
      refine mr_if_eq (pc' := 162) rfl rfl (fun c => ?_) (fun c => ?_)
      · replace h := h.1 c
        refine mr_const (pc' := 167) rfl rfl (by unfold mj_r; decide) ?_
        obtain ⟨h0, h⟩ := h
        refine mr_iadd (pc' := 168) rfl rfl h0 ?_
        refine mr_put (pc' := 171) rfl rfl rfl rfl (fun σ2 e9 => ?_)
        replace h := h σ2 e9
        obtain ⟨h0, h⟩ := h
        refine mr_iinc (pc' := 174) rfl rfl rfl trivial h0 rfl ?_
        refine mr_goto rfl ?_
        exact mj_W_ls (mj_B_mono _) (mj_lev_of _ _ (by simp [mj_levb])) h
      · replace h := h.2 c
        refine mr_const (pc' := 163) rfl rfl (by unfold mj_r; decide) ?_
        refine mr_goto rfl ?_
        obtain ⟨h0, h⟩ := h
        refine mr_iadd (pc' := 168) rfl rfl h0 ?_
        refine mr_put (pc' := 171) rfl rfl rfl rfl (fun σ3 e9 => ?_)
        replace h := h σ3 e9
        obtain ⟨h0, h⟩ := h
        refine mr_iinc (pc' := 174) rfl rfl rfl trivial h0 rfl ?_
        refine mr_goto rfl ?_
        exact mj_W_ls (mj_B_mono _) (mj_lev_of _ _ (by simp [mj_levb])) h
    · replace h := h.2 c
      refine mr_aload (pc' := 134) rfl rfl rfl ?_
      refine mr_getr (ci := 0) (pc' := 137) rfl rfl rfl rfl ?_
      refine mr_iload (pc' := 138) rfl rfl rfl ?_
      obtain ⟨h0, h1, h⟩ := h
      refine mr_zald (pc' := 139) rfl rfl rfl h0 h1 ?_
      refine mr_if_eq (pc' := 142) rfl rfl (fun c => ?_) (fun c => ?_)
      · replace h := h.1 c
        refine mr_const (pc' := 147) rfl rfl (by unfold mj_r; decide) ?_
        obtain ⟨h0, h1, h2, h⟩ := h
        refine mr_zast (pc' := 148) rfl rfl rfl h0 h1 h2 (fun σ4 e9 => ?_)
        replace h := h σ4 e9
        refine mr_aload (pc' := 149) rfl rfl rfl ?_
        refine mr_dup (pc' := 150) rfl rfl trivial ?_
        refine mr_get (ci := 0) (pc' := 153) rfl rfl rfl rfl ?_
        refine mr_aload (pc' := 154) rfl rfl rfl ?_
        refine mr_getr (ci := 0) (pc' := 157) rfl rfl rfl rfl ?_
        refine mr_iload (pc' := 158) rfl rfl rfl ?_
        obtain ⟨h0, h1, h⟩ := h
        refine mr_zald (pc' := 159) rfl rfl rfl h0 h1 ?_
        refine mr_if_eq (pc' := 162) rfl rfl (fun c => ?_) (fun c => ?_)
        · replace h := h.1 c
          refine mr_const (pc' := 167) rfl rfl (by unfold mj_r; decide) ?_
          obtain ⟨h0, h⟩ := h
          refine mr_iadd (pc' := 168) rfl rfl h0 ?_
          refine mr_put (pc' := 171) rfl rfl rfl rfl (fun σ5 e9 => ?_)
          replace h := h σ5 e9
          obtain ⟨h0, h⟩ := h
          refine mr_iinc (pc' := 174) rfl rfl rfl trivial h0 rfl ?_
          refine mr_goto rfl ?_
          exact mj_W_ls (mj_B_mono _) (mj_lev_of _ _ (by simp [mj_levb])) h
        · replace h := h.2 c
          refine mr_const (pc' := 163) rfl rfl (by unfold mj_r; decide) ?_
          refine mr_goto rfl ?_
          obtain ⟨h0, h⟩ := h
          refine mr_iadd (pc' := 168) rfl rfl h0 ?_
          refine mr_put (pc' := 171) rfl rfl rfl rfl (fun σ6 e9 => ?_)
          replace h := h σ6 e9
          obtain ⟨h0, h⟩ := h
          refine mr_iinc (pc' := 174) rfl rfl rfl trivial h0 rfl ?_
          refine mr_goto rfl ?_
          exact mj_W_ls (mj_B_mono _) (mj_lev_of _ _ (by simp [mj_levb])) h
      · replace h := h.2 c
        refine mr_const (pc' := 143) rfl rfl (by unfold mj_r; decide) ?_
        refine mr_goto rfl ?_
        obtain ⟨h0, h1, h2, h⟩ := h
        refine mr_zast (pc' := 148) rfl rfl rfl h0 h1 h2 (fun σ7 e9 => ?_)
        replace h := h σ7 e9
        refine mr_aload (pc' := 149) rfl rfl rfl ?_
        refine mr_dup (pc' := 150) rfl rfl trivial ?_
        refine mr_get (ci := 0) (pc' := 153) rfl rfl rfl rfl ?_
        refine mr_aload (pc' := 154) rfl rfl rfl ?_
        refine mr_getr (ci := 0) (pc' := 157) rfl rfl rfl rfl ?_
        refine mr_iload (pc' := 158) rfl rfl rfl ?_
        obtain ⟨h0, h1, h⟩ := h
        refine mr_zald (pc' := 159) rfl rfl rfl h0 h1 ?_
        refine mr_if_eq (pc' := 162) rfl rfl (fun c => ?_) (fun c => ?_)
        · replace h := h.1 c
          refine mr_const (pc' := 167) rfl rfl (by unfold mj_r; decide) ?_
          obtain ⟨h0, h⟩ := h
          refine mr_iadd (pc' := 168) rfl rfl h0 ?_
          refine mr_put (pc' := 171) rfl rfl rfl rfl (fun σ8 e9 => ?_)
          replace h := h σ8 e9
          obtain ⟨h0, h⟩ := h
          refine mr_iinc (pc' := 174) rfl rfl rfl trivial h0 rfl ?_
          refine mr_goto rfl ?_
          exact mj_W_ls (mj_B_mono _) (mj_lev_of _ _ (by simp [mj_levb])) h
        · replace h := h.2 c
          refine mr_const (pc' := 163) rfl rfl (by unfold mj_r; decide) ?_
          refine mr_goto rfl ?_
          obtain ⟨h0, h⟩ := h
          refine mr_iadd (pc' := 168) rfl rfl h0 ?_
          refine mr_put (pc' := 171) rfl rfl rfl rfl (fun σ9 e9 => ?_)
          replace h := h σ9 e9
          obtain ⟨h0, h⟩ := h
          refine mr_iinc (pc' := 174) rfl rfl rfl trivial h0 rfl ?_
          refine mr_goto rfl ?_
          exact mj_W_ls (mj_B_mono _) (mj_lev_of _ _ (by simp [mj_levb])) h
set_option maxRecDepth 20000 in
/-- ListSpeakerModel.collect_ -/
theorem wq_m49 {d : Nat} {σ : mj_S} {Q : mj_Q} (h : mj_r ((σ 0 13) + 1) ∧ ∀ σ1, σ1 = mj_up σ 0 13 ((σ 0 13) + 1) → qh_m49_12 d Q 0 σ1) : mj_B mjm_L mjm_Ms (d + 1) 49 [.inr (.inl 0)] σ Q := by
  refine mj_B_of (M := mjmM49) (ls := [some (.inr (.inl 0)), none, none]) rfl (mj_c1_all rfl) (Nat.le_of_ble_eq_true rfl) rfl ?_
  refine mr_aload (pc' := 1) rfl rfl rfl ?_
  refine mr_dup (pc' := 2) rfl rfl trivial ?_
  refine mr_get (ci := 0) (pc' := 5) rfl rfl rfl rfl ?_
  refine mr_const (pc' := 6) rfl rfl (by unfold mj_r; decide) ?_
  obtain ⟨h0, h⟩ := h
  refine mr_iadd (pc' := 7) rfl rfl h0 ?_
  refine mr_put (pc' := 10) rfl rfl rfl rfl (fun σ1 e9 => ?_)
  replace h := h σ1 e9
  refine mr_const (pc' := 11) rfl rfl (by unfold mj_r; decide) ?_
  refine mr_istore (pc' := 12) rfl rfl trivial (Nat.le_of_ble_eq_true rfl) rfl ?_
  exact mj_W_ls (mj_B_mono _) (mj_lev_of _ _ (by simp [mj_levb])) h
set_option maxRecDepth 20000 in
/-- ListSpeakerModel.reach_ -/
theorem wq_m50 {d : Nat} {σ : mj_S} {Q : mj_Q} {x1 x2 : Int} (h : (x1 < 536871312 → Q (some (.inl x2)) σ) ∧ (536871312 ≤ x1 → mj_r (x1 - 536870912) ∧ mj_r ((x1 - 536870912) - 400) ∧ 0 ≤ ((x1 - 536870912) - 400) ∧ ((x1 - 536870912) - 400) < 200 ∧ ((σ 7 ((x1 - 536870912) - 400).toNat) = 0 → mj_r (x1 - 536870912) ∧ mj_r ((x1 - 536870912) - 400) ∧ 0 ≤ ((x1 - 536870912) - 400) ∧ ((x1 - 536870912) - 400) < 200 ∧ mj_fit .boolean 1 ∧ ∀ σ1, σ1 = mj_up σ 7 ((x1 - 536870912) - 400).toNat 1 → mj_r (x1 - 536870912) ∧ 0 ≤ x2 ∧ x2 < 700 ∧ ∀ σ2, σ2 = mj_up σ1 8 x2.toNat (x1 - 536870912) → mj_r (x2 + 1) ∧ Q (some (.inl (x2 + 1))) σ2) ∧ (¬ (σ 7 ((x1 - 536870912) - 400).toNat) = 0 → Q (some (.inl x2)) σ))) : mj_B mjm_L mjm_Ms (d + 1) 50 [.inr (.inl 0), .inl x1, .inl x2] σ Q := by
  refine mj_B_of (M := mjmM50) (ls := [some (.inr (.inl 0)), some (.inl x1), some (.inl x2)]) rfl (mj_c1_all rfl) (Nat.le_of_ble_eq_true rfl) rfl ?_
  refine mr_iload (pc' := 1) rfl rfl rfl ?_
  refine mr_const (pc' := 4) rfl rfl (by unfold mj_r; decide) ?_
  refine mr_ic_lt (pc' := 7) rfl rfl (fun c => ?_) (fun c => ?_)
  · replace h := h.1 c
    refine mr_iload (pc' := 24) rfl rfl rfl ?_
    exact mr_iret rfl rfl trivial h
  · replace h := h.2 c
    refine mr_aload (pc' := 8) rfl rfl rfl ?_
    refine mr_getr (ci := 0) (pc' := 11) rfl rfl rfl rfl ?_
    refine mr_iload (pc' := 12) rfl rfl rfl ?_
    refine mr_const (pc' := 14) rfl rfl (by unfold mj_r; decide) ?_
    obtain ⟨h0, h⟩ := h
    refine mr_isub (pc' := 15) rfl rfl h0 ?_
    refine mr_const (pc' := 18) rfl rfl (by unfold mj_r; decide) ?_
    obtain ⟨h0, h⟩ := h
    refine mr_isub (pc' := 19) rfl rfl h0 ?_
    obtain ⟨h0, h1, h⟩ := h
    refine mr_zald (pc' := 20) rfl rfl rfl h0 h1 ?_
    refine mr_if_eq (pc' := 23) rfl rfl (fun c => ?_) (fun c => ?_)
    · replace h := h.1 c
      refine mr_aload (pc' := 26) rfl rfl rfl ?_
      refine mr_getr (ci := 0) (pc' := 29) rfl rfl rfl rfl ?_
      refine mr_iload (pc' := 30) rfl rfl rfl ?_
      refine mr_const (pc' := 32) rfl rfl (by unfold mj_r; decide) ?_
      obtain ⟨h0, h⟩ := h
      refine mr_isub (pc' := 33) rfl rfl h0 ?_
      refine mr_const (pc' := 36) rfl rfl (by unfold mj_r; decide) ?_
      obtain ⟨h0, h⟩ := h
      refine mr_isub (pc' := 37) rfl rfl h0 ?_
      refine mr_const (pc' := 38) rfl rfl (by unfold mj_r; decide) ?_
      obtain ⟨h0, h1, h2, h⟩ := h
      refine mr_zast (pc' := 39) rfl rfl rfl h0 h1 h2 (fun σ1 e9 => ?_)
      replace h := h σ1 e9
      refine mr_aload (pc' := 40) rfl rfl rfl ?_
      refine mr_getr (ci := 0) (pc' := 43) rfl rfl rfl rfl ?_
      refine mr_iload (pc' := 44) rfl rfl rfl ?_
      refine mr_iload (pc' := 45) rfl rfl rfl ?_
      refine mr_const (pc' := 47) rfl rfl (by unfold mj_r; decide) ?_
      obtain ⟨h0, h⟩ := h
      refine mr_isub (pc' := 48) rfl rfl h0 ?_
      obtain ⟨h0, h1, h⟩ := h
      refine mr_iast (pc' := 49) rfl rfl rfl h0 h1 (fun σ2 e9 => ?_)
      replace h := h σ2 e9
      refine mr_iload (pc' := 50) rfl rfl rfl ?_
      refine mr_const (pc' := 51) rfl rfl (by unfold mj_r; decide) ?_
      obtain ⟨h0, h⟩ := h
      refine mr_iadd (pc' := 52) rfl rfl h0 ?_
      exact mr_iret rfl rfl trivial h
    · replace h := h.2 c
      refine mr_iload (pc' := 24) rfl rfl rfl ?_
      exact mr_iret rfl rfl trivial h
def qh_m53_37 (d : Nat) (Q : mj_Q) (y1 y2 y3 : Int) (σ : mj_S) : Prop := mj_P mjm_L mjm_Ms d mjmo53 ((Option.none : Option Jvm.ClassFile.FieldType)) Q 37 [some (.inr (.inl 0)), some (.inl y1), some (.inl y2), some (.inl y3)] [] σ
set_option maxRecDepth 20000 in
theorem qw_m53_37 {d : Nat} {Q : mj_Q} {y1 y2 y3 : Int} {σ : mj_S} (h : (¬ y1 = 20 → (¬ y1 = 16 → (y1 = 11 → (536870912 ≤ y3 → (¬ y1 = 11 → z_pr y3 ∧ 0 ≤ σ 0 31 ∧ σ 0 31 ≤ 100 ∧ ∀ σ1, σ1 = z_pu σ (z_cd (σ 5) y3) → Q none σ1) ∧ (y1 = 11 → z_pr y3 ∧ 0 ≤ σ 0 31 ∧ σ 0 31 ≤ 100 ∧ ∀ σ2, σ2 = z_pu σ (z_cd (σ 4) y3) → Q none σ2)) ∧ (¬ (536870912 ≤ y3) → 0 ≤ σ 0 31 ∧ σ 0 31 ≤ 100 ∧ ∀ σ3, σ3 = z_pu σ 268435456 → Q none σ3)) ∧ (¬ y1 = 11 → (¬ y1 = 12 → (¬ y1 = 13 → (¬ y1 = 14 → (¬ y1 = 15 → (¬ y1 = 19 → (¬ y1 = 18 → mj_r ((z_nu y3) + (z_nu y2)) ∧ (((z_nu y3) + (z_nu y2)) ≤ 268435455 → mj_r ((z_nu y3) + (z_nu y2)) ∧ 0 ≤ σ 0 31 ∧ σ 0 31 ≤ 100 ∧ ∀ σ4, σ4 = z_pu σ ((z_nu y3) + (z_nu y2)) → Q none σ4) ∧ (268435455 < ((z_nu y3) + (z_nu y2)) → ∀ σ5, σ5 = z_sp σ 7 → Q none σ5)) ∧ (y1 = 18 → ((z_nu y2) ≤ (z_nu y3) → mj_r ((z_nu y3) - (z_nu y2)) ∧ 0 ≤ σ 0 31 ∧ σ 0 31 ≤ 100 ∧ ∀ σ6, σ6 = z_pu σ ((z_nu y3) - (z_nu y2)) → Q none σ6) ∧ ((z_nu y3) < (z_nu y2) → 0 ≤ σ 0 31 ∧ σ 0 31 ≤ 100 ∧ ∀ σ7, σ7 = z_pu σ 0 → Q none σ7))) ∧ (y1 = 19 → ((z_nu y2) ≤ (z_nu y3) → 0 ≤ σ 0 31 ∧ σ 0 31 ≤ 100 ∧ ∀ σ8, σ8 = z_pu σ (z_tr 0) → Q none σ8) ∧ ((z_nu y3) < (z_nu y2) → 0 ≤ σ 0 31 ∧ σ 0 31 ≤ 100 ∧ ∀ σ9, σ9 = z_pu σ (z_tr 1) → Q none σ9))) ∧ (y1 = 15 → 0 ≤ σ 0 31 ∧ σ 0 31 ≤ 100 ∧ ∀ σ10, σ10 = z_pu σ (z_tr (if 268435456 ≤ y3 ∧ y3 < 536870912 then 1 else 0)) → Q none σ10)) ∧ (y1 = 14 → (y3 < 0 → 0 ≤ σ 0 31 ∧ σ 0 31 ≤ 100 ∧ ∀ σ11, σ11 = z_pu σ (z_tr 0) → Q none σ11) ∧ (0 ≤ y3 → (268435455 < y3 → 0 ≤ σ 0 31 ∧ σ 0 31 ≤ 100 ∧ ∀ σ12, σ12 = z_pu σ (z_tr 0) → Q none σ12) ∧ (y3 ≤ 268435455 → 0 ≤ σ 0 31 ∧ σ 0 31 ≤ 100 ∧ ∀ σ13, σ13 = z_pu σ (z_tr 1) → Q none σ13)))) ∧ (y1 = 13 → 0 ≤ σ 0 31 ∧ σ 0 31 ≤ 100 ∧ ∀ σ14, σ14 = z_pu σ (z_tr (if 536870912 ≤ y3 then 1 else 0)) → Q none σ14)) ∧ (y1 = 12 → (536870912 ≤ y3 → (¬ y1 = 11 → z_pr y3 ∧ 0 ≤ σ 0 31 ∧ σ 0 31 ≤ 100 ∧ ∀ σ15, σ15 = z_pu σ (z_cd (σ 5) y3) → Q none σ15) ∧ (y1 = 11 → z_pr y3 ∧ 0 ≤ σ 0 31 ∧ σ 0 31 ≤ 100 ∧ ∀ σ16, σ16 = z_pu σ (z_cd (σ 4) y3) → Q none σ16)) ∧ (¬ (536870912 ≤ y3) → 0 ≤ σ 0 31 ∧ σ 0 31 ≤ 100 ∧ ∀ σ17, σ17 = z_pu σ 268435456 → Q none σ17)))) ∧ (y1 = 16 → mj_B mjm_L mjm_Ms (d + 2) 36 [.inr (.inl 0), .inl y3, .inl y2, .inl 1] σ (fun r σ18 => ∃ v19, r = some (.inl v19) ∧ 0 ≤ σ18 0 31 ∧ σ18 0 31 ≤ 100 ∧ ∀ σ20, σ20 = z_pu σ18 (z_tr v19) → Q none σ20))) ∧ (y1 = 20 → ∀ σ21, σ21 = z_sp σ 8 → Q none σ21)) : qh_m53_37 (d + 2) Q y1 y2 y3 σ := by
  show mj_P mjm_L mjm_Ms (d + 2) mjmo53 ((Option.none : Option Jvm.ClassFile.FieldType)) Q 37 [some (.inr (.inl 0)), some (.inl y1), some (.inl y2), some (.inl y3)] [] σ
  refine mr_iload (pc' := 38) rfl rfl rfl ?_
  refine mr_const (pc' := 40) rfl rfl (by unfold mj_r; decide) ?_
  refine mr_ic_ne (pc' := 43) rfl rfl (fun c => ?_) (fun c => ?_)
  · replace h := h.1 c
    refine mr_iload (pc' := 54) rfl rfl rfl ?_
    refine mr_const (pc' := 56) rfl rfl (by unfold mj_r; decide) ?_
    refine mr_ic_ne (pc' := 59) rfl rfl (fun c => ?_) (fun c => ?_)
    · replace h := h.1 c
      refine mr_iload (pc' := 77) rfl rfl rfl ?_
      refine mr_const (pc' := 79) rfl rfl (by unfold mj_r; decide) ?_
      refine mr_ic_eq (pc' := 82) rfl rfl (fun c => ?_) (fun c => ?_)
      · replace h := h.1 c
        refine mr_aload (pc' := 89) rfl rfl rfl ?_
        refine mr_iload (pc' := 90) rfl rfl rfl ?_
        refine mr_call (t := []) (pc' := 93) rfl [.inl y3] rfl rfl rfl trivial (Nat.le_of_ble_eq_true rfl) (s_m3  ?_)
        refine mr_if_ne (pc' := 96) rfl rfl (fun c => ?_) (fun c => ?_)
        · replace h := h.1 (bo_1 c)
          refine mr_iload (pc' := 102) rfl rfl rfl ?_
          refine mr_const (pc' := 104) rfl rfl (by unfold mj_r; decide) ?_
          refine mr_ic_ne (pc' := 107) rfl rfl (fun c => ?_) (fun c => ?_)
          · replace h := h.1 c
            refine mr_aload (pc' := 116) rfl rfl rfl ?_
            refine mr_iload (pc' := 117) rfl rfl rfl ?_
            obtain ⟨h0, h⟩ := h
            refine mr_call (t := [(9, 0)]) (pc' := 120) rfl [.inr (.inl 0), .inl y3] rfl rfl rfl (mj_recvV rfl) (Nat.le_of_ble_eq_true rfl) (s_m6 h0 ?_)
            obtain ⟨h0, h1, h⟩ := h
            refine mr_call (t := [(9, 0)]) (pc' := 123) rfl [.inr (.inl 0), .inl (z_cd (σ 5) y3)] rfl rfl rfl (mj_recvV rfl) (Nat.le_of_ble_eq_true rfl) (s_m38 h0 h1 (fun σ1 e9 => ?_))
            replace h := h σ1 e9
            refine mr_goto rfl ?_
            exact mr_ret rfl rfl h
          · replace h := h.2 c
            refine mr_aload (pc' := 108) rfl rfl rfl ?_
            refine mr_iload (pc' := 109) rfl rfl rfl ?_
            obtain ⟨h0, h⟩ := h
            refine mr_call (t := [(9, 0)]) (pc' := 112) rfl [.inr (.inl 0), .inl y3] rfl rfl rfl (mj_recvV rfl) (Nat.le_of_ble_eq_true rfl) (s_m5 h0 ?_)
            refine mr_goto rfl ?_
            obtain ⟨h0, h1, h⟩ := h
            refine mr_call (t := [(9, 0)]) (pc' := 123) rfl [.inr (.inl 0), .inl (z_cd (σ 4) y3)] rfl rfl rfl (mj_recvV rfl) (Nat.le_of_ble_eq_true rfl) (s_m38 h0 h1 (fun σ2 e9 => ?_))
            replace h := h σ2 e9
            refine mr_goto rfl ?_
            exact mr_ret rfl rfl h
        · replace h := h.2 (bo_0 c)
          refine mr_const (pc' := 98) rfl rfl (by unfold mj_r; decide) ?_
          refine mr_goto rfl ?_
          obtain ⟨h0, h1, h⟩ := h
          refine mr_call (t := [(9, 0)]) (pc' := 123) rfl [.inr (.inl 0), .inl 268435456] rfl rfl rfl (mj_recvV rfl) (Nat.le_of_ble_eq_true rfl) (s_m38 h0 h1 (fun σ3 e9 => ?_))
          replace h := h σ3 e9
          refine mr_goto rfl ?_
          exact mr_ret rfl rfl h
      · replace h := h.2 c
        refine mr_iload (pc' := 83) rfl rfl rfl ?_
        refine mr_const (pc' := 85) rfl rfl (by unfold mj_r; decide) ?_
        refine mr_ic_ne (pc' := 88) rfl rfl (fun c => ?_) (fun c => ?_)
        · replace h := h.1 c
          refine mr_iload (pc' := 127) rfl rfl rfl ?_
          refine mr_const (pc' := 129) rfl rfl (by unfold mj_r; decide) ?_
          refine mr_ic_ne (pc' := 132) rfl rfl (fun c => ?_) (fun c => ?_)
          · replace h := h.1 c
            refine mr_iload (pc' := 147) rfl rfl rfl ?_
            refine mr_const (pc' := 149) rfl rfl (by unfold mj_r; decide) ?_
            refine mr_ic_ne (pc' := 152) rfl rfl (fun c => ?_) (fun c => ?_)
            · replace h := h.1 c
              refine mr_iload (pc' := 179) rfl rfl rfl ?_
              refine mr_const (pc' := 181) rfl rfl (by unfold mj_r; decide) ?_
              refine mr_ic_ne (pc' := 184) rfl rfl (fun c => ?_) (fun c => ?_)
              · replace h := h.1 c
                refine mr_iload (pc' := 199) rfl rfl rfl ?_
                refine mr_const (pc' := 201) rfl rfl (by unfold mj_r; decide) ?_
                refine mr_ic_ne (pc' := 204) rfl rfl (fun c => ?_) (fun c => ?_)
                · replace h := h.1 c
                  refine mr_iload (pc' := 231) rfl rfl rfl ?_
                  refine mr_const (pc' := 233) rfl rfl (by unfold mj_r; decide) ?_
                  refine mr_ic_ne (pc' := 236) rfl rfl (fun c => ?_) (fun c => ?_)
                  · replace h := h.1 c
                    refine mr_iload (pc' := 268) rfl rfl rfl ?_
                    refine mr_call (t := []) (pc' := 271) rfl [.inl y3] rfl rfl rfl trivial (Nat.le_of_ble_eq_true rfl) (s_m52  ?_)
                    refine mr_iload (pc' := 272) rfl rfl rfl ?_
                    refine mr_call (t := []) (pc' := 275) rfl [.inl y2] rfl rfl rfl trivial (Nat.le_of_ble_eq_true rfl) (s_m52  ?_)
                    obtain ⟨h0, h⟩ := h
                    refine mr_iadd (pc' := 276) rfl rfl h0 ?_
                    refine mr_const (pc' := 279) rfl rfl (by unfold mj_r; decide) ?_
                    refine mr_ic_le (pc' := 282) rfl rfl (fun c => ?_) (fun c => ?_)
                    · replace h := h.1 c
                      refine mr_aload (pc' := 293) rfl rfl rfl ?_
                      refine mr_iload (pc' := 294) rfl rfl rfl ?_
                      refine mr_call (t := []) (pc' := 297) rfl [.inl y3] rfl rfl rfl trivial (Nat.le_of_ble_eq_true rfl) (s_m52  ?_)
                      refine mr_iload (pc' := 298) rfl rfl rfl ?_
                      refine mr_call (t := []) (pc' := 301) rfl [.inl y2] rfl rfl rfl trivial (Nat.le_of_ble_eq_true rfl) (s_m52  ?_)
                      obtain ⟨h0, h⟩ := h
                      refine mr_iadd (pc' := 302) rfl rfl h0 ?_
                      obtain ⟨h0, h1, h⟩ := h
                      refine mr_call (t := [(9, 0)]) (pc' := 305) rfl [.inr (.inl 0), .inl ((z_nu y3) + (z_nu y2))] rfl rfl rfl (mj_recvV rfl) (Nat.le_of_ble_eq_true rfl) (s_m38 h0 h1 (fun σ4 e9 => ?_))
                      replace h := h σ4 e9
                      exact mr_ret rfl rfl h
                    · replace h := h.2 c
                      refine mr_aload (pc' := 283) rfl rfl rfl ?_
                      refine mr_const (pc' := 285) rfl rfl (by unfold mj_r; decide) ?_
                      refine mr_call (t := [(9, 0)]) (pc' := 288) rfl [.inr (.inl 0), .inl 7] rfl rfl rfl (mj_recvV rfl) (Nat.le_of_ble_eq_true rfl) (s_m2  (fun σ5 e9 => ?_))
                      replace h := h σ5 e9
                      refine mr_pop (pc' := 289) rfl rfl trivial ?_
                      refine mr_goto rfl ?_
                      exact mr_ret rfl rfl h
                  · replace h := h.2 c
                    refine mr_aload (pc' := 237) rfl rfl rfl ?_
                    refine mr_iload (pc' := 238) rfl rfl rfl ?_
                    refine mr_call (t := []) (pc' := 241) rfl [.inl y3] rfl rfl rfl trivial (Nat.le_of_ble_eq_true rfl) (s_m52  ?_)
                    refine mr_iload (pc' := 242) rfl rfl rfl ?_
                    refine mr_call (t := []) (pc' := 245) rfl [.inl y2] rfl rfl rfl trivial (Nat.le_of_ble_eq_true rfl) (s_m52  ?_)
                    refine mr_ic_ge (pc' := 248) rfl rfl (fun c => ?_) (fun c => ?_)
                    · replace h := h.1 c
                      refine mr_iload (pc' := 253) rfl rfl rfl ?_
                      refine mr_call (t := []) (pc' := 256) rfl [.inl y3] rfl rfl rfl trivial (Nat.le_of_ble_eq_true rfl) (s_m52  ?_)
                      refine mr_iload (pc' := 257) rfl rfl rfl ?_
                      refine mr_call (t := []) (pc' := 260) rfl [.inl y2] rfl rfl rfl trivial (Nat.le_of_ble_eq_true rfl) (s_m52  ?_)
                      obtain ⟨h0, h⟩ := h
                      refine mr_isub (pc' := 261) rfl rfl h0 ?_
                      obtain ⟨h0, h1, h⟩ := h
                      refine mr_call (t := [(9, 0)]) (pc' := 264) rfl [.inr (.inl 0), .inl ((z_nu y3) - (z_nu y2))] rfl rfl rfl (mj_recvV rfl) (Nat.le_of_ble_eq_true rfl) (s_m38 h0 h1 (fun σ6 e9 => ?_))
                      replace h := h σ6 e9
                      refine mr_goto rfl ?_
                      exact mr_ret rfl rfl h
                    · replace h := h.2 c
                      refine mr_const (pc' := 249) rfl rfl (by unfold mj_r; decide) ?_
                      refine mr_goto rfl ?_
                      obtain ⟨h0, h1, h⟩ := h
                      refine mr_call (t := [(9, 0)]) (pc' := 264) rfl [.inr (.inl 0), .inl 0] rfl rfl rfl (mj_recvV rfl) (Nat.le_of_ble_eq_true rfl) (s_m38 h0 h1 (fun σ7 e9 => ?_))
                      replace h := h σ7 e9
                      refine mr_goto rfl ?_
                      exact mr_ret rfl rfl h
                · replace h := h.2 c
                  refine mr_aload (pc' := 205) rfl rfl rfl ?_
                  refine mr_iload (pc' := 206) rfl rfl rfl ?_
                  refine mr_call (t := []) (pc' := 209) rfl [.inl y3] rfl rfl rfl trivial (Nat.le_of_ble_eq_true rfl) (s_m52  ?_)
                  refine mr_iload (pc' := 210) rfl rfl rfl ?_
                  refine mr_call (t := []) (pc' := 213) rfl [.inl y2] rfl rfl rfl trivial (Nat.le_of_ble_eq_true rfl) (s_m52  ?_)
                  refine mr_ic_ge (pc' := 216) rfl rfl (fun c => ?_) (fun c => ?_)
                  · replace h := h.1 c
                    refine mr_const (pc' := 221) rfl rfl (by unfold mj_r; decide) ?_
                    refine mr_call (t := []) (pc' := 224) rfl [.inl 0] rfl rfl rfl trivial (Nat.le_of_ble_eq_true rfl) (s_m51  ?_)
                    obtain ⟨h0, h1, h⟩ := h
                    refine mr_call (t := [(9, 0)]) (pc' := 227) rfl [.inr (.inl 0), .inl (z_tr 0)] rfl rfl rfl (mj_recvV rfl) (Nat.le_of_ble_eq_true rfl) (s_m38 h0 h1 (fun σ8 e9 => ?_))
                    replace h := h σ8 e9
                    refine mr_goto rfl ?_
                    exact mr_ret rfl rfl h
                  · replace h := h.2 c
                    refine mr_const (pc' := 217) rfl rfl (by unfold mj_r; decide) ?_
                    refine mr_goto rfl ?_
                    refine mr_call (t := []) (pc' := 224) rfl [.inl 1] rfl rfl rfl trivial (Nat.le_of_ble_eq_true rfl) (s_m51  ?_)
                    obtain ⟨h0, h1, h⟩ := h
                    refine mr_call (t := [(9, 0)]) (pc' := 227) rfl [.inr (.inl 0), .inl (z_tr 1)] rfl rfl rfl (mj_recvV rfl) (Nat.le_of_ble_eq_true rfl) (s_m38 h0 h1 (fun σ9 e9 => ?_))
                    replace h := h σ9 e9
                    refine mr_goto rfl ?_
                    exact mr_ret rfl rfl h
              · replace h := h.2 c
                refine mr_aload (pc' := 185) rfl rfl rfl ?_
                refine mr_iload (pc' := 186) rfl rfl rfl ?_
                refine mr_call (t := []) (pc' := 189) rfl [.inl y3] rfl rfl rfl trivial (Nat.le_of_ble_eq_true rfl) (s_m4  ?_)
                refine mr_call (t := []) (pc' := 192) rfl [.inl (if 268435456 ≤ y3 ∧ y3 < 536870912 then 1 else 0)] rfl rfl rfl trivial (Nat.le_of_ble_eq_true rfl) (s_m51  ?_)
                obtain ⟨h0, h1, h⟩ := h
                refine mr_call (t := [(9, 0)]) (pc' := 195) rfl [.inr (.inl 0), .inl (z_tr (if 268435456 ≤ y3 ∧ y3 < 536870912 then 1 else 0))] rfl rfl rfl (mj_recvV rfl) (Nat.le_of_ble_eq_true rfl) (s_m38 h0 h1 (fun σ10 e9 => ?_))
                replace h := h σ10 e9
                refine mr_goto rfl ?_
                exact mr_ret rfl rfl h
            · replace h := h.2 c
              refine mr_aload (pc' := 153) rfl rfl rfl ?_
              refine mr_iload (pc' := 154) rfl rfl rfl ?_
              refine mr_if_lt (pc' := 157) rfl rfl (fun c => ?_) (fun c => ?_)
              · replace h := h.1 c
                refine mr_const (pc' := 169) rfl rfl (by unfold mj_r; decide) ?_
                refine mr_call (t := []) (pc' := 172) rfl [.inl 0] rfl rfl rfl trivial (Nat.le_of_ble_eq_true rfl) (s_m51  ?_)
                obtain ⟨h0, h1, h⟩ := h
                refine mr_call (t := [(9, 0)]) (pc' := 175) rfl [.inr (.inl 0), .inl (z_tr 0)] rfl rfl rfl (mj_recvV rfl) (Nat.le_of_ble_eq_true rfl) (s_m38 h0 h1 (fun σ11 e9 => ?_))
                replace h := h σ11 e9
                refine mr_goto rfl ?_
                exact mr_ret rfl rfl h
              · replace h := h.2 c
                refine mr_iload (pc' := 158) rfl rfl rfl ?_
                refine mr_const (pc' := 161) rfl rfl (by unfold mj_r; decide) ?_
                refine mr_ic_gt (pc' := 164) rfl rfl (fun c => ?_) (fun c => ?_)
                · replace h := h.1 c
                  refine mr_const (pc' := 169) rfl rfl (by unfold mj_r; decide) ?_
                  refine mr_call (t := []) (pc' := 172) rfl [.inl 0] rfl rfl rfl trivial (Nat.le_of_ble_eq_true rfl) (s_m51  ?_)
                  obtain ⟨h0, h1, h⟩ := h
                  refine mr_call (t := [(9, 0)]) (pc' := 175) rfl [.inr (.inl 0), .inl (z_tr 0)] rfl rfl rfl (mj_recvV rfl) (Nat.le_of_ble_eq_true rfl) (s_m38 h0 h1 (fun σ12 e9 => ?_))
                  replace h := h σ12 e9
                  refine mr_goto rfl ?_
                  exact mr_ret rfl rfl h
                · replace h := h.2 c
                  refine mr_const (pc' := 165) rfl rfl (by unfold mj_r; decide) ?_
                  refine mr_goto rfl ?_
                  refine mr_call (t := []) (pc' := 172) rfl [.inl 1] rfl rfl rfl trivial (Nat.le_of_ble_eq_true rfl) (s_m51  ?_)
                  obtain ⟨h0, h1, h⟩ := h
                  refine mr_call (t := [(9, 0)]) (pc' := 175) rfl [.inr (.inl 0), .inl (z_tr 1)] rfl rfl rfl (mj_recvV rfl) (Nat.le_of_ble_eq_true rfl) (s_m38 h0 h1 (fun σ13 e9 => ?_))
                  replace h := h σ13 e9
                  refine mr_goto rfl ?_
                  exact mr_ret rfl rfl h
          · replace h := h.2 c
            refine mr_aload (pc' := 133) rfl rfl rfl ?_
            refine mr_iload (pc' := 134) rfl rfl rfl ?_
            refine mr_call (t := []) (pc' := 137) rfl [.inl y3] rfl rfl rfl trivial (Nat.le_of_ble_eq_true rfl) (s_m3  ?_)
            refine mr_call (t := []) (pc' := 140) rfl [.inl (if 536870912 ≤ y3 then 1 else 0)] rfl rfl rfl trivial (Nat.le_of_ble_eq_true rfl) (s_m51  ?_)
            obtain ⟨h0, h1, h⟩ := h
            refine mr_call (t := [(9, 0)]) (pc' := 143) rfl [.inr (.inl 0), .inl (z_tr (if 536870912 ≤ y3 then 1 else 0))] rfl rfl rfl (mj_recvV rfl) (Nat.le_of_ble_eq_true rfl) (s_m38 h0 h1 (fun σ14 e9 => ?_))
            replace h := h σ14 e9
            refine mr_goto rfl ?_
            exact mr_ret rfl rfl h
        · replace h := h.2 c
          refine mr_aload (pc' := 89) rfl rfl rfl ?_
          refine mr_iload (pc' := 90) rfl rfl rfl ?_
          refine mr_call (t := []) (pc' := 93) rfl [.inl y3] rfl rfl rfl trivial (Nat.le_of_ble_eq_true rfl) (s_m3  ?_)
          refine mr_if_ne (pc' := 96) rfl rfl (fun c => ?_) (fun c => ?_)
          · replace h := h.1 (bo_1 c)
            refine mr_iload (pc' := 102) rfl rfl rfl ?_
            refine mr_const (pc' := 104) rfl rfl (by unfold mj_r; decide) ?_
            refine mr_ic_ne (pc' := 107) rfl rfl (fun c => ?_) (fun c => ?_)
            · replace h := h.1 c
              refine mr_aload (pc' := 116) rfl rfl rfl ?_
              refine mr_iload (pc' := 117) rfl rfl rfl ?_
              obtain ⟨h0, h⟩ := h
              refine mr_call (t := [(9, 0)]) (pc' := 120) rfl [.inr (.inl 0), .inl y3] rfl rfl rfl (mj_recvV rfl) (Nat.le_of_ble_eq_true rfl) (s_m6 h0 ?_)
              obtain ⟨h0, h1, h⟩ := h
              refine mr_call (t := [(9, 0)]) (pc' := 123) rfl [.inr (.inl 0), .inl (z_cd (σ 5) y3)] rfl rfl rfl (mj_recvV rfl) (Nat.le_of_ble_eq_true rfl) (s_m38 h0 h1 (fun σ15 e9 => ?_))
              replace h := h σ15 e9
              refine mr_goto rfl ?_
              exact mr_ret rfl rfl h
            · replace h := h.2 c
              refine mr_aload (pc' := 108) rfl rfl rfl ?_
              refine mr_iload (pc' := 109) rfl rfl rfl ?_
              obtain ⟨h0, h⟩ := h
              refine mr_call (t := [(9, 0)]) (pc' := 112) rfl [.inr (.inl 0), .inl y3] rfl rfl rfl (mj_recvV rfl) (Nat.le_of_ble_eq_true rfl) (s_m5 h0 ?_)
              refine mr_goto rfl ?_
              obtain ⟨h0, h1, h⟩ := h
              refine mr_call (t := [(9, 0)]) (pc' := 123) rfl [.inr (.inl 0), .inl (z_cd (σ 4) y3)] rfl rfl rfl (mj_recvV rfl) (Nat.le_of_ble_eq_true rfl) (s_m38 h0 h1 (fun σ16 e9 => ?_))
              replace h := h σ16 e9
              refine mr_goto rfl ?_
              exact mr_ret rfl rfl h
          · replace h := h.2 (bo_0 c)
            refine mr_const (pc' := 98) rfl rfl (by unfold mj_r; decide) ?_
            refine mr_goto rfl ?_
            obtain ⟨h0, h1, h⟩ := h
            refine mr_call (t := [(9, 0)]) (pc' := 123) rfl [.inr (.inl 0), .inl 268435456] rfl rfl rfl (mj_recvV rfl) (Nat.le_of_ble_eq_true rfl) (s_m38 h0 h1 (fun σ17 e9 => ?_))
            replace h := h σ17 e9
            refine mr_goto rfl ?_
            exact mr_ret rfl rfl h
    · replace h := h.2 c
      refine mr_aload (pc' := 60) rfl rfl rfl ?_
      refine mr_aload (pc' := 61) rfl rfl rfl ?_
      refine mr_iload (pc' := 62) rfl rfl rfl ?_
      refine mr_iload (pc' := 63) rfl rfl rfl ?_
      refine mr_const (pc' := 64) rfl rfl (by unfold mj_r; decide) ?_
      refine mr_call (t := [(9, 0)]) (pc' := 67) rfl [.inr (.inl 0), .inl y3, .inl y2, .inl 1] rfl rfl rfl (mj_recvV rfl) (Nat.le_of_ble_eq_true rfl) (mj_B_mono _ _ _ _ _ _ (fun r σ18 h => ?_) h)
      obtain ⟨v19, rfl, h⟩ := h
      refine mr_call (t := []) (pc' := 70) rfl [.inl v19] rfl rfl rfl trivial (Nat.le_of_ble_eq_true rfl) (s_m51  ?_)
      obtain ⟨h0, h1, h⟩ := h
      refine mr_call (t := [(9, 0)]) (pc' := 73) rfl [.inr (.inl 0), .inl (z_tr v19)] rfl rfl rfl (mj_recvV rfl) (Nat.le_of_ble_eq_true rfl) (s_m38 h0 h1 (fun σ20 e9 => ?_))
      replace h := h σ20 e9
      refine mr_goto rfl ?_
      exact mr_ret rfl rfl h
  · replace h := h.2 c
    refine mr_aload (pc' := 44) rfl rfl rfl ?_
    refine mr_const (pc' := 46) rfl rfl (by unfold mj_r; decide) ?_
    refine mr_call (t := [(9, 0)]) (pc' := 49) rfl [.inr (.inl 0), .inl 8] rfl rfl rfl (mj_recvV rfl) (Nat.le_of_ble_eq_true rfl) (s_m2  (fun σ21 e9 => ?_))
    replace h := h σ21 e9
    refine mr_pop (pc' := 50) rfl rfl trivial ?_
    refine mr_goto rfl ?_
    exact mr_ret rfl rfl h
set_option maxRecDepth 20000 in
/-- ListSpeakerModel.apply_ -/
theorem wq_m53 {d : Nat} {σ : mj_S} {Q : mj_Q} {x1 : Int} (h : (¬ x1 = 10 → 1 ≤ σ 0 31 ∧ σ 0 31 ≤ 100 ∧ ∀ σ1, σ1 = mj_up σ 0 31 (σ 0 31 - 1) → (x1 < 16 → qh_m53_37 (d + 2) Q x1 (σ 20 (σ 0 31 - 1).toNat) (σ 20 (σ 0 31 - 1).toNat) σ1) ∧ (16 ≤ x1 → (20 ≤ x1 → qh_m53_37 (d + 2) Q x1 (σ 20 (σ 0 31 - 1).toNat) (σ 20 (σ 0 31 - 1).toNat) σ1) ∧ (x1 < 20 → 1 ≤ σ1 0 31 ∧ σ1 0 31 ≤ 100 ∧ ∀ σ2, σ2 = mj_up σ1 0 31 (σ1 0 31 - 1) → qh_m53_37 (d + 2) Q x1 (σ 20 (σ 0 31 - 1).toNat) (σ1 20 (σ1 0 31 - 1).toNat) σ2))) ∧ (x1 = 10 → mj_B mjm_L mjm_Ms (d + 2) 48 [.inr (.inl 0)] σ (fun r σ3 => r = none ∧ Q none σ3))) : mj_B mjm_L mjm_Ms (d + 3) 53 [.inr (.inl 0), .inl x1] σ Q := by
  refine mj_B_of (M := mjmM53) (ls := [some (.inr (.inl 0)), some (.inl x1), none, none]) rfl (mj_c1_all rfl) (Nat.le_of_ble_eq_true rfl) rfl ?_
  refine mr_iload (pc' := 1) rfl rfl rfl ?_
  refine mr_const (pc' := 3) rfl rfl (by unfold mj_r; decide) ?_
  refine mr_ic_ne (pc' := 6) rfl rfl (fun c => ?_) (fun c => ?_)
  · replace h := h.1 c
    refine mr_aload (pc' := 12) rfl rfl rfl ?_
    obtain ⟨h0, h1, h⟩ := h
    refine mr_call (t := [(9, 0)]) (pc' := 15) rfl [.inr (.inl 0)] rfl rfl rfl (mj_recvV rfl) (Nat.le_of_ble_eq_true rfl) (s_m39 h0 h1 (fun σ1 e9 => ?_))
    replace h := h σ1 e9
    refine mr_istore (pc' := 16) rfl rfl trivial (Nat.le_of_ble_eq_true rfl) rfl ?_
    refine mr_iload (pc' := 17) rfl rfl rfl ?_
    refine mr_const (pc' := 19) rfl rfl (by unfold mj_r; decide) ?_
    refine mr_ic_lt (pc' := 22) rfl rfl (fun c => ?_) (fun c => ?_)
    · replace h := h.1 c
      refine mr_iload (pc' := 36) rfl rfl rfl ?_
      refine mr_istore (pc' := 37) rfl rfl trivial (Nat.le_of_ble_eq_true rfl) rfl ?_
      exact mj_W_ls (mj_B_mono _) (mj_lev_of _ _ (by simp [mj_levb])) h
    · replace h := h.2 c
      refine mr_iload (pc' := 23) rfl rfl rfl ?_
      refine mr_const (pc' := 25) rfl rfl (by unfold mj_r; decide) ?_
      refine mr_ic_ge (pc' := 28) rfl rfl (fun c => ?_) (fun c => ?_)
      · replace h := h.1 c
        refine mr_iload (pc' := 36) rfl rfl rfl ?_
        refine mr_istore (pc' := 37) rfl rfl trivial (Nat.le_of_ble_eq_true rfl) rfl ?_
        exact mj_W_ls (mj_B_mono _) (mj_lev_of _ _ (by simp [mj_levb])) h
      · replace h := h.2 c
        refine mr_aload (pc' := 29) rfl rfl rfl ?_
        obtain ⟨h0, h1, h⟩ := h
        refine mr_call (t := [(9, 0)]) (pc' := 32) rfl [.inr (.inl 0)] rfl rfl rfl (mj_recvV rfl) (Nat.le_of_ble_eq_true rfl) (s_m39 h0 h1 (fun σ2 e9 => ?_))
        replace h := h σ2 e9
        refine mr_goto rfl ?_
        refine mr_istore (pc' := 37) rfl rfl trivial (Nat.le_of_ble_eq_true rfl) rfl ?_
        exact mj_W_ls (mj_B_mono _) (mj_lev_of _ _ (by simp [mj_levb])) h
  · replace h := h.2 c
    refine mr_aload (pc' := 7) rfl rfl rfl ?_
    refine mr_call (t := [(9, 0)]) (pc' := 10) rfl [.inr (.inl 0)] rfl rfl rfl (mj_recvV rfl) (Nat.le_of_ble_eq_true rfl) (mj_B_mono _ _ _ _ _ _ (fun r σ3 h => ?_) h)
    obtain ⟨rfl, h⟩ := h
    exact mr_ret rfl rfl h
def qh_m55_2 (d : Nat) (Q : mj_Q) (y1 y2 : Int) (σ : mj_S) : Prop := mj_P mjm_L mjm_Ms d mjmo55 ((Option.none : Option Jvm.ClassFile.FieldType)) Q 2 [some (.inr (.inl 0)), some (.inl y1), some (.inl y2)] [] σ
def qh_m55_18 (d : Nat) (Q : mj_Q) (y1 y2 : Int) (σ : mj_S) : Prop := mj_P mjm_L mjm_Ms d mjmo55 ((Option.none : Option Jvm.ClassFile.FieldType)) Q 18 [some (.inr (.inl 0)), some (.inl y1), some (.inl y2)] [] σ
set_option maxRecDepth 20000 in
theorem qw_m55_2 {d : Nat} {Q : mj_Q} {y1 y2 : Int} {σ : mj_S} (h : 0 ≤ y1 ∧ 0 < y2 ∧ ((y1 / y2) < 10 → qh_m55_18 (d + 1) Q y1 y2 σ) ∧ (10 ≤ (y1 / y2) → mj_r (10 * y2) ∧ qh_m55_2 (d + 1) Q y1 (10 * y2) σ)) : qh_m55_2 (d + 1) Q y1 y2 σ := by
  show mj_P mjm_L mjm_Ms (d + 1) mjmo55 ((Option.none : Option Jvm.ClassFile.FieldType)) Q 2 [some (.inr (.inl 0)), some (.inl y1), some (.inl y2)] [] σ
  refine mr_iload (pc' := 3) rfl rfl rfl ?_
  refine mr_iload (pc' := 4) rfl rfl rfl ?_
  obtain ⟨h0, h1, h⟩ := h
  refine mr_idiv (pc' := 5) rfl rfl h0 h1 ?_
  refine mr_const (pc' := 7) rfl rfl (by unfold mj_r; decide) ?_
  refine mr_ic_lt (pc' := 10) rfl rfl (fun c => ?_) (fun c => ?_)
  · replace h := h.1 c
    exact mj_W_ls (mj_B_mono _) (mj_lev_of _ _ (by simp [mj_levb])) h
  · replace h := h.2 c
    refine mr_const (pc' := 12) rfl rfl (by unfold mj_r; decide) ?_
    refine mr_iload (pc' := 13) rfl rfl rfl ?_
    obtain ⟨h0, h⟩ := h
    refine mr_imul (pc' := 14) rfl rfl h0 ?_
    refine mr_istore (pc' := 15) rfl rfl trivial (Nat.le_of_ble_eq_true rfl) rfl ?_
    refine mr_goto rfl ?_
    exact mj_W_ls (mj_B_mono _) (mj_lev_of _ _ (by simp [mj_levb])) h
set_option maxRecDepth 20000 in
theorem qw_m55_18 {d : Nat} {Q : mj_Q} {y1 y2 : Int} {σ : mj_S} (h : (y2 ≤ 0 → Q none σ) ∧ (0 < y2 → 0 ≤ y1 ∧ 0 < y2 ∧ 0 ≤ (y1 / y2) ∧ 0 < (10 : Int) ∧ mj_r (48 + ((y1 / y2) % 10)) ∧ 0 ≤ σ 0 44 ∧ σ 0 44 ≤ 400 ∧ ∀ σ1, σ1 = z_pt σ (48 + ((y1 / y2) % 10)) → 0 ≤ y2 ∧ 0 < (10 : Int) ∧ qh_m55_18 (d + 1) Q y1 (y2 / 10) σ1)) : qh_m55_18 (d + 1) Q y1 y2 σ := by
  show mj_P mjm_L mjm_Ms (d + 1) mjmo55 ((Option.none : Option Jvm.ClassFile.FieldType)) Q 18 [some (.inr (.inl 0)), some (.inl y1), some (.inl y2)] [] σ
  refine mr_iload (pc' := 19) rfl rfl rfl ?_
  refine mr_if_le (pc' := 22) rfl rfl (fun c => ?_) (fun c => ?_)
  · replace h := h.1 c
    exact mr_ret rfl rfl h
  · replace h := h.2 c
    refine mr_aload (pc' := 23) rfl rfl rfl ?_
    refine mr_const (pc' := 25) rfl rfl (by unfold mj_r; decide) ?_
    refine mr_iload (pc' := 26) rfl rfl rfl ?_
    refine mr_iload (pc' := 27) rfl rfl rfl ?_
    obtain ⟨h0, h1, h⟩ := h
    refine mr_idiv (pc' := 28) rfl rfl h0 h1 ?_
    refine mr_const (pc' := 30) rfl rfl (by unfold mj_r; decide) ?_
    obtain ⟨h0, h1, h⟩ := h
    refine mr_irem (pc' := 31) rfl rfl h0 h1 ?_
    obtain ⟨h0, h⟩ := h
    refine mr_iadd (pc' := 32) rfl rfl h0 ?_
    obtain ⟨h0, h1, h⟩ := h
    refine mr_call (t := [(9, 0)]) (pc' := 35) rfl [.inr (.inl 0), .inl (48 + ((y1 / y2) % 10))] rfl rfl rfl (mj_recvV rfl) (Nat.le_of_ble_eq_true rfl) (s_m54 h0 h1 (fun σ1 e9 => ?_))
    replace h := h σ1 e9
    refine mr_iload (pc' := 36) rfl rfl rfl ?_
    refine mr_const (pc' := 38) rfl rfl (by unfold mj_r; decide) ?_
    obtain ⟨h0, h1, h⟩ := h
    refine mr_idiv (pc' := 39) rfl rfl h0 h1 ?_
    refine mr_istore (pc' := 40) rfl rfl trivial (Nat.le_of_ble_eq_true rfl) rfl ?_
    refine mr_goto rfl ?_
    exact mj_W_ls (mj_B_mono _) (mj_lev_of _ _ (by simp [mj_levb])) h
set_option maxRecDepth 20000 in
/-- ListSpeakerModel.printNumber_ -/
theorem wq_m55 {d : Nat} {σ : mj_S} {Q : mj_Q} {x1 : Int} (h : qh_m55_2 (d + 1) Q x1 1 σ) : mj_B mjm_L mjm_Ms (d + 2) 55 [.inr (.inl 0), .inl x1] σ Q := by
  refine mj_B_of (M := mjmM55) (ls := [some (.inr (.inl 0)), some (.inl x1), none]) rfl (mj_c1_all rfl) (Nat.le_of_ble_eq_true rfl) rfl ?_
  refine mr_const (pc' := 1) rfl rfl (by unfold mj_r; decide) ?_
  refine mr_istore (pc' := 2) rfl rfl trivial (Nat.le_of_ble_eq_true rfl) rfl ?_
  exact mj_W_ls (mj_B_mono _) (mj_lev_of _ _ (by simp [mj_levb])) h
def qh_m56_14 (d : Nat) (Q : mj_Q) (y1 y2 : Int) (σ : mj_S) : Prop := mj_P mjm_L mjm_Ms d mjmo56 ((Option.none : Option Jvm.ClassFile.FieldType)) Q 14 [some (.inr (.inl 0)), some (.inl y1), some (.inl y2)] [] σ
set_option maxRecDepth 20000 in
theorem qw_m56_14 {d : Nat} {Q : mj_Q} {y1 y2 : Int} {σ : mj_S} (h : (¬ (268435456 ≤ y1 ∧ y1 < 536870912) → Q none σ) ∧ (268435456 ≤ y1 ∧ y1 < 536870912 → mj_r (y1 - 268435456) ∧ 0 ≤ (y1 - 268435456) ∧ (y1 - 268435456) < 60 ∧ ((σ 3 (y1 - 268435456).toNat) ≤ y2 → Q none σ) ∧ (y2 < (σ 3 (y1 - 268435456).toNat) → mj_r (y1 - 268435456) ∧ mj_r (8 * (y1 - 268435456)) ∧ mj_r ((8 * (y1 - 268435456)) + y2) ∧ 0 ≤ ((8 * (y1 - 268435456)) + y2) ∧ ((8 * (y1 - 268435456)) + y2) < 480 ∧ 0 ≤ σ 0 44 ∧ σ 0 44 ≤ 400 ∧ ∀ σ1, σ1 = z_pt σ (σ 2 ((8 * (y1 - 268435456)) + y2).toNat) → mj_r (y2 + 1) ∧ qh_m56_14 (d + 1) Q y1 (y2 + 1) σ1))) : qh_m56_14 (d + 1) Q y1 y2 σ := by
  show mj_P mjm_L mjm_Ms (d + 1) mjmo56 ((Option.none : Option Jvm.ClassFile.FieldType)) Q 14 [some (.inr (.inl 0)), some (.inl y1), some (.inl y2)] [] σ
  refine mr_iload (pc' := 15) rfl rfl rfl ?_
  refine mr_call (t := []) (pc' := 18) rfl [.inl y1] rfl rfl rfl trivial (Nat.le_of_ble_eq_true rfl) (s_m4  ?_)
  refine mr_if_eq (pc' := 21) rfl rfl (fun c => ?_) (fun c => ?_)
  · replace h := h.1 (bo_0 c)
    exact mr_ret rfl rfl h
  · replace h := h.2 (bo_1 c)
    refine mr_iload (pc' := 22) rfl rfl rfl ?_
    refine mr_aload (pc' := 23) rfl rfl rfl ?_
    refine mr_getr (ci := 0) (pc' := 26) rfl rfl rfl rfl ?_
    refine mr_iload (pc' := 27) rfl rfl rfl ?_
    refine mr_const (pc' := 29) rfl rfl (by unfold mj_r; decide) ?_
    obtain ⟨h0, h⟩ := h
    refine mr_isub (pc' := 30) rfl rfl h0 ?_
    obtain ⟨h0, h1, h⟩ := h
    refine mr_iald (pc' := 31) rfl rfl rfl h0 h1 ?_
    refine mr_ic_ge (pc' := 34) rfl rfl (fun c => ?_) (fun c => ?_)
    · replace h := h.1 c
      exact mr_ret rfl rfl h
    · replace h := h.2 c
      refine mr_aload (pc' := 35) rfl rfl rfl ?_
      refine mr_aload (pc' := 36) rfl rfl rfl ?_
      refine mr_getr (ci := 0) (pc' := 39) rfl rfl rfl rfl ?_
      refine mr_const (pc' := 41) rfl rfl (by unfold mj_r; decide) ?_
      refine mr_iload (pc' := 42) rfl rfl rfl ?_
      refine mr_const (pc' := 44) rfl rfl (by unfold mj_r; decide) ?_
      obtain ⟨h0, h⟩ := h
      refine mr_isub (pc' := 45) rfl rfl h0 ?_
      obtain ⟨h0, h⟩ := h
      refine mr_imul (pc' := 46) rfl rfl h0 ?_
      refine mr_iload (pc' := 47) rfl rfl rfl ?_
      obtain ⟨h0, h⟩ := h
      refine mr_iadd (pc' := 48) rfl rfl h0 ?_
      obtain ⟨h0, h1, h⟩ := h
      refine mr_cald (pc' := 49) rfl rfl rfl h0 h1 ?_
      obtain ⟨h0, h1, h⟩ := h
      refine mr_call (t := [(9, 0)]) (pc' := 52) rfl [.inr (.inl 0), .inl (σ 2 ((8 * (y1 - 268435456)) + y2).toNat)] rfl rfl rfl (mj_recvV rfl) (Nat.le_of_ble_eq_true rfl) (s_m54 h0 h1 (fun σ1 e9 => ?_))
      replace h := h σ1 e9
      obtain ⟨h0, h⟩ := h
      refine mr_iinc (pc' := 55) rfl rfl rfl trivial h0 rfl ?_
      refine mr_goto rfl ?_
      exact mj_W_ls (mj_B_mono _) (mj_lev_of _ _ (by simp [mj_levb])) h
set_option maxRecDepth 20000 in
/-- ListSpeakerModel.printAtom_ -/
theorem wq_m56 {d : Nat} {σ : mj_S} {Q : mj_Q} {x1 : Int} (h : (268435456 ≤ x1 ∧ x1 < 536870912 → qh_m56_14 (d + 1) Q x1 0 σ) ∧ (¬ (268435456 ≤ x1 ∧ x1 < 536870912) → mj_B mjm_L mjm_Ms (d + 1) 55 [.inr (.inl 0), .inl x1] σ (fun r σ1 => r = none ∧ qh_m56_14 (d + 1) Q x1 0 σ1))) : mj_B mjm_L mjm_Ms (d + 2) 56 [.inr (.inl 0), .inl x1] σ Q := by
  refine mj_B_of (M := mjmM56) (ls := [some (.inr (.inl 0)), some (.inl x1), none]) rfl (mj_c1_all rfl) (Nat.le_of_ble_eq_true rfl) rfl ?_
  refine mr_iload (pc' := 1) rfl rfl rfl ?_
  refine mr_call (t := []) (pc' := 4) rfl [.inl x1] rfl rfl rfl trivial (Nat.le_of_ble_eq_true rfl) (s_m4  ?_)
  refine mr_if_ne (pc' := 7) rfl rfl (fun c => ?_) (fun c => ?_)
  · replace h := h.1 (bo_1 c)
    refine mr_const (pc' := 13) rfl rfl (by unfold mj_r; decide) ?_
    refine mr_istore (pc' := 14) rfl rfl trivial (Nat.le_of_ble_eq_true rfl) rfl ?_
    exact mj_W_ls (mj_B_mono _) (mj_lev_of _ _ (by simp [mj_levb])) h
  · replace h := h.2 (bo_0 c)
    refine mr_aload (pc' := 8) rfl rfl rfl ?_
    refine mr_iload (pc' := 9) rfl rfl rfl ?_
    refine mr_call (t := [(9, 0)]) (pc' := 12) rfl [.inr (.inl 0), .inl x1] rfl rfl rfl (mj_recvV rfl) (Nat.le_of_ble_eq_true rfl) (mj_B_mono _ _ _ _ _ _ (fun r σ1 h => ?_) h)
    obtain ⟨rfl, h⟩ := h
    refine mr_const (pc' := 13) rfl rfl (by unfold mj_r; decide) ?_
    refine mr_istore (pc' := 14) rfl rfl trivial (Nat.le_of_ble_eq_true rfl) rfl ?_
    exact mj_W_ls (mj_B_mono _) (mj_lev_of _ _ (by simp [mj_levb])) h
def qh_m57_11 (d : Nat) (Q : mj_Q) (y1 y2 y3 : Int) (σ : mj_S) : Prop := mj_P mjm_L mjm_Ms d mjmo57 ((Option.none : Option Jvm.ClassFile.FieldType)) Q 11 [some (.inr (.inl 0)), some (.inl y1), some (.inl y2), some (.inl y3), none] [] σ
def qh_m57_136 (d : Nat) (Q : mj_Q) (y1 y2 y3 y4 : Int) (σ : mj_S) : Prop := mj_P mjm_L mjm_Ms d mjmo57 ((Option.none : Option Jvm.ClassFile.FieldType)) Q 136 [some (.inr (.inl 0)), some (.inl y1), some (.inl y2), some (.inl y3), some (.inl y4)] [] σ
set_option maxRecDepth 20000 in
theorem qw_m57_11 {d : Nat} {Q : mj_Q} {y1 y2 y3 : Int} {σ : mj_S} (h : (y2 ≤ 0 → Q none σ) ∧ (0 < y2 → (400 ≤ (σ 0 44) → Q none σ) ∧ ((σ 0 44) < 400 → mj_r (y2 + (-1)) ∧ 0 ≤ (y2 + (-1)) ∧ (y2 + (-1)) < 700 ∧ (y3 = 0 → (y3 = 0 → mj_B mjm_L mjm_Ms (d + 1) 58 [.inr (.inl 0), .inl (σ 8 (y2 + (-1)).toNat), .inl (y2 + (-1))] σ (fun r σ1 => ∃ v2, r = some (.inl v2) ∧ qh_m57_136 (d + 1) Q y1 v2 y3 (σ 8 (y2 + (-1)).toNat) σ1)) ∧ (¬ y3 = 0 → ((σ 8 (y2 + (-1)).toNat) = 268435456 → 0 ≤ σ 0 44 ∧ σ 0 44 ≤ 400 ∧ ∀ σ3, σ3 = z_pt σ 41 → qh_m57_136 (d + 1) Q y1 (y2 + (-1)) y3 (σ 8 (y2 + (-1)).toNat) σ3) ∧ (¬ (σ 8 (y2 + (-1)).toNat) = 268435456 → 0 ≤ σ 0 44 ∧ σ 0 44 ≤ 400 ∧ ∀ σ4, σ4 = z_pt σ 32 → 0 ≤ σ4 0 44 ∧ σ4 0 44 ≤ 400 ∧ ∀ σ5, σ5 = z_pt σ4 46 → 0 ≤ σ5 0 44 ∧ σ5 0 44 ≤ 400 ∧ ∀ σ6, σ6 = z_pt σ5 32 → mj_B mjm_L mjm_Ms (d + 1) 56 [.inr (.inl 0), .inl (σ 8 (y2 + (-1)).toNat)] σ6 (fun r σ7 => r = none ∧ 0 ≤ σ7 0 44 ∧ σ7 0 44 ≤ 400 ∧ ∀ σ8, σ8 = z_pt σ7 41 → qh_m57_136 (d + 1) Q y1 (y2 + (-1)) y3 (σ 8 (y2 + (-1)).toNat) σ8)))) ∧ (¬ y3 = 0 → (¬ (536870912 ≤ (σ 8 (y2 + (-1)).toNat)) → (y3 = 0 → mj_B mjm_L mjm_Ms (d + 1) 58 [.inr (.inl 0), .inl (σ 8 (y2 + (-1)).toNat), .inl (y2 + (-1))] σ (fun r σ9 => ∃ v10, r = some (.inl v10) ∧ qh_m57_136 (d + 1) Q y1 v10 y3 (σ 8 (y2 + (-1)).toNat) σ9)) ∧ (¬ y3 = 0 → ((σ 8 (y2 + (-1)).toNat) = 268435456 → 0 ≤ σ 0 44 ∧ σ 0 44 ≤ 400 ∧ ∀ σ11, σ11 = z_pt σ 41 → qh_m57_136 (d + 1) Q y1 (y2 + (-1)) y3 (σ 8 (y2 + (-1)).toNat) σ11) ∧ (¬ (σ 8 (y2 + (-1)).toNat) = 268435456 → 0 ≤ σ 0 44 ∧ σ 0 44 ≤ 400 ∧ ∀ σ12, σ12 = z_pt σ 32 → 0 ≤ σ12 0 44 ∧ σ12 0 44 ≤ 400 ∧ ∀ σ13, σ13 = z_pt σ12 46 → 0 ≤ σ13 0 44 ∧ σ13 0 44 ≤ 400 ∧ ∀ σ14, σ14 = z_pt σ13 32 → mj_B mjm_L mjm_Ms (d + 1) 56 [.inr (.inl 0), .inl (σ 8 (y2 + (-1)).toNat)] σ14 (fun r σ15 => r = none ∧ 0 ≤ σ15 0 44 ∧ σ15 0 44 ≤ 400 ∧ ∀ σ16, σ16 = z_pt σ15 41 → qh_m57_136 (d + 1) Q y1 (y2 + (-1)) y3 (σ 8 (y2 + (-1)).toNat) σ16)))) ∧ (536870912 ≤ (σ 8 (y2 + (-1)).toNat) → 0 ≤ σ 0 44 ∧ σ 0 44 ≤ 400 ∧ ∀ σ17, σ17 = z_pt σ 32 → z_pr (σ 8 (y2 + (-1)).toNat) ∧ 0 ≤ (y2 + (-1)) ∧ (y2 + (-1)) < 700 ∧ ∀ σ18, σ18 = mj_up σ17 8 (y2 + (-1)).toNat (z_cd (σ17 5) (σ 8 (y2 + (-1)).toNat)) → mj_r ((y2 + (-1)) + 1) ∧ z_pr (σ 8 (y2 + (-1)).toNat) ∧ mj_B mjm_L mjm_Ms (d + 1) 58 [.inr (.inl 0), .inl (z_cd (σ18 4) (σ 8 (y2 + (-1)).toNat)), .inl ((y2 + (-1)) + 1)] σ18 (fun r σ19 => ∃ v20, r = some (.inl v20) ∧ qh_m57_136 (d + 1) Q y1 v20 y3 (σ 8 (y2 + (-1)).toNat) σ19)))))) : qh_m57_11 (d + 1) Q y1 y2 y3 σ := by
  show mj_P mjm_L mjm_Ms (d + 1) mjmo57 ((Option.none : Option Jvm.ClassFile.FieldType)) Q 11 [some (.inr (.inl 0)), some (.inl y1), some (.inl y2), some (.inl y3), none] [] σ
  refine mr_iload (pc' := 12) rfl rfl rfl ?_
  refine mr_if_le (pc' := 15) rfl rfl (fun c => ?_) (fun c => ?_)
  · replace h := h.1 c
    exact mr_ret rfl rfl h
  · replace h := h.2 c
    refine mr_aload (pc' := 16) rfl rfl rfl ?_
    refine mr_get (ci := 0) (pc' := 19) rfl rfl rfl rfl ?_
    refine mr_const (pc' := 22) rfl rfl (by unfold mj_r; decide) ?_
    refine mr_ic_ge (pc' := 25) rfl rfl (fun c => ?_) (fun c => ?_)
    · replace h := h.1 c
      exact mr_ret rfl rfl h
    · replace h := h.2 c
      obtain ⟨h0, h⟩ := h
      refine mr_iinc (pc' := 28) rfl rfl rfl trivial h0 rfl ?_
      refine mr_aload (pc' := 29) rfl rfl rfl ?_
      refine mr_getr (ci := 0) (pc' := 32) rfl rfl rfl rfl ?_
      refine mr_iload (pc' := 33) rfl rfl rfl ?_
      obtain ⟨h0, h1, h⟩ := h
      refine mr_iald (pc' := 34) rfl rfl rfl h0 h1 ?_
      refine mr_istore (pc' := 36) rfl rfl trivial (Nat.le_of_ble_eq_true rfl) rfl ?_
      refine mr_iload (pc' := 37) rfl rfl rfl ?_
      refine mr_if_eq (pc' := 40) rfl rfl (fun c => ?_) (fun c => ?_)
      · replace h := h.1 c
        refine mr_iload (pc' := 85) rfl rfl rfl ?_
        refine mr_if_eq (pc' := 88) rfl rfl (fun c => ?_) (fun c => ?_)
        · replace h := h.1 c
          refine mr_aload (pc' := 129) rfl rfl rfl ?_
          refine mr_iload (pc' := 131) rfl rfl rfl ?_
          refine mr_iload (pc' := 132) rfl rfl rfl ?_
          refine mr_call (t := [(9, 0)]) (pc' := 135) rfl [.inr (.inl 0), .inl (σ 8 (y2 + (-1)).toNat), .inl (y2 + (-1))] rfl rfl rfl (mj_recvV rfl) (Nat.le_of_ble_eq_true rfl) (mj_B_mono _ _ _ _ _ _ (fun r σ1 h => ?_) h)
          obtain ⟨v2, rfl, h⟩ := h
          refine mr_istore (pc' := 136) rfl rfl trivial (Nat.le_of_ble_eq_true rfl) rfl ?_
          exact mj_W_ls (mj_B_mono _) (mj_lev_of _ _ (by simp [mj_levb])) h
        · replace h := h.2 c
          refine mr_iload (pc' := 90) rfl rfl rfl ?_
          refine mr_const (pc' := 92) rfl rfl (by unfold mj_r; decide) ?_
          refine mr_ic_eq (pc' := 95) rfl rfl (fun c => ?_) (fun c => ?_)
          · replace h := h.1 c
            refine mr_aload (pc' := 120) rfl rfl rfl ?_
            refine mr_const (pc' := 122) rfl rfl (by unfold mj_r; decide) ?_
            obtain ⟨h0, h1, h⟩ := h
            refine mr_call (t := [(9, 0)]) (pc' := 125) rfl [.inr (.inl 0), .inl 41] rfl rfl rfl (mj_recvV rfl) (Nat.le_of_ble_eq_true rfl) (s_m54 h0 h1 (fun σ3 e9 => ?_))
            replace h := h σ3 e9
            refine mr_goto rfl ?_
            exact mj_W_ls (mj_B_mono _) (mj_lev_of _ _ (by simp [mj_levb])) h
          · replace h := h.2 c
            refine mr_aload (pc' := 96) rfl rfl rfl ?_
            refine mr_const (pc' := 98) rfl rfl (by unfold mj_r; decide) ?_
            obtain ⟨h0, h1, h⟩ := h
            refine mr_call (t := [(9, 0)]) (pc' := 101) rfl [.inr (.inl 0), .inl 32] rfl rfl rfl (mj_recvV rfl) (Nat.le_of_ble_eq_true rfl) (s_m54 h0 h1 (fun σ4 e9 => ?_))
            replace h := h σ4 e9
            refine mr_aload (pc' := 102) rfl rfl rfl ?_
            refine mr_const (pc' := 104) rfl rfl (by unfold mj_r; decide) ?_
            obtain ⟨h0, h1, h⟩ := h
            refine mr_call (t := [(9, 0)]) (pc' := 107) rfl [.inr (.inl 0), .inl 46] rfl rfl rfl (mj_recvV rfl) (Nat.le_of_ble_eq_true rfl) (s_m54 h0 h1 (fun σ5 e9 => ?_))
            replace h := h σ5 e9
            refine mr_aload (pc' := 108) rfl rfl rfl ?_
            refine mr_const (pc' := 110) rfl rfl (by unfold mj_r; decide) ?_
            obtain ⟨h0, h1, h⟩ := h
            refine mr_call (t := [(9, 0)]) (pc' := 113) rfl [.inr (.inl 0), .inl 32] rfl rfl rfl (mj_recvV rfl) (Nat.le_of_ble_eq_true rfl) (s_m54 h0 h1 (fun σ6 e9 => ?_))
            replace h := h σ6 e9
            refine mr_aload (pc' := 114) rfl rfl rfl ?_
            refine mr_iload (pc' := 116) rfl rfl rfl ?_
            refine mr_call (t := [(9, 0)]) (pc' := 119) rfl [.inr (.inl 0), .inl (σ 8 (y2 + (-1)).toNat)] rfl rfl rfl (mj_recvV rfl) (Nat.le_of_ble_eq_true rfl) (mj_B_mono _ _ _ _ _ _ (fun r σ7 h => ?_) h)
            obtain ⟨rfl, h⟩ := h
            refine mr_aload (pc' := 120) rfl rfl rfl ?_
            refine mr_const (pc' := 122) rfl rfl (by unfold mj_r; decide) ?_
            obtain ⟨h0, h1, h⟩ := h
            refine mr_call (t := [(9, 0)]) (pc' := 125) rfl [.inr (.inl 0), .inl 41] rfl rfl rfl (mj_recvV rfl) (Nat.le_of_ble_eq_true rfl) (s_m54 h0 h1 (fun σ8 e9 => ?_))
            replace h := h σ8 e9
            refine mr_goto rfl ?_
            exact mj_W_ls (mj_B_mono _) (mj_lev_of _ _ (by simp [mj_levb])) h
      · replace h := h.2 c
        refine mr_iload (pc' := 42) rfl rfl rfl ?_
        refine mr_call (t := []) (pc' := 45) rfl [.inl (σ 8 (y2 + (-1)).toNat)] rfl rfl rfl trivial (Nat.le_of_ble_eq_true rfl) (s_m3  ?_)
        refine mr_if_eq (pc' := 48) rfl rfl (fun c => ?_) (fun c => ?_)
        · replace h := h.1 (bo_0 c)
          refine mr_iload (pc' := 85) rfl rfl rfl ?_
          refine mr_if_eq (pc' := 88) rfl rfl (fun c => ?_) (fun c => ?_)
          · replace h := h.1 c
            refine mr_aload (pc' := 129) rfl rfl rfl ?_
            refine mr_iload (pc' := 131) rfl rfl rfl ?_
            refine mr_iload (pc' := 132) rfl rfl rfl ?_
            refine mr_call (t := [(9, 0)]) (pc' := 135) rfl [.inr (.inl 0), .inl (σ 8 (y2 + (-1)).toNat), .inl (y2 + (-1))] rfl rfl rfl (mj_recvV rfl) (Nat.le_of_ble_eq_true rfl) (mj_B_mono _ _ _ _ _ _ (fun r σ9 h => ?_) h)
            obtain ⟨v10, rfl, h⟩ := h
            refine mr_istore (pc' := 136) rfl rfl trivial (Nat.le_of_ble_eq_true rfl) rfl ?_
            exact mj_W_ls (mj_B_mono _) (mj_lev_of _ _ (by simp [mj_levb])) h
          · replace h := h.2 c
            refine mr_iload (pc' := 90) rfl rfl rfl ?_
            refine mr_const (pc' := 92) rfl rfl (by unfold mj_r; decide) ?_
            refine mr_ic_eq (pc' := 95) rfl rfl (fun c => ?_) (fun c => ?_)
            · replace h := h.1 c
              refine mr_aload (pc' := 120) rfl rfl rfl ?_
              refine mr_const (pc' := 122) rfl rfl (by unfold mj_r; decide) ?_
              obtain ⟨h0, h1, h⟩ := h
              refine mr_call (t := [(9, 0)]) (pc' := 125) rfl [.inr (.inl 0), .inl 41] rfl rfl rfl (mj_recvV rfl) (Nat.le_of_ble_eq_true rfl) (s_m54 h0 h1 (fun σ11 e9 => ?_))
              replace h := h σ11 e9
              refine mr_goto rfl ?_
              exact mj_W_ls (mj_B_mono _) (mj_lev_of _ _ (by simp [mj_levb])) h
            · replace h := h.2 c
              refine mr_aload (pc' := 96) rfl rfl rfl ?_
              refine mr_const (pc' := 98) rfl rfl (by unfold mj_r; decide) ?_
              obtain ⟨h0, h1, h⟩ := h
              refine mr_call (t := [(9, 0)]) (pc' := 101) rfl [.inr (.inl 0), .inl 32] rfl rfl rfl (mj_recvV rfl) (Nat.le_of_ble_eq_true rfl) (s_m54 h0 h1 (fun σ12 e9 => ?_))
              replace h := h σ12 e9
              refine mr_aload (pc' := 102) rfl rfl rfl ?_
              refine mr_const (pc' := 104) rfl rfl (by unfold mj_r; decide) ?_
              obtain ⟨h0, h1, h⟩ := h
              refine mr_call (t := [(9, 0)]) (pc' := 107) rfl [.inr (.inl 0), .inl 46] rfl rfl rfl (mj_recvV rfl) (Nat.le_of_ble_eq_true rfl) (s_m54 h0 h1 (fun σ13 e9 => ?_))
              replace h := h σ13 e9
              refine mr_aload (pc' := 108) rfl rfl rfl ?_
              refine mr_const (pc' := 110) rfl rfl (by unfold mj_r; decide) ?_
              obtain ⟨h0, h1, h⟩ := h
              refine mr_call (t := [(9, 0)]) (pc' := 113) rfl [.inr (.inl 0), .inl 32] rfl rfl rfl (mj_recvV rfl) (Nat.le_of_ble_eq_true rfl) (s_m54 h0 h1 (fun σ14 e9 => ?_))
              replace h := h σ14 e9
              refine mr_aload (pc' := 114) rfl rfl rfl ?_
              refine mr_iload (pc' := 116) rfl rfl rfl ?_
              refine mr_call (t := [(9, 0)]) (pc' := 119) rfl [.inr (.inl 0), .inl (σ 8 (y2 + (-1)).toNat)] rfl rfl rfl (mj_recvV rfl) (Nat.le_of_ble_eq_true rfl) (mj_B_mono _ _ _ _ _ _ (fun r σ15 h => ?_) h)
              obtain ⟨rfl, h⟩ := h
              refine mr_aload (pc' := 120) rfl rfl rfl ?_
              refine mr_const (pc' := 122) rfl rfl (by unfold mj_r; decide) ?_
              obtain ⟨h0, h1, h⟩ := h
              refine mr_call (t := [(9, 0)]) (pc' := 125) rfl [.inr (.inl 0), .inl 41] rfl rfl rfl (mj_recvV rfl) (Nat.le_of_ble_eq_true rfl) (s_m54 h0 h1 (fun σ16 e9 => ?_))
              replace h := h σ16 e9
              refine mr_goto rfl ?_
              exact mj_W_ls (mj_B_mono _) (mj_lev_of _ _ (by simp [mj_levb])) h
        · replace h := h.2 (bo_1 c)
          refine mr_aload (pc' := 49) rfl rfl rfl ?_
          refine mr_const (pc' := 51) rfl rfl (by unfold mj_r; decide) ?_
          obtain ⟨h0, h1, h⟩ := h
          refine mr_call (t := [(9, 0)]) (pc' := 54) rfl [.inr (.inl 0), .inl 32] rfl rfl rfl (mj_recvV rfl) (Nat.le_of_ble_eq_true rfl) (s_m54 h0 h1 (fun σ17 e9 => ?_))
          replace h := h σ17 e9
          refine mr_aload (pc' := 55) rfl rfl rfl ?_
          refine mr_getr (ci := 0) (pc' := 58) rfl rfl rfl rfl ?_
          refine mr_iload (pc' := 59) rfl rfl rfl ?_
          refine mr_aload (pc' := 60) rfl rfl rfl ?_
          refine mr_iload (pc' := 62) rfl rfl rfl ?_
          obtain ⟨h0, h⟩ := h
          refine mr_call (t := [(9, 0)]) (pc' := 65) rfl [.inr (.inl 0), .inl (σ 8 (y2 + (-1)).toNat)] rfl rfl rfl (mj_recvV rfl) (Nat.le_of_ble_eq_true rfl) (s_m6 h0 ?_)
          obtain ⟨h0, h1, h⟩ := h
          refine mr_iast (pc' := 66) rfl rfl rfl h0 h1 (fun σ18 e9 => ?_)
          replace h := h σ18 e9
          obtain ⟨h0, h⟩ := h
          refine mr_iinc (pc' := 69) rfl rfl rfl trivial h0 rfl ?_
          refine mr_aload (pc' := 70) rfl rfl rfl ?_
          refine mr_aload (pc' := 71) rfl rfl rfl ?_
          refine mr_iload (pc' := 73) rfl rfl rfl ?_
          obtain ⟨h0, h⟩ := h
          refine mr_call (t := [(9, 0)]) (pc' := 76) rfl [.inr (.inl 0), .inl (σ 8 (y2 + (-1)).toNat)] rfl rfl rfl (mj_recvV rfl) (Nat.le_of_ble_eq_true rfl) (s_m5 h0 ?_)
          refine mr_iload (pc' := 77) rfl rfl rfl ?_
          refine mr_call (t := [(9, 0)]) (pc' := 80) rfl [.inr (.inl 0), .inl (z_cd (σ18 4) (σ 8 (y2 + (-1)).toNat)), .inl ((y2 + (-1)) + 1)] rfl rfl rfl (mj_recvV rfl) (Nat.le_of_ble_eq_true rfl) (mj_B_mono _ _ _ _ _ _ (fun r σ19 h => ?_) h)
          obtain ⟨v20, rfl, h⟩ := h
          refine mr_istore (pc' := 81) rfl rfl trivial (Nat.le_of_ble_eq_true rfl) rfl ?_
          refine mr_goto rfl ?_
          exact mj_W_ls (mj_B_mono _) (mj_lev_of _ _ (by simp [mj_levb])) h
set_option maxRecDepth 20000 in
theorem qw_m57_136 {d : Nat} {Q : mj_Q} {y1 y2 y3 y4 : Int} {σ : mj_S} (h : (y2 ≤ 0 → qh_m57_11 (d + 1) Q y1 y2 0 σ) ∧ (0 < y2 → qh_m57_11 (d + 1) Q y1 y2 1 σ)) : qh_m57_136 (d + 1) Q y1 y2 y3 y4 σ := by
  show mj_P mjm_L mjm_Ms (d + 1) mjmo57 ((Option.none : Option Jvm.ClassFile.FieldType)) Q 136 [some (.inr (.inl 0)), some (.inl y1), some (.inl y2), some (.inl y3), some (.inl y4)] [] σ
  refine mr_iload (pc' := 137) rfl rfl rfl ?_
  refine mr_if_le (pc' := 140) rfl rfl (fun c => ?_) (fun c => ?_)
  · replace h := h.1 c
    refine mr_const (pc' := 145) rfl rfl (by unfold mj_r; decide) ?_
    refine mr_istore (pc' := 146) rfl rfl trivial (Nat.le_of_ble_eq_true rfl) rfl ?_
    refine mr_goto rfl ?_
    exact mj_W_ls (mj_B_mono _) (mj_lev_of _ _ (by simp [mj_levb])) h
  · replace h := h.2 c
    refine mr_const (pc' := 141) rfl rfl (by unfold mj_r; decide) ?_
    refine mr_goto rfl ?_
    refine mr_istore (pc' := 146) rfl rfl trivial (Nat.le_of_ble_eq_true rfl) rfl ?_
    refine mr_goto rfl ?_
    exact mj_W_ls (mj_B_mono _) (mj_lev_of _ _ (by simp [mj_levb])) h
set_option maxRecDepth 20000 in
/-- ListSpeakerModel.printDatum_ -/
theorem wq_m57 {d : Nat} {σ : mj_S} {Q : mj_Q} {x1 : Int} (h : 0 ≤ (0 : Int) ∧ (0 : Int) < 700 ∧ ∀ σ1, σ1 = mj_up σ 8 (0 : Int).toNat x1 → qh_m57_11 (d + 1) Q x1 1 0 σ1) : mj_B mjm_L mjm_Ms (d + 2) 57 [.inr (.inl 0), .inl x1] σ Q := by
  refine mj_B_of (M := mjmM57) (ls := [some (.inr (.inl 0)), some (.inl x1), none, none, none]) rfl (mj_c1_all rfl) (Nat.le_of_ble_eq_true rfl) rfl ?_
  refine mr_const (pc' := 1) rfl rfl (by unfold mj_r; decide) ?_
  refine mr_istore (pc' := 2) rfl rfl trivial (Nat.le_of_ble_eq_true rfl) rfl ?_
  refine mr_aload (pc' := 3) rfl rfl rfl ?_
  refine mr_getr (ci := 0) (pc' := 6) rfl rfl rfl rfl ?_
  refine mr_const (pc' := 7) rfl rfl (by unfold mj_r; decide) ?_
  refine mr_iload (pc' := 8) rfl rfl rfl ?_
  obtain ⟨h0, h1, h⟩ := h
  refine mr_iast (pc' := 9) rfl rfl rfl h0 h1 (fun σ1 e9 => ?_)
  replace h := h σ1 e9
  refine mr_const (pc' := 10) rfl rfl (by unfold mj_r; decide) ?_
  refine mr_istore (pc' := 11) rfl rfl trivial (Nat.le_of_ble_eq_true rfl) rfl ?_
  exact mj_W_ls (mj_B_mono _) (mj_lev_of _ _ (by simp [mj_levb])) h
def qh_m58_5 (d : Nat) (Q : mj_Q) (y1 y2 y3 y4 : Int) (σ : mj_S) : Prop := mj_P mjm_L mjm_Ms d mjmo58 ((Option.some Jvm.ClassFile.FieldType.int)) Q 5 [some (.inr (.inl 0)), some (.inl y1), some (.inl y2), some (.inl y3), some (.inl y4)] [] σ
set_option maxRecDepth 20000 in
theorem qw_m58_5 {d : Nat} {Q : mj_Q} {y1 y2 y3 y4 : Int} {σ : mj_S} (h : (¬ (536870912 ≤ y4) → (536870912 ≤ y4 → Q (some (.inl y3)) σ) ∧ (¬ (536870912 ≤ y4) → mj_B mjm_L mjm_Ms (d + 1) 56 [.inr (.inl 0), .inl y4] σ (fun r σ1 => r = none ∧ Q (some (.inl y3)) σ1))) ∧ (536870912 ≤ y4 → (400 ≤ (σ 0 44) → (536870912 ≤ y4 → Q (some (.inl y3)) σ) ∧ (¬ (536870912 ≤ y4) → mj_B mjm_L mjm_Ms (d + 1) 56 [.inr (.inl 0), .inl y4] σ (fun r σ2 => r = none ∧ Q (some (.inl y3)) σ2))) ∧ ((σ 0 44) < 400 → 0 ≤ σ 0 44 ∧ σ 0 44 ≤ 400 ∧ ∀ σ3, σ3 = z_pt σ 40 → z_pr y4 ∧ 0 ≤ y3 ∧ y3 < 700 ∧ ∀ σ4, σ4 = mj_up σ3 8 y3.toNat (z_cd (σ3 5) y4) → mj_r (y3 + 1) ∧ z_pr y4 ∧ qh_m58_5 (d + 1) Q y1 y2 (y3 + 1) (z_cd (σ4 4) y4) σ4))) : qh_m58_5 (d + 1) Q y1 y2 y3 y4 σ := by
  show mj_P mjm_L mjm_Ms (d + 1) mjmo58 ((Option.some Jvm.ClassFile.FieldType.int)) Q 5 [some (.inr (.inl 0)), some (.inl y1), some (.inl y2), some (.inl y3), some (.inl y4)] [] σ
  refine mr_iload (pc' := 7) rfl rfl rfl ?_
  refine mr_call (t := []) (pc' := 10) rfl [.inl y4] rfl rfl rfl trivial (Nat.le_of_ble_eq_true rfl) (s_m3  ?_)
  refine mr_if_eq (pc' := 13) rfl rfl (fun c => ?_) (fun c => ?_)
  · replace h := h.1 (bo_0 c)
    refine mr_iload (pc' := 57) rfl rfl rfl ?_
    refine mr_call (t := []) (pc' := 60) rfl [.inl y4] rfl rfl rfl trivial (Nat.le_of_ble_eq_true rfl) (s_m3  ?_)
    refine mr_if_ne (pc' := 63) rfl rfl (fun c => ?_) (fun c => ?_)
    · replace h := h.1 (bo_1 c)
      refine mr_iload (pc' := 70) rfl rfl rfl ?_
      exact mr_iret rfl rfl trivial h
    · replace h := h.2 (bo_0 c)
      refine mr_aload (pc' := 64) rfl rfl rfl ?_
      refine mr_iload (pc' := 66) rfl rfl rfl ?_
      refine mr_call (t := [(9, 0)]) (pc' := 69) rfl [.inr (.inl 0), .inl y4] rfl rfl rfl (mj_recvV rfl) (Nat.le_of_ble_eq_true rfl) (mj_B_mono _ _ _ _ _ _ (fun r σ1 h => ?_) h)
      obtain ⟨rfl, h⟩ := h
      refine mr_iload (pc' := 70) rfl rfl rfl ?_
      exact mr_iret rfl rfl trivial h
  · replace h := h.2 (bo_1 c)
    refine mr_aload (pc' := 14) rfl rfl rfl ?_
    refine mr_get (ci := 0) (pc' := 17) rfl rfl rfl rfl ?_
    refine mr_const (pc' := 20) rfl rfl (by unfold mj_r; decide) ?_
    refine mr_ic_ge (pc' := 23) rfl rfl (fun c => ?_) (fun c => ?_)
    · replace h := h.1 c
      refine mr_iload (pc' := 57) rfl rfl rfl ?_
      refine mr_call (t := []) (pc' := 60) rfl [.inl y4] rfl rfl rfl trivial (Nat.le_of_ble_eq_true rfl) (s_m3  ?_)
      refine mr_if_ne (pc' := 63) rfl rfl (fun c => ?_) (fun c => ?_)
      · replace h := h.1 (bo_1 c)
        refine mr_iload (pc' := 70) rfl rfl rfl ?_
        exact mr_iret rfl rfl trivial h
      · replace h := h.2 (bo_0 c)
        refine mr_aload (pc' := 64) rfl rfl rfl ?_
        refine mr_iload (pc' := 66) rfl rfl rfl ?_
        refine mr_call (t := [(9, 0)]) (pc' := 69) rfl [.inr (.inl 0), .inl y4] rfl rfl rfl (mj_recvV rfl) (Nat.le_of_ble_eq_true rfl) (mj_B_mono _ _ _ _ _ _ (fun r σ2 h => ?_) h)
        obtain ⟨rfl, h⟩ := h
        refine mr_iload (pc' := 70) rfl rfl rfl ?_
        exact mr_iret rfl rfl trivial h
    · replace h := h.2 c
      refine mr_aload (pc' := 24) rfl rfl rfl ?_
      refine mr_const (pc' := 26) rfl rfl (by unfold mj_r; decide) ?_
      obtain ⟨h0, h1, h⟩ := h
      refine mr_call (t := [(9, 0)]) (pc' := 29) rfl [.inr (.inl 0), .inl 40] rfl rfl rfl (mj_recvV rfl) (Nat.le_of_ble_eq_true rfl) (s_m54 h0 h1 (fun σ3 e9 => ?_))
      replace h := h σ3 e9
      refine mr_aload (pc' := 30) rfl rfl rfl ?_
      refine mr_getr (ci := 0) (pc' := 33) rfl rfl rfl rfl ?_
      refine mr_iload (pc' := 34) rfl rfl rfl ?_
      refine mr_aload (pc' := 35) rfl rfl rfl ?_
      refine mr_iload (pc' := 37) rfl rfl rfl ?_
      obtain ⟨h0, h⟩ := h
      refine mr_call (t := [(9, 0)]) (pc' := 40) rfl [.inr (.inl 0), .inl y4] rfl rfl rfl (mj_recvV rfl) (Nat.le_of_ble_eq_true rfl) (s_m6 h0 ?_)
      obtain ⟨h0, h1, h⟩ := h
      refine mr_iast (pc' := 41) rfl rfl rfl h0 h1 (fun σ4 e9 => ?_)
      replace h := h σ4 e9
      obtain ⟨h0, h⟩ := h
      refine mr_iinc (pc' := 44) rfl rfl rfl trivial h0 rfl ?_
      refine mr_aload (pc' := 45) rfl rfl rfl ?_
      refine mr_iload (pc' := 47) rfl rfl rfl ?_
      obtain ⟨h0, h⟩ := h
      refine mr_call (t := [(9, 0)]) (pc' := 50) rfl [.inr (.inl 0), .inl y4] rfl rfl rfl (mj_recvV rfl) (Nat.le_of_ble_eq_true rfl) (s_m5 h0 ?_)
      refine mr_istore (pc' := 52) rfl rfl trivial (Nat.le_of_ble_eq_true rfl) rfl ?_
      refine mr_goto rfl ?_
      exact mj_W_ls (mj_B_mono _) (mj_lev_of _ _ (by simp [mj_levb])) h
set_option maxRecDepth 20000 in
/-- ListSpeakerModel.nested_ -/
theorem wq_m58 {d : Nat} {σ : mj_S} {Q : mj_Q} {x1 x2 : Int} (h : qh_m58_5 (d + 1) Q x1 x2 x2 x1 σ) : mj_B mjm_L mjm_Ms (d + 2) 58 [.inr (.inl 0), .inl x1, .inl x2] σ Q := by
  refine mj_B_of (M := mjmM58) (ls := [some (.inr (.inl 0)), some (.inl x1), some (.inl x2), none, none]) rfl (mj_c1_all rfl) (Nat.le_of_ble_eq_true rfl) rfl ?_
  refine mr_iload (pc' := 1) rfl rfl rfl ?_
  refine mr_istore (pc' := 2) rfl rfl trivial (Nat.le_of_ble_eq_true rfl) rfl ?_
  refine mr_iload (pc' := 3) rfl rfl rfl ?_
  refine mr_istore (pc' := 5) rfl rfl trivial (Nat.le_of_ble_eq_true rfl) rfl ?_
  exact mj_W_ls (mj_B_mono _) (mj_lev_of _ _ (by simp [mj_levb])) h
def qh_m59_68 (d : Nat) (Q : mj_Q) (y1 : Int) (σ : mj_S) : Prop := mj_P mjm_L mjm_Ms d mjmo59 ((Option.some Jvm.ClassFile.FieldType.int)) Q 68 [some (.inr (.inl 0)), some (.inl y1)] [] σ
set_option maxRecDepth 20000 in
theorem qw_m59_68 {d : Nat} {Q : mj_Q} {y1 : Int} {σ : mj_S} (h : (¬ (σ 0 5) = 0 → ((σ 0 5) ≤ 0 → ∀ σ1, σ1 = mj_up σ 0 2 0 → Q (some (.inl (σ1 0 5))) σ1) ∧ (0 < (σ 0 5) → 0 ≤ σ 0 44 ∧ σ 0 44 ≤ 400 ∧ ∀ σ2, σ2 = z_pt σ 33 → mj_B mjm_L mjm_Ms (d + 1) 55 [.inr (.inl 0), .inl (σ2 0 5)] σ2 (fun r σ3 => r = none ∧ 0 ≤ σ3 0 44 ∧ σ3 0 44 ≤ 400 ∧ ∀ σ4, σ4 = z_pt σ3 10 → ∀ σ5, σ5 = mj_up σ4 0 2 0 → Q (some (.inl (σ5 0 5))) σ5))) ∧ ((σ 0 5) = 0 → ((σ 0 2) ≤ (σ 0 4) → ((σ 0 5) ≤ 0 → ∀ σ6, σ6 = mj_up σ 0 2 0 → Q (some (.inl (σ6 0 5))) σ6) ∧ (0 < (σ 0 5) → 0 ≤ σ 0 44 ∧ σ 0 44 ≤ 400 ∧ ∀ σ7, σ7 = z_pt σ 33 → mj_B mjm_L mjm_Ms (d + 1) 55 [.inr (.inl 0), .inl (σ7 0 5)] σ7 (fun r σ8 => r = none ∧ 0 ≤ σ8 0 44 ∧ σ8 0 44 ≤ 400 ∧ ∀ σ9, σ9 = z_pt σ8 10 → ∀ σ10, σ10 = mj_up σ9 0 2 0 → Q (some (.inl (σ10 0 5))) σ10))) ∧ ((σ 0 4) < (σ 0 2) → mj_B mjm_L mjm_Ms (d + 1) 60 [.inr (.inl 0)] σ (fun r σ11 => r = none ∧ mj_B mjm_L mjm_Ms (d + 1) 12 [.inr (.inl 0)] σ11 (fun r σ12 => r = none ∧ qh_m59_68 (d + 1) Q y1 σ12))))) : qh_m59_68 (d + 1) Q y1 σ := by
  show mj_P mjm_L mjm_Ms (d + 1) mjmo59 ((Option.some Jvm.ClassFile.FieldType.int)) Q 68 [some (.inr (.inl 0)), some (.inl y1)] [] σ
  refine mr_aload (pc' := 69) rfl rfl rfl ?_
  refine mr_get (ci := 0) (pc' := 72) rfl rfl rfl rfl ?_
  refine mr_if_ne (pc' := 75) rfl rfl (fun c => ?_) (fun c => ?_)
  · replace h := h.1 c
    refine mr_aload (pc' := 98) rfl rfl rfl ?_
    refine mr_get (ci := 0) (pc' := 101) rfl rfl rfl rfl ?_
    refine mr_if_le (pc' := 104) rfl rfl (fun c => ?_) (fun c => ?_)
    · replace h := h.1 c
      refine mr_aload (pc' := 125) rfl rfl rfl ?_
      refine mr_const (pc' := 126) rfl rfl (by unfold mj_r; decide) ?_
      refine mr_put (pc' := 129) rfl rfl rfl rfl (fun σ1 e9 => ?_)
      replace h := h σ1 e9
      refine mr_aload (pc' := 130) rfl rfl rfl ?_
      refine mr_get (ci := 0) (pc' := 133) rfl rfl rfl rfl ?_
      exact mr_iret rfl rfl trivial h
    · replace h := h.2 c
      refine mr_aload (pc' := 105) rfl rfl rfl ?_
      refine mr_const (pc' := 107) rfl rfl (by unfold mj_r; decide) ?_
      obtain ⟨h0, h1, h⟩ := h
      refine mr_call (t := [(9, 0)]) (pc' := 110) rfl [.inr (.inl 0), .inl 33] rfl rfl rfl (mj_recvV rfl) (Nat.le_of_ble_eq_true rfl) (s_m54 h0 h1 (fun σ2 e9 => ?_))
      replace h := h σ2 e9
      refine mr_aload (pc' := 111) rfl rfl rfl ?_
      refine mr_aload (pc' := 112) rfl rfl rfl ?_
      refine mr_get (ci := 0) (pc' := 115) rfl rfl rfl rfl ?_
      refine mr_call (t := [(9, 0)]) (pc' := 118) rfl [.inr (.inl 0), .inl (σ2 0 5)] rfl rfl rfl (mj_recvV rfl) (Nat.le_of_ble_eq_true rfl) (mj_B_mono _ _ _ _ _ _ (fun r σ3 h => ?_) h)
      obtain ⟨rfl, h⟩ := h
      refine mr_aload (pc' := 119) rfl rfl rfl ?_
      refine mr_const (pc' := 121) rfl rfl (by unfold mj_r; decide) ?_
      obtain ⟨h0, h1, h⟩ := h
      refine mr_call (t := [(9, 0)]) (pc' := 124) rfl [.inr (.inl 0), .inl 10] rfl rfl rfl (mj_recvV rfl) (Nat.le_of_ble_eq_true rfl) (s_m54 h0 h1 (fun σ4 e9 => ?_))
      replace h := h σ4 e9
      refine mr_aload (pc' := 125) rfl rfl rfl ?_
      refine mr_const (pc' := 126) rfl rfl (by unfold mj_r; decide) ?_
      refine mr_put (pc' := 129) rfl rfl rfl rfl (fun σ5 e9 => ?_)
      replace h := h σ5 e9
      refine mr_aload (pc' := 130) rfl rfl rfl ?_
      refine mr_get (ci := 0) (pc' := 133) rfl rfl rfl rfl ?_
      exact mr_iret rfl rfl trivial h
  · replace h := h.2 c
    refine mr_aload (pc' := 76) rfl rfl rfl ?_
    refine mr_get (ci := 0) (pc' := 79) rfl rfl rfl rfl ?_
    refine mr_aload (pc' := 80) rfl rfl rfl ?_
    refine mr_get (ci := 0) (pc' := 83) rfl rfl rfl rfl ?_
    refine mr_ic_ge (pc' := 86) rfl rfl (fun c => ?_) (fun c => ?_)
    · replace h := h.1 c
      refine mr_aload (pc' := 98) rfl rfl rfl ?_
      refine mr_get (ci := 0) (pc' := 101) rfl rfl rfl rfl ?_
      refine mr_if_le (pc' := 104) rfl rfl (fun c => ?_) (fun c => ?_)
      · replace h := h.1 c
        refine mr_aload (pc' := 125) rfl rfl rfl ?_
        refine mr_const (pc' := 126) rfl rfl (by unfold mj_r; decide) ?_
        refine mr_put (pc' := 129) rfl rfl rfl rfl (fun σ6 e9 => ?_)
        replace h := h σ6 e9
        refine mr_aload (pc' := 130) rfl rfl rfl ?_
        refine mr_get (ci := 0) (pc' := 133) rfl rfl rfl rfl ?_
        exact mr_iret rfl rfl trivial h
      · replace h := h.2 c
        refine mr_aload (pc' := 105) rfl rfl rfl ?_
        refine mr_const (pc' := 107) rfl rfl (by unfold mj_r; decide) ?_
        obtain ⟨h0, h1, h⟩ := h
        refine mr_call (t := [(9, 0)]) (pc' := 110) rfl [.inr (.inl 0), .inl 33] rfl rfl rfl (mj_recvV rfl) (Nat.le_of_ble_eq_true rfl) (s_m54 h0 h1 (fun σ7 e9 => ?_))
        replace h := h σ7 e9
        refine mr_aload (pc' := 111) rfl rfl rfl ?_
        refine mr_aload (pc' := 112) rfl rfl rfl ?_
        refine mr_get (ci := 0) (pc' := 115) rfl rfl rfl rfl ?_
        refine mr_call (t := [(9, 0)]) (pc' := 118) rfl [.inr (.inl 0), .inl (σ7 0 5)] rfl rfl rfl (mj_recvV rfl) (Nat.le_of_ble_eq_true rfl) (mj_B_mono _ _ _ _ _ _ (fun r σ8 h => ?_) h)
        obtain ⟨rfl, h⟩ := h
        refine mr_aload (pc' := 119) rfl rfl rfl ?_
        refine mr_const (pc' := 121) rfl rfl (by unfold mj_r; decide) ?_
        obtain ⟨h0, h1, h⟩ := h
        refine mr_call (t := [(9, 0)]) (pc' := 124) rfl [.inr (.inl 0), .inl 10] rfl rfl rfl (mj_recvV rfl) (Nat.le_of_ble_eq_true rfl) (s_m54 h0 h1 (fun σ9 e9 => ?_))
        replace h := h σ9 e9
        refine mr_aload (pc' := 125) rfl rfl rfl ?_
        refine mr_const (pc' := 126) rfl rfl (by unfold mj_r; decide) ?_
        refine mr_put (pc' := 129) rfl rfl rfl rfl (fun σ10 e9 => ?_)
        replace h := h σ10 e9
        refine mr_aload (pc' := 130) rfl rfl rfl ?_
        refine mr_get (ci := 0) (pc' := 133) rfl rfl rfl rfl ?_
        exact mr_iret rfl rfl trivial h
    · replace h := h.2 c
      refine mr_aload (pc' := 87) rfl rfl rfl ?_
      refine mr_call (t := [(9, 0)]) (pc' := 90) rfl [.inr (.inl 0)] rfl rfl rfl (mj_recvV rfl) (Nat.le_of_ble_eq_true rfl) (mj_B_mono _ _ _ _ _ _ (fun r σ11 h => ?_) h)
      obtain ⟨rfl, h⟩ := h
      refine mr_aload (pc' := 91) rfl rfl rfl ?_
      refine mr_call (t := [(9, 0)]) (pc' := 94) rfl [.inr (.inl 0)] rfl rfl rfl (mj_recvV rfl) (Nat.le_of_ble_eq_true rfl) (mj_B_mono _ _ _ _ _ _ (fun r σ12 h => ?_) h)
      obtain ⟨rfl, h⟩ := h
      refine mr_goto rfl ?_
      exact mj_W_ls (mj_B_mono _) (mj_lev_of _ _ (by simp [mj_levb])) h
set_option maxRecDepth 20000 in
/-- ListSpeakerModel.run_ -/
theorem wq_m59 {d : Nat} {σ : mj_S} {Q : mj_Q} {x1 : Int} (h : (x1 < 0 → ∀ σ1, σ1 = mj_up σ 0 1 1 → ((σ1 0 1) ≤ 0 → ∀ σ2, σ2 = mj_up σ1 0 40 x1 → ∀ σ3, σ3 = mj_up σ2 0 41 0 → ∀ σ4, σ4 = mj_up σ3 0 42 0 → ∀ σ5, σ5 = mj_up σ4 0 43 0 → ∀ σ6, σ6 = mj_up σ5 0 44 0 → ∀ σ7, σ7 = mj_up σ6 0 5 0 → ∀ σ8, σ8 = mj_up σ7 0 4 0 → mj_B mjm_L mjm_Ms (d + 1) 12 [.inr (.inl 0)] σ8 (fun r σ9 => r = none ∧ qh_m59_68 (d + 1) Q x1 σ9)) ∧ (0 < (σ1 0 1) → Q (some (.inl 0)) σ1)) ∧ (0 ≤ x1 → (x1 ≤ 20000 → ∀ σ10, σ10 = mj_up σ 0 1 0 → ((σ10 0 1) ≤ 0 → ∀ σ11, σ11 = mj_up σ10 0 40 x1 → ∀ σ12, σ12 = mj_up σ11 0 41 0 → ∀ σ13, σ13 = mj_up σ12 0 42 0 → ∀ σ14, σ14 = mj_up σ13 0 43 0 → ∀ σ15, σ15 = mj_up σ14 0 44 0 → ∀ σ16, σ16 = mj_up σ15 0 5 0 → ∀ σ17, σ17 = mj_up σ16 0 4 0 → mj_B mjm_L mjm_Ms (d + 1) 12 [.inr (.inl 0)] σ17 (fun r σ18 => r = none ∧ qh_m59_68 (d + 1) Q x1 σ18)) ∧ (0 < (σ10 0 1) → Q (some (.inl 0)) σ10)) ∧ (20000 < x1 → ∀ σ19, σ19 = mj_up σ 0 1 1 → ((σ19 0 1) ≤ 0 → ∀ σ20, σ20 = mj_up σ19 0 40 x1 → ∀ σ21, σ21 = mj_up σ20 0 41 0 → ∀ σ22, σ22 = mj_up σ21 0 42 0 → ∀ σ23, σ23 = mj_up σ22 0 43 0 → ∀ σ24, σ24 = mj_up σ23 0 44 0 → ∀ σ25, σ25 = mj_up σ24 0 5 0 → ∀ σ26, σ26 = mj_up σ25 0 4 0 → mj_B mjm_L mjm_Ms (d + 1) 12 [.inr (.inl 0)] σ26 (fun r σ27 => r = none ∧ qh_m59_68 (d + 1) Q x1 σ27)) ∧ (0 < (σ19 0 1) → Q (some (.inl 0)) σ19)))) : mj_B mjm_L mjm_Ms (d + 2) 59 [.inr (.inl 0), .inl x1] σ Q := by
  refine mj_B_of (M := mjmM59) (ls := [some (.inr (.inl 0)), some (.inl x1)]) rfl (mj_c1_all rfl) (Nat.le_of_ble_eq_true rfl) rfl ?_
  refine mr_aload (pc' := 1) rfl rfl rfl ?_
  refine mr_iload (pc' := 2) rfl rfl rfl ?_
  refine mr_if_lt (pc' := 5) rfl rfl (fun c => ?_) (fun c => ?_)
  · replace h := h.1 c
    refine mr_const (pc' := 13) rfl rfl (by unfold mj_r; decide) ?_
    refine mr_goto rfl ?_
    refine mr_put (pc' := 20) rfl rfl rfl rfl (fun σ1 e9 => ?_)
    replace h := h σ1 e9
    refine mr_aload (pc' := 21) rfl rfl rfl ?_
    refine mr_get (ci := 0) (pc' := 24) rfl rfl rfl rfl ?_
    refine mr_if_le (pc' := 27) rfl rfl (fun c => ?_) (fun c => ?_)
    · replace h := h.1 c
      refine mr_aload (pc' := 30) rfl rfl rfl ?_
      refine mr_iload (pc' := 31) rfl rfl rfl ?_
      refine mr_put (pc' := 34) rfl rfl rfl rfl (fun σ2 e9 => ?_)
      replace h := h σ2 e9
      refine mr_aload (pc' := 35) rfl rfl rfl ?_
      refine mr_const (pc' := 36) rfl rfl (by unfold mj_r; decide) ?_
      refine mr_put (pc' := 39) rfl rfl rfl rfl (fun σ3 e9 => ?_)
      replace h := h σ3 e9
      refine mr_aload (pc' := 40) rfl rfl rfl ?_
      refine mr_const (pc' := 41) rfl rfl (by unfold mj_r; decide) ?_
      refine mr_put (pc' := 44) rfl rfl rfl rfl (fun σ4 e9 => ?_)
      replace h := h σ4 e9
      refine mr_aload (pc' := 45) rfl rfl rfl ?_
      refine mr_const (pc' := 46) rfl rfl (by unfold mj_r; decide) ?_
      refine mr_put (pc' := 49) rfl rfl rfl rfl (fun σ5 e9 => ?_)
      replace h := h σ5 e9
      refine mr_aload (pc' := 50) rfl rfl rfl ?_
      refine mr_const (pc' := 51) rfl rfl (by unfold mj_r; decide) ?_
      refine mr_put (pc' := 54) rfl rfl rfl rfl (fun σ6 e9 => ?_)
      replace h := h σ6 e9
      refine mr_aload (pc' := 55) rfl rfl rfl ?_
      refine mr_const (pc' := 56) rfl rfl (by unfold mj_r; decide) ?_
      refine mr_put (pc' := 59) rfl rfl rfl rfl (fun σ7 e9 => ?_)
      replace h := h σ7 e9
      refine mr_aload (pc' := 60) rfl rfl rfl ?_
      refine mr_const (pc' := 61) rfl rfl (by unfold mj_r; decide) ?_
      refine mr_put (pc' := 64) rfl rfl rfl rfl (fun σ8 e9 => ?_)
      replace h := h σ8 e9
      refine mr_aload (pc' := 65) rfl rfl rfl ?_
      refine mr_call (t := [(9, 0)]) (pc' := 68) rfl [.inr (.inl 0)] rfl rfl rfl (mj_recvV rfl) (Nat.le_of_ble_eq_true rfl) (mj_B_mono _ _ _ _ _ _ (fun r σ9 h => ?_) h)
      obtain ⟨rfl, h⟩ := h
      exact mj_W_ls (mj_B_mono _) (mj_lev_of _ _ (by simp [mj_levb])) h
    · replace h := h.2 c
      refine mr_const (pc' := 28) rfl rfl (by unfold mj_r; decide) ?_
      exact mr_iret rfl rfl trivial h
  · replace h := h.2 c
    refine mr_iload (pc' := 6) rfl rfl rfl ?_
    refine mr_const (pc' := 9) rfl rfl (by unfold mj_r; decide) ?_
    refine mr_ic_le (pc' := 12) rfl rfl (fun c => ?_) (fun c => ?_)
    · replace h := h.1 c
      refine mr_const (pc' := 17) rfl rfl (by unfold mj_r; decide) ?_
      refine mr_put (pc' := 20) rfl rfl rfl rfl (fun σ10 e9 => ?_)
      replace h := h σ10 e9
      refine mr_aload (pc' := 21) rfl rfl rfl ?_
      refine mr_get (ci := 0) (pc' := 24) rfl rfl rfl rfl ?_
      refine mr_if_le (pc' := 27) rfl rfl (fun c => ?_) (fun c => ?_)
      · replace h := h.1 c
        refine mr_aload (pc' := 30) rfl rfl rfl ?_
        refine mr_iload (pc' := 31) rfl rfl rfl ?_
        refine mr_put (pc' := 34) rfl rfl rfl rfl (fun σ11 e9 => ?_)
        replace h := h σ11 e9
        refine mr_aload (pc' := 35) rfl rfl rfl ?_
        refine mr_const (pc' := 36) rfl rfl (by unfold mj_r; decide) ?_
        refine mr_put (pc' := 39) rfl rfl rfl rfl (fun σ12 e9 => ?_)
        replace h := h σ12 e9
        refine mr_aload (pc' := 40) rfl rfl rfl ?_
        refine mr_const (pc' := 41) rfl rfl (by unfold mj_r; decide) ?_
        refine mr_put (pc' := 44) rfl rfl rfl rfl (fun σ13 e9 => ?_)
        replace h := h σ13 e9
        refine mr_aload (pc' := 45) rfl rfl rfl ?_
        refine mr_const (pc' := 46) rfl rfl (by unfold mj_r; decide) ?_
        refine mr_put (pc' := 49) rfl rfl rfl rfl (fun σ14 e9 => ?_)
        replace h := h σ14 e9
        refine mr_aload (pc' := 50) rfl rfl rfl ?_
        refine mr_const (pc' := 51) rfl rfl (by unfold mj_r; decide) ?_
        refine mr_put (pc' := 54) rfl rfl rfl rfl (fun σ15 e9 => ?_)
        replace h := h σ15 e9
        refine mr_aload (pc' := 55) rfl rfl rfl ?_
        refine mr_const (pc' := 56) rfl rfl (by unfold mj_r; decide) ?_
        refine mr_put (pc' := 59) rfl rfl rfl rfl (fun σ16 e9 => ?_)
        replace h := h σ16 e9
        refine mr_aload (pc' := 60) rfl rfl rfl ?_
        refine mr_const (pc' := 61) rfl rfl (by unfold mj_r; decide) ?_
        refine mr_put (pc' := 64) rfl rfl rfl rfl (fun σ17 e9 => ?_)
        replace h := h σ17 e9
        refine mr_aload (pc' := 65) rfl rfl rfl ?_
        refine mr_call (t := [(9, 0)]) (pc' := 68) rfl [.inr (.inl 0)] rfl rfl rfl (mj_recvV rfl) (Nat.le_of_ble_eq_true rfl) (mj_B_mono _ _ _ _ _ _ (fun r σ18 h => ?_) h)
        obtain ⟨rfl, h⟩ := h
        exact mj_W_ls (mj_B_mono _) (mj_lev_of _ _ (by simp [mj_levb])) h
      · replace h := h.2 c
        refine mr_const (pc' := 28) rfl rfl (by unfold mj_r; decide) ?_
        exact mr_iret rfl rfl trivial h
    · replace h := h.2 c
      refine mr_const (pc' := 13) rfl rfl (by unfold mj_r; decide) ?_
      refine mr_goto rfl ?_
      refine mr_put (pc' := 20) rfl rfl rfl rfl (fun σ19 e9 => ?_)
      replace h := h σ19 e9
      refine mr_aload (pc' := 21) rfl rfl rfl ?_
      refine mr_get (ci := 0) (pc' := 24) rfl rfl rfl rfl ?_
      refine mr_if_le (pc' := 27) rfl rfl (fun c => ?_) (fun c => ?_)
      · replace h := h.1 c
        refine mr_aload (pc' := 30) rfl rfl rfl ?_
        refine mr_iload (pc' := 31) rfl rfl rfl ?_
        refine mr_put (pc' := 34) rfl rfl rfl rfl (fun σ20 e9 => ?_)
        replace h := h σ20 e9
        refine mr_aload (pc' := 35) rfl rfl rfl ?_
        refine mr_const (pc' := 36) rfl rfl (by unfold mj_r; decide) ?_
        refine mr_put (pc' := 39) rfl rfl rfl rfl (fun σ21 e9 => ?_)
        replace h := h σ21 e9
        refine mr_aload (pc' := 40) rfl rfl rfl ?_
        refine mr_const (pc' := 41) rfl rfl (by unfold mj_r; decide) ?_
        refine mr_put (pc' := 44) rfl rfl rfl rfl (fun σ22 e9 => ?_)
        replace h := h σ22 e9
        refine mr_aload (pc' := 45) rfl rfl rfl ?_
        refine mr_const (pc' := 46) rfl rfl (by unfold mj_r; decide) ?_
        refine mr_put (pc' := 49) rfl rfl rfl rfl (fun σ23 e9 => ?_)
        replace h := h σ23 e9
        refine mr_aload (pc' := 50) rfl rfl rfl ?_
        refine mr_const (pc' := 51) rfl rfl (by unfold mj_r; decide) ?_
        refine mr_put (pc' := 54) rfl rfl rfl rfl (fun σ24 e9 => ?_)
        replace h := h σ24 e9
        refine mr_aload (pc' := 55) rfl rfl rfl ?_
        refine mr_const (pc' := 56) rfl rfl (by unfold mj_r; decide) ?_
        refine mr_put (pc' := 59) rfl rfl rfl rfl (fun σ25 e9 => ?_)
        replace h := h σ25 e9
        refine mr_aload (pc' := 60) rfl rfl rfl ?_
        refine mr_const (pc' := 61) rfl rfl (by unfold mj_r; decide) ?_
        refine mr_put (pc' := 64) rfl rfl rfl rfl (fun σ26 e9 => ?_)
        replace h := h σ26 e9
        refine mr_aload (pc' := 65) rfl rfl rfl ?_
        refine mr_call (t := [(9, 0)]) (pc' := 68) rfl [.inr (.inl 0)] rfl rfl rfl (mj_recvV rfl) (Nat.le_of_ble_eq_true rfl) (mj_B_mono _ _ _ _ _ _ (fun r σ27 h => ?_) h)
        obtain ⟨rfl, h⟩ := h
        exact mj_W_ls (mj_B_mono _) (mj_lev_of _ _ (by simp [mj_levb])) h
      · replace h := h.2 c
        refine mr_const (pc' := 28) rfl rfl (by unfold mj_r; decide) ?_
        exact mr_iret rfl rfl trivial h
def qh_m60_56 (d : Nat) (Q : mj_Q) (y1 y2 y3 y4 : Int) (σ : mj_S) : Prop := mj_P mjm_L mjm_Ms d mjmo60 ((Option.none : Option Jvm.ClassFile.FieldType)) Q 56 [some (.inr (.inl 0)), some (.inl y1), some (.inl y2), some (.inl y3), some (.inl y4), none] [] σ
def qh_m60_115 (d : Nat) (Q : mj_Q) (y1 y2 y3 y4 y5 : Int) (σ : mj_S) : Prop := mj_P mjm_L mjm_Ms d mjmo60 ((Option.none : Option Jvm.ClassFile.FieldType)) Q 115 [some (.inr (.inl 0)), some (.inl y1), some (.inl y2), some (.inl y3), some (.inl y4), some (.inl y5)] [] σ
def qh_m60_144 (d : Nat) (Q : mj_Q) (y1 y2 y3 y4 y5 : Int) (σ : mj_S) : Prop := mj_P mjm_L mjm_Ms d mjmo60 ((Option.none : Option Jvm.ClassFile.FieldType)) Q 144 [some (.inr (.inl 0)), some (.inl y1), some (.inl y2), some (.inl y3), some (.inl y4), some (.inl y5)] [] σ
set_option maxRecDepth 20000 in
theorem qw_m60_56 {d : Nat} {Q : mj_Q} {y1 y2 y3 y4 : Int} {σ : mj_S} (h : (y4 = 0 → (¬ (σ 0 5) = 0 → qh_m60_115 (d + 1) Q y1 y2 y3 y4 268435456 σ) ∧ ((σ 0 5) = 0 → mj_B mjm_L mjm_Ms (d + 1) 27 [.inr (.inl 0), .inl y3] σ (fun r σ1 => r = none ∧ (¬ (σ1 0 5) = 0 → qh_m60_115 (d + 1) Q y1 y2 y3 y4 268435456 σ1) ∧ ((σ1 0 5) = 0 → mj_B mjm_L mjm_Ms (d + 1) 40 [.inr (.inl 0), .inl y3] σ1 (fun r σ2 => ∃ v3, r = some (.inl v3) ∧ qh_m60_115 (d + 1) Q y1 y2 y3 y4 v3 σ2))))) ∧ (¬ y4 = 0 → mj_B mjm_L mjm_Ms (d + 1) 35 [.inr (.inl 0), .inl y3] σ (fun r σ4 => ∃ v5, r = some (.inl v5) ∧ (v5 = 0 → qh_m60_115 (d + 1) Q y1 y2 y3 y4 268435456 σ4) ∧ (¬ v5 = 0 → mj_B mjm_L mjm_Ms (d + 1) 8 [.inr (.inl 0), .inl y3, .inl 1] σ4 (fun r σ6 => ∃ v7, r = some (.inl v7) ∧ qh_m60_115 (d + 1) Q y1 y2 y3 y4 v7 σ6))))) : qh_m60_56 (d + 1) Q y1 y2 y3 y4 σ := by
  show mj_P mjm_L mjm_Ms (d + 1) mjmo60 ((Option.none : Option Jvm.ClassFile.FieldType)) Q 56 [some (.inr (.inl 0)), some (.inl y1), some (.inl y2), some (.inl y3), some (.inl y4), none] [] σ
  refine mr_const (pc' := 58) rfl rfl (by unfold mj_r; decide) ?_
  refine mr_istore (pc' := 60) rfl rfl trivial (Nat.le_of_ble_eq_true rfl) rfl ?_
  refine mr_iload (pc' := 62) rfl rfl rfl ?_
  refine mr_if_eq (pc' := 65) rfl rfl (fun c => ?_) (fun c => ?_)
  · replace h := h.1 c
    refine mr_aload (pc' := 90) rfl rfl rfl ?_
    refine mr_get (ci := 0) (pc' := 93) rfl rfl rfl rfl ?_
    refine mr_if_ne (pc' := 96) rfl rfl (fun c => ?_) (fun c => ?_)
    · replace h := h.1 c
      exact mj_W_ls (mj_B_mono _) (mj_lev_of _ _ (by simp [mj_levb])) h
    · replace h := h.2 c
      refine mr_aload (pc' := 97) rfl rfl rfl ?_
      refine mr_iload (pc' := 98) rfl rfl rfl ?_
      refine mr_call (t := [(9, 0)]) (pc' := 101) rfl [.inr (.inl 0), .inl y3] rfl rfl rfl (mj_recvV rfl) (Nat.le_of_ble_eq_true rfl) (mj_B_mono _ _ _ _ _ _ (fun r σ1 h => ?_) h)
      obtain ⟨rfl, h⟩ := h
      refine mr_aload (pc' := 102) rfl rfl rfl ?_
      refine mr_get (ci := 0) (pc' := 105) rfl rfl rfl rfl ?_
      refine mr_if_ne (pc' := 108) rfl rfl (fun c => ?_) (fun c => ?_)
      · replace h := h.1 c
        exact mj_W_ls (mj_B_mono _) (mj_lev_of _ _ (by simp [mj_levb])) h
      · replace h := h.2 c
        refine mr_aload (pc' := 109) rfl rfl rfl ?_
        refine mr_iload (pc' := 110) rfl rfl rfl ?_
        refine mr_call (t := [(9, 0)]) (pc' := 113) rfl [.inr (.inl 0), .inl y3] rfl rfl rfl (mj_recvV rfl) (Nat.le_of_ble_eq_true rfl) (mj_B_mono _ _ _ _ _ _ (fun r σ2 h => ?_) h)
        obtain ⟨v3, rfl, h⟩ := h
        refine mr_istore (pc' := 115) rfl rfl trivial (Nat.le_of_ble_eq_true rfl) rfl ?_
        exact mj_W_ls (mj_B_mono _) (mj_lev_of _ _ (by simp [mj_levb])) h
  · replace h := h.2 c
    refine mr_aload (pc' := 66) rfl rfl rfl ?_
    refine mr_iload (pc' := 67) rfl rfl rfl ?_
    refine mr_call (t := [(9, 0)]) (pc' := 70) rfl [.inr (.inl 0), .inl y3] rfl rfl rfl (mj_recvV rfl) (Nat.le_of_ble_eq_true rfl) (mj_B_mono _ _ _ _ _ _ (fun r σ4 h => ?_) h)
    obtain ⟨v5, rfl, h⟩ := h
    refine mr_if_eq (pc' := 73) rfl rfl (fun c => ?_) (fun c => ?_)
    · replace h := h.1 c
      refine mr_const (pc' := 84) rfl rfl (by unfold mj_r; decide) ?_
      refine mr_istore (pc' := 86) rfl rfl trivial (Nat.le_of_ble_eq_true rfl) rfl ?_
      refine mr_goto rfl ?_
      exact mj_W_ls (mj_B_mono _) (mj_lev_of _ _ (by simp [mj_levb])) h
    · replace h := h.2 c
      refine mr_aload (pc' := 74) rfl rfl rfl ?_
      refine mr_iload (pc' := 75) rfl rfl rfl ?_
      refine mr_const (pc' := 76) rfl rfl (by unfold mj_r; decide) ?_
      refine mr_call (t := [(9, 0)]) (pc' := 79) rfl [.inr (.inl 0), .inl y3, .inl 1] rfl rfl rfl (mj_recvV rfl) (Nat.le_of_ble_eq_true rfl) (mj_B_mono _ _ _ _ _ _ (fun r σ6 h => ?_) h)
      obtain ⟨v7, rfl, h⟩ := h
      refine mr_goto rfl ?_
      refine mr_istore (pc' := 86) rfl rfl trivial (Nat.le_of_ble_eq_true rfl) rfl ?_
      refine mr_goto rfl ?_
      exact mj_W_ls (mj_B_mono _) (mj_lev_of _ _ (by simp [mj_levb])) h
set_option maxRecDepth 20000 in
theorem qw_m60_115 {d : Nat} {Q : mj_Q} {y1 y2 y3 y4 y5 : Int} {σ : mj_S} (h : (¬ (σ 0 5) = 0 → qh_m60_144 (d + 1) Q y1 y2 y3 y4 y5 σ) ∧ ((σ 0 5) = 0 → mj_B mjm_L mjm_Ms (d + 1) 57 [.inr (.inl 0), .inl y5] σ (fun r σ1 => r = none ∧ 0 ≤ σ1 0 44 ∧ σ1 0 44 ≤ 400 ∧ ∀ σ2, σ2 = z_pt σ1 10 → mj_r ((σ2 0 43) + 1) ∧ ∀ σ3, σ3 = mj_up σ2 0 43 ((σ2 0 43) + 1) → qh_m60_144 (d + 1) Q y1 y2 y3 y4 y5 σ3))) : qh_m60_115 (d + 1) Q y1 y2 y3 y4 y5 σ := by
  show mj_P mjm_L mjm_Ms (d + 1) mjmo60 ((Option.none : Option Jvm.ClassFile.FieldType)) Q 115 [some (.inr (.inl 0)), some (.inl y1), some (.inl y2), some (.inl y3), some (.inl y4), some (.inl y5)] [] σ
  refine mr_aload (pc' := 116) rfl rfl rfl ?_
  refine mr_get (ci := 0) (pc' := 119) rfl rfl rfl rfl ?_
  refine mr_if_ne (pc' := 122) rfl rfl (fun c => ?_) (fun c => ?_)
  · replace h := h.1 c
    exact mj_W_ls (mj_B_mono _) (mj_lev_of _ _ (by simp [mj_levb])) h
  · replace h := h.2 c
    refine mr_aload (pc' := 123) rfl rfl rfl ?_
    refine mr_iload (pc' := 125) rfl rfl rfl ?_
    refine mr_call (t := [(9, 0)]) (pc' := 128) rfl [.inr (.inl 0), .inl y5] rfl rfl rfl (mj_recvV rfl) (Nat.le_of_ble_eq_true rfl) (mj_B_mono _ _ _ _ _ _ (fun r σ1 h => ?_) h)
    obtain ⟨rfl, h⟩ := h
    refine mr_aload (pc' := 129) rfl rfl rfl ?_
    refine mr_const (pc' := 131) rfl rfl (by unfold mj_r; decide) ?_
    obtain ⟨h0, h1, h⟩ := h
    refine mr_call (t := [(9, 0)]) (pc' := 134) rfl [.inr (.inl 0), .inl 10] rfl rfl rfl (mj_recvV rfl) (Nat.le_of_ble_eq_true rfl) (s_m54 h0 h1 (fun σ2 e9 => ?_))
    replace h := h σ2 e9
    refine mr_aload (pc' := 135) rfl rfl rfl ?_
    refine mr_dup (pc' := 136) rfl rfl trivial ?_
    refine mr_get (ci := 0) (pc' := 139) rfl rfl rfl rfl ?_
    refine mr_const (pc' := 140) rfl rfl (by unfold mj_r; decide) ?_
    obtain ⟨h0, h⟩ := h
    refine mr_iadd (pc' := 141) rfl rfl h0 ?_
    refine mr_put (pc' := 144) rfl rfl rfl rfl (fun σ3 e9 => ?_)
    replace h := h σ3 e9
    exact mj_W_ls (mj_B_mono _) (mj_lev_of _ _ (by simp [mj_levb])) h
set_option maxRecDepth 20000 in
theorem qw_m60_144 {d : Nat} {Q : mj_Q} {y1 y2 y3 y4 y5 : Int} {σ : mj_S} (h : ((σ 0 22) ≤ y2 → ∀ σ1, σ1 = mj_up σ 0 11 y1 → Q none σ1) ∧ (y2 < (σ 0 22) → ∀ σ2, σ2 = mj_up σ 0 11 (σ 0 11) → Q none σ2)) : qh_m60_144 (d + 1) Q y1 y2 y3 y4 y5 σ := by
  show mj_P mjm_L mjm_Ms (d + 1) mjmo60 ((Option.none : Option Jvm.ClassFile.FieldType)) Q 144 [some (.inr (.inl 0)), some (.inl y1), some (.inl y2), some (.inl y3), some (.inl y4), some (.inl y5)] [] σ
  refine mr_aload (pc' := 145) rfl rfl rfl ?_
  refine mr_aload (pc' := 146) rfl rfl rfl ?_
  refine mr_get (ci := 0) (pc' := 149) rfl rfl rfl rfl ?_
  refine mr_iload (pc' := 150) rfl rfl rfl ?_
  refine mr_ic_le (pc' := 153) rfl rfl (fun c => ?_) (fun c => ?_)
  · replace h := h.1 c
    refine mr_iload (pc' := 161) rfl rfl rfl ?_
    refine mr_put (pc' := 164) rfl rfl rfl rfl (fun σ1 e9 => ?_)
    replace h := h σ1 e9
    exact mr_ret rfl rfl h
  · replace h := h.2 c
    refine mr_aload (pc' := 154) rfl rfl rfl ?_
    refine mr_get (ci := 0) (pc' := 157) rfl rfl rfl rfl ?_
    refine mr_goto rfl ?_
    refine mr_put (pc' := 164) rfl rfl rfl rfl (fun σ2 e9 => ?_)
    replace h := h σ2 e9
    exact mr_ret rfl rfl h
set_option maxRecDepth 20000 in
/-- ListSpeakerModel.form_ -/
theorem wq_m60 {d : Nat} {σ : mj_S} {Q : mj_Q} (h : mj_B mjm_L mjm_Ms (d + 1) 20 [.inr (.inl 0)] σ (fun r σ1 => ∃ v2, r = some (.inl v2) ∧ ∀ σ3, σ3 = mj_up σ1 0 33 0 → ∀ σ4, σ4 = mj_up σ3 0 36 0 → (¬ (σ4 0 5) = 0 → qh_m60_56 (d + 1) Q (σ 0 11) (σ 0 22) v2 0 σ4) ∧ ((σ4 0 5) = 0 → (¬ (536870912 ≤ v2) → qh_m60_56 (d + 1) Q (σ 0 11) (σ 0 22) v2 0 σ4) ∧ (536870912 ≤ v2 → z_pr v2 ∧ (¬ (z_cd (σ4 4) v2) = 268435465 → qh_m60_56 (d + 1) Q (σ 0 11) (σ 0 22) v2 0 σ4) ∧ ((z_cd (σ4 4) v2) = 268435465 → qh_m60_56 (d + 1) Q (σ 0 11) (σ 0 22) v2 1 σ4))))) : mj_B mjm_L mjm_Ms (d + 2) 60 [.inr (.inl 0)] σ Q := by
  refine mj_B_of (M := mjmM60) (ls := [some (.inr (.inl 0)), none, none, none, none, none]) rfl (mj_c1_all rfl) (Nat.le_of_ble_eq_true rfl) rfl ?_
  refine mr_aload (pc' := 1) rfl rfl rfl ?_
  refine mr_get (ci := 0) (pc' := 4) rfl rfl rfl rfl ?_
  refine mr_istore (pc' := 5) rfl rfl trivial (Nat.le_of_ble_eq_true rfl) rfl ?_
  refine mr_aload (pc' := 6) rfl rfl rfl ?_
  refine mr_get (ci := 0) (pc' := 9) rfl rfl rfl rfl ?_
  refine mr_istore (pc' := 10) rfl rfl trivial (Nat.le_of_ble_eq_true rfl) rfl ?_
  refine mr_aload (pc' := 11) rfl rfl rfl ?_
  refine mr_call (t := [(9, 0)]) (pc' := 14) rfl [.inr (.inl 0)] rfl rfl rfl (mj_recvV rfl) (Nat.le_of_ble_eq_true rfl) (mj_B_mono _ _ _ _ _ _ (fun r σ1 h => ?_) h)
  obtain ⟨v2, rfl, h⟩ := h
  refine mr_istore (pc' := 15) rfl rfl trivial (Nat.le_of_ble_eq_true rfl) rfl ?_
  refine mr_aload (pc' := 16) rfl rfl rfl ?_
  refine mr_const (pc' := 17) rfl rfl (by unfold mj_r; decide) ?_
  refine mr_put (pc' := 20) rfl rfl rfl rfl (fun σ3 e9 => ?_)
  replace h := h σ3 e9
  refine mr_aload (pc' := 21) rfl rfl rfl ?_
  refine mr_const (pc' := 22) rfl rfl (by unfold mj_r; decide) ?_
  refine mr_put (pc' := 25) rfl rfl rfl rfl (fun σ4 e9 => ?_)
  replace h := h σ4 e9
  refine mr_aload (pc' := 26) rfl rfl rfl ?_
  refine mr_get (ci := 0) (pc' := 29) rfl rfl rfl rfl ?_
  refine mr_if_ne (pc' := 32) rfl rfl (fun c => ?_) (fun c => ?_)
  · replace h := h.1 c
    refine mr_const (pc' := 54) rfl rfl (by unfold mj_r; decide) ?_
    refine mr_istore (pc' := 56) rfl rfl trivial (Nat.le_of_ble_eq_true rfl) rfl ?_
    exact mj_W_ls (mj_B_mono _) (mj_lev_of _ _ (by simp [mj_levb])) h
  · replace h := h.2 c
    refine mr_iload (pc' := 33) rfl rfl rfl ?_
    refine mr_call (t := []) (pc' := 36) rfl [.inl v2] rfl rfl rfl trivial (Nat.le_of_ble_eq_true rfl) (s_m3  ?_)
    refine mr_if_eq (pc' := 39) rfl rfl (fun c => ?_) (fun c => ?_)
    · replace h := h.1 (bo_0 c)
      refine mr_const (pc' := 54) rfl rfl (by unfold mj_r; decide) ?_
      refine mr_istore (pc' := 56) rfl rfl trivial (Nat.le_of_ble_eq_true rfl) rfl ?_
      exact mj_W_ls (mj_B_mono _) (mj_lev_of _ _ (by simp [mj_levb])) h
    · replace h := h.2 (bo_1 c)
      refine mr_aload (pc' := 40) rfl rfl rfl ?_
      refine mr_iload (pc' := 41) rfl rfl rfl ?_
      obtain ⟨h0, h⟩ := h
      refine mr_call (t := [(9, 0)]) (pc' := 44) rfl [.inr (.inl 0), .inl v2] rfl rfl rfl (mj_recvV rfl) (Nat.le_of_ble_eq_true rfl) (s_m5 h0 ?_)
      refine mr_const (pc' := 46) rfl rfl (by unfold mj_r; decide) ?_
      refine mr_ic_ne (pc' := 49) rfl rfl (fun c => ?_) (fun c => ?_)
      · replace h := h.1 c
        refine mr_const (pc' := 54) rfl rfl (by unfold mj_r; decide) ?_
        refine mr_istore (pc' := 56) rfl rfl trivial (Nat.le_of_ble_eq_true rfl) rfl ?_
        exact mj_W_ls (mj_B_mono _) (mj_lev_of _ _ (by simp [mj_levb])) h
      · replace h := h.2 c
        refine mr_const (pc' := 50) rfl rfl (by unfold mj_r; decide) ?_
        refine mr_goto rfl ?_
        refine mr_istore (pc' := 56) rfl rfl trivial (Nat.le_of_ble_eq_true rfl) rfl ?_
        exact mj_W_ls (mj_B_mono _) (mj_lev_of _ _ (by simp [mj_levb])) h
