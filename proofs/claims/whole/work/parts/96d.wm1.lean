def qh_m7_4 (d : Nat) (Q : mj_Q) (y1 y2 y3 : Int) (σ : mj_S) : Prop := mj_P mjm_L mjm_Ms d mjmo7 ((Option.some Jvm.ClassFile.FieldType.int)) Q 4 [some (.inr (.inl 0)), some (.inl y1), some (.inl y2), some (.inl y3)] [] σ
set_option maxRecDepth 20000 in
theorem qw_m7_4 {d : Nat} {Q : mj_Q} {y1 y2 y3 : Int} {σ : mj_S} (h : (¬ (536870912 ≤ y3) → (¬ y3 = 268435456 → Q (some (.inl (-1))) σ) ∧ (y3 = 268435456 → Q (some (.inl y2)) σ)) ∧ (536870912 ≤ y3 → mj_r (y2 + 1) ∧ z_pr y3 ∧ qh_m7_4 (d + 1) Q y1 (y2 + 1) (z_cd (σ 5) y3) σ)) : qh_m7_4 (d + 1) Q y1 y2 y3 σ := by
  show mj_P mjm_L mjm_Ms (d + 1) mjmo7 ((Option.some Jvm.ClassFile.FieldType.int)) Q 4 [some (.inr (.inl 0)), some (.inl y1), some (.inl y2), some (.inl y3)] [] σ
  refine mr_iload (pc' := 5) rfl rfl rfl ?_
  refine mr_call (t := []) (pc' := 8) rfl [.inl y3] rfl rfl rfl trivial (Nat.le_of_ble_eq_true rfl) (s_m3  ?_)
  refine mr_if_eq (pc' := 11) rfl rfl (fun c => ?_) (fun c => ?_)
  · replace h := h.1 (bo_0 c)
    refine mr_iload (pc' := 24) rfl rfl rfl ?_
    refine mr_const (pc' := 26) rfl rfl (by unfold mj_r; decide) ?_
    refine mr_ic_ne (pc' := 29) rfl rfl (fun c => ?_) (fun c => ?_)
    · replace h := h.1 c
      refine mr_const (pc' := 34) rfl rfl (by unfold mj_r; decide) ?_
      exact mr_iret rfl rfl trivial h
    · replace h := h.2 c
      refine mr_iload (pc' := 30) rfl rfl rfl ?_
      refine mr_goto rfl ?_
      exact mr_iret rfl rfl trivial h
  · replace h := h.2 (bo_1 c)
    obtain ⟨h0, h⟩ := h
    refine mr_iinc (pc' := 14) rfl rfl rfl trivial h0 rfl ?_
    refine mr_aload (pc' := 15) rfl rfl rfl ?_
    refine mr_iload (pc' := 16) rfl rfl rfl ?_
    obtain ⟨h0, h⟩ := h
    refine mr_call (t := [(9, 0)]) (pc' := 19) rfl [.inr (.inl 0), .inl y3] rfl rfl rfl (mj_recvV rfl) (Nat.le_of_ble_eq_true rfl) (s_m6 h0 ?_)
    refine mr_istore (pc' := 20) rfl rfl trivial (Nat.le_of_ble_eq_true rfl) rfl ?_
    refine mr_goto rfl ?_
    exact mj_W_ls (mj_B_mono _) (mj_lev_of _ _ (by simp [mj_levb])) h
set_option maxRecDepth 20000 in
/-- ListSpeakerModel.length_ -/
theorem wq_m7 {d : Nat} {σ : mj_S} {Q : mj_Q} {x1 : Int} (h : qh_m7_4 (d + 1) Q x1 0 x1 σ) : mj_B mjm_L mjm_Ms (d + 2) 7 [.inr (.inl 0), .inl x1] σ Q := by
  refine mj_B_of (M := mjmM7) (ls := [some (.inr (.inl 0)), some (.inl x1), none, none]) rfl (mj_c1_all rfl) (Nat.le_of_ble_eq_true rfl) rfl ?_
  refine mr_const (pc' := 1) rfl rfl (by unfold mj_r; decide) ?_
  refine mr_istore (pc' := 2) rfl rfl trivial (Nat.le_of_ble_eq_true rfl) rfl ?_
  refine mr_iload (pc' := 3) rfl rfl rfl ?_
  refine mr_istore (pc' := 4) rfl rfl trivial (Nat.le_of_ble_eq_true rfl) rfl ?_
  exact mj_W_ls (mj_B_mono _) (mj_lev_of _ _ (by simp [mj_levb])) h
def qh_m8_5 (d : Nat) (Q : mj_Q) (y1 y2 y3 y4 : Int) (σ : mj_S) : Prop := mj_P mjm_L mjm_Ms d mjmo8 ((Option.some Jvm.ClassFile.FieldType.int)) Q 5 [some (.inr (.inl 0)), some (.inl y1), some (.inl y2), some (.inl y3), some (.inl y4)] [] σ
set_option maxRecDepth 20000 in
theorem qw_m8_5 {d : Nat} {Q : mj_Q} {y1 y2 y3 y4 : Int} {σ : mj_S} (h : (y2 ≤ y4 → z_pr y3 ∧ Q (some (.inl (z_cd (σ 4) y3))) σ) ∧ (y4 < y2 → z_pr y3 ∧ mj_r (y4 + 1) ∧ qh_m8_5 (d + 1) Q y1 y2 (z_cd (σ 5) y3) (y4 + 1) σ)) : qh_m8_5 (d + 1) Q y1 y2 y3 y4 σ := by
  show mj_P mjm_L mjm_Ms (d + 1) mjmo8 ((Option.some Jvm.ClassFile.FieldType.int)) Q 5 [some (.inr (.inl 0)), some (.inl y1), some (.inl y2), some (.inl y3), some (.inl y4)] [] σ
  refine mr_iload (pc' := 7) rfl rfl rfl ?_
  refine mr_iload (pc' := 8) rfl rfl rfl ?_
  refine mr_ic_ge (pc' := 11) rfl rfl (fun c => ?_) (fun c => ?_)
  · replace h := h.1 c
    refine mr_aload (pc' := 24) rfl rfl rfl ?_
    refine mr_iload (pc' := 25) rfl rfl rfl ?_
    obtain ⟨h0, h⟩ := h
    refine mr_call (t := [(9, 0)]) (pc' := 28) rfl [.inr (.inl 0), .inl y3] rfl rfl rfl (mj_recvV rfl) (Nat.le_of_ble_eq_true rfl) (s_m5 h0 ?_)
    exact mr_iret rfl rfl trivial h
  · replace h := h.2 c
    refine mr_aload (pc' := 12) rfl rfl rfl ?_
    refine mr_iload (pc' := 13) rfl rfl rfl ?_
    obtain ⟨h0, h⟩ := h
    refine mr_call (t := [(9, 0)]) (pc' := 16) rfl [.inr (.inl 0), .inl y3] rfl rfl rfl (mj_recvV rfl) (Nat.le_of_ble_eq_true rfl) (s_m6 h0 ?_)
    refine mr_istore (pc' := 17) rfl rfl trivial (Nat.le_of_ble_eq_true rfl) rfl ?_
    obtain ⟨h0, h⟩ := h
    refine mr_iinc (pc' := 20) rfl rfl rfl trivial h0 rfl ?_
    refine mr_goto rfl ?_
    exact mj_W_ls (mj_B_mono _) (mj_lev_of _ _ (by simp [mj_levb])) h
set_option maxRecDepth 20000 in
/-- ListSpeakerModel.item_ -/
theorem wq_m8 {d : Nat} {σ : mj_S} {Q : mj_Q} {x1 x2 : Int} (h : qh_m8_5 (d + 1) Q x1 x2 x1 0 σ) : mj_B mjm_L mjm_Ms (d + 2) 8 [.inr (.inl 0), .inl x1, .inl x2] σ Q := by
  refine mj_B_of (M := mjmM8) (ls := [some (.inr (.inl 0)), some (.inl x1), some (.inl x2), none, none]) rfl (mj_c1_all rfl) (Nat.le_of_ble_eq_true rfl) rfl ?_
  refine mr_iload (pc' := 1) rfl rfl rfl ?_
  refine mr_istore (pc' := 2) rfl rfl trivial (Nat.le_of_ble_eq_true rfl) rfl ?_
  refine mr_const (pc' := 3) rfl rfl (by unfold mj_r; decide) ?_
  refine mr_istore (pc' := 5) rfl rfl trivial (Nat.le_of_ble_eq_true rfl) rfl ?_
  exact mj_W_ls (mj_B_mono _) (mj_lev_of _ _ (by simp [mj_levb])) h
def qh_m12_2 (d : Nat) (Q : mj_Q) (y1 : Int) (σ : mj_S) : Prop := mj_P mjm_L mjm_Ms d mjmo12 ((Option.none : Option Jvm.ClassFile.FieldType)) Q 2 [some (.inr (.inl 0)), some (.inl y1)] [] σ
def qh_m12_48 (d : Nat) (Q : mj_Q) (y1 : Int) (σ : mj_S) : Prop := mj_P mjm_L mjm_Ms d mjmo12 ((Option.none : Option Jvm.ClassFile.FieldType)) Q 48 [some (.inr (.inl 0)), some (.inl y1)] [] σ
set_option maxRecDepth 20000 in
theorem qw_m12_2 {d : Nat} {Q : mj_Q} {y1 : Int} {σ : mj_S} (h : (y1 = 0 → Q none σ) ∧ (¬ y1 = 0 → 0 ≤ σ 0 4 ∧ σ 0 2 ≤ 300 ∧ ((z_lk σ) = 32 → 0 ≤ σ 0 4 ∧ σ 0 2 ≤ 300 ∧ (¬ (z_lk σ) = 59 → mj_r ((σ 0 4) + 1) ∧ ∀ σ1, σ1 = mj_up σ 0 4 ((σ 0 4) + 1) → qh_m12_2 (d + 1) Q 1 σ1) ∧ ((z_lk σ) = 59 → qh_m12_48 (d + 1) Q 1 σ)) ∧ (¬ (z_lk σ) = 32 → 0 ≤ σ 0 4 ∧ σ 0 2 ≤ 300 ∧ ((z_lk σ) = 10 → 0 ≤ σ 0 4 ∧ σ 0 2 ≤ 300 ∧ (¬ (z_lk σ) = 59 → mj_r ((σ 0 4) + 1) ∧ ∀ σ2, σ2 = mj_up σ 0 4 ((σ 0 4) + 1) → qh_m12_2 (d + 1) Q 1 σ2) ∧ ((z_lk σ) = 59 → qh_m12_48 (d + 1) Q 1 σ)) ∧ (¬ (z_lk σ) = 10 → 0 ≤ σ 0 4 ∧ σ 0 2 ≤ 300 ∧ (¬ (z_lk σ) = 59 → 0 ≤ σ 0 4 ∧ σ 0 2 ≤ 300 ∧ (¬ (z_lk σ) = 59 → qh_m12_2 (d + 1) Q 0 σ) ∧ ((z_lk σ) = 59 → qh_m12_48 (d + 1) Q 0 σ)) ∧ ((z_lk σ) = 59 → 0 ≤ σ 0 4 ∧ σ 0 2 ≤ 300 ∧ (¬ (z_lk σ) = 59 → mj_r ((σ 0 4) + 1) ∧ ∀ σ3, σ3 = mj_up σ 0 4 ((σ 0 4) + 1) → qh_m12_2 (d + 1) Q 1 σ3) ∧ ((z_lk σ) = 59 → qh_m12_48 (d + 1) Q 1 σ)))))) : qh_m12_2 (d + 1) Q y1 σ := by
  show mj_P mjm_L mjm_Ms (d + 1) mjmo12 ((Option.none : Option Jvm.ClassFile.FieldType)) Q 2 [some (.inr (.inl 0)), some (.inl y1)] [] σ
  refine mr_iload (pc' := 3) rfl rfl rfl ?_
  refine mr_if_eq (pc' := 6) rfl rfl (fun c => ?_) (fun c => ?_)
  · replace h := h.1 c
    exact mr_ret rfl rfl h
  · replace h := h.2 c
    refine mr_aload (pc' := 7) rfl rfl rfl ?_
    obtain ⟨h0, h1, h⟩ := h
    refine mr_call (t := [(9, 0)]) (pc' := 10) rfl [.inr (.inl 0)] rfl rfl rfl (mj_recvV rfl) (Nat.le_of_ble_eq_true rfl) (s_m11 h0 h1 ?_)
    refine mr_const (pc' := 12) rfl rfl (by unfold mj_r; decide) ?_
    refine mr_ic_eq (pc' := 15) rfl rfl (fun c => ?_) (fun c => ?_)
    · replace h := h.1 c
      refine mr_const (pc' := 34) rfl rfl (by unfold mj_r; decide) ?_
      refine mr_goto rfl ?_
      refine mr_istore (pc' := 39) rfl rfl trivial (Nat.le_of_ble_eq_true rfl) rfl ?_
      refine mr_aload (pc' := 40) rfl rfl rfl ?_
      obtain ⟨h0, h1, h⟩ := h
      refine mr_call (t := [(9, 0)]) (pc' := 43) rfl [.inr (.inl 0)] rfl rfl rfl (mj_recvV rfl) (Nat.le_of_ble_eq_true rfl) (s_m11 h0 h1 ?_)
      refine mr_const (pc' := 45) rfl rfl (by unfold mj_r; decide) ?_
      refine mr_ic_ne (pc' := 48) rfl rfl (fun c => ?_) (fun c => ?_)
      · replace h := h.1 c
        refine mr_iload (pc' := 78) rfl rfl rfl ?_
        refine mr_if_eq (pc' := 81) rfl rfl (fun c => absurd c (by decide)) (fun _ => ?_)
        refine mr_aload (pc' := 82) rfl rfl rfl ?_
        refine mr_dup (pc' := 83) rfl rfl trivial ?_
        refine mr_get (ci := 0) (pc' := 86) rfl rfl rfl rfl ?_
        refine mr_const (pc' := 87) rfl rfl (by unfold mj_r; decide) ?_
        obtain ⟨h0, h⟩ := h
        refine mr_iadd (pc' := 88) rfl rfl h0 ?_
        refine mr_put (pc' := 91) rfl rfl rfl rfl (fun σ1 e9 => ?_)
        replace h := h σ1 e9
        refine mr_goto rfl ?_
        exact mj_W_ls (mj_B_mono _) (mj_lev_of _ _ (by simp [mj_levb])) h
      · replace h := h.2 c
        exact mj_W_ls (mj_B_mono _) (mj_lev_of _ _ (by simp [mj_levb])) h
    · replace h := h.2 c
      refine mr_aload (pc' := 16) rfl rfl rfl ?_
      obtain ⟨h0, h1, h⟩ := h
      refine mr_call (t := [(9, 0)]) (pc' := 19) rfl [.inr (.inl 0)] rfl rfl rfl (mj_recvV rfl) (Nat.le_of_ble_eq_true rfl) (s_m11 h0 h1 ?_)
      refine mr_const (pc' := 21) rfl rfl (by unfold mj_r; decide) ?_
      refine mr_ic_eq (pc' := 24) rfl rfl (fun c => ?_) (fun c => ?_)
      · replace h := h.1 c
        refine mr_const (pc' := 34) rfl rfl (by unfold mj_r; decide) ?_
        refine mr_goto rfl ?_
        refine mr_istore (pc' := 39) rfl rfl trivial (Nat.le_of_ble_eq_true rfl) rfl ?_
        refine mr_aload (pc' := 40) rfl rfl rfl ?_
        obtain ⟨h0, h1, h⟩ := h
        refine mr_call (t := [(9, 0)]) (pc' := 43) rfl [.inr (.inl 0)] rfl rfl rfl (mj_recvV rfl) (Nat.le_of_ble_eq_true rfl) (s_m11 h0 h1 ?_)
        refine mr_const (pc' := 45) rfl rfl (by unfold mj_r; decide) ?_
        refine mr_ic_ne (pc' := 48) rfl rfl (fun c => ?_) (fun c => ?_)
        · replace h := h.1 c
          refine mr_iload (pc' := 78) rfl rfl rfl ?_
          refine mr_if_eq (pc' := 81) rfl rfl (fun c => absurd c (by decide)) (fun _ => ?_)
          refine mr_aload (pc' := 82) rfl rfl rfl ?_
          refine mr_dup (pc' := 83) rfl rfl trivial ?_
          refine mr_get (ci := 0) (pc' := 86) rfl rfl rfl rfl ?_
          refine mr_const (pc' := 87) rfl rfl (by unfold mj_r; decide) ?_
          obtain ⟨h0, h⟩ := h
          refine mr_iadd (pc' := 88) rfl rfl h0 ?_
          refine mr_put (pc' := 91) rfl rfl rfl rfl (fun σ2 e9 => ?_)
          replace h := h σ2 e9
          refine mr_goto rfl ?_
          exact mj_W_ls (mj_B_mono _) (mj_lev_of _ _ (by simp [mj_levb])) h
        · replace h := h.2 c
          exact mj_W_ls (mj_B_mono _) (mj_lev_of _ _ (by simp [mj_levb])) h
      · replace h := h.2 c
        refine mr_aload (pc' := 25) rfl rfl rfl ?_
        obtain ⟨h0, h1, h⟩ := h
        refine mr_call (t := [(9, 0)]) (pc' := 28) rfl [.inr (.inl 0)] rfl rfl rfl (mj_recvV rfl) (Nat.le_of_ble_eq_true rfl) (s_m11 h0 h1 ?_)
        refine mr_const (pc' := 30) rfl rfl (by unfold mj_r; decide) ?_
        refine mr_ic_ne (pc' := 33) rfl rfl (fun c => ?_) (fun c => ?_)
        · replace h := h.1 c
          refine mr_const (pc' := 38) rfl rfl (by unfold mj_r; decide) ?_
          refine mr_istore (pc' := 39) rfl rfl trivial (Nat.le_of_ble_eq_true rfl) rfl ?_
          refine mr_aload (pc' := 40) rfl rfl rfl ?_
          obtain ⟨h0, h1, h⟩ := h
          refine mr_call (t := [(9, 0)]) (pc' := 43) rfl [.inr (.inl 0)] rfl rfl rfl (mj_recvV rfl) (Nat.le_of_ble_eq_true rfl) (s_m11 h0 h1 ?_)
          refine mr_const (pc' := 45) rfl rfl (by unfold mj_r; decide) ?_
          refine mr_ic_ne (pc' := 48) rfl rfl (fun c => ?_) (fun c => ?_)
          · replace h := h.1 c
            refine mr_iload (pc' := 78) rfl rfl rfl ?_
            refine mr_if_eq (pc' := 81) rfl rfl (fun _ => ?_) (fun c => absurd c (by decide))
            exact mj_W_ls (mj_B_mono _) (mj_lev_of _ _ (by simp [mj_levb])) h
          · replace h := h.2 c
            exact mj_W_ls (mj_B_mono _) (mj_lev_of _ _ (by simp [mj_levb])) h
        · replace h := h.2 c
          refine mr_const (pc' := 34) rfl rfl (by unfold mj_r; decide) ?_
          refine mr_goto rfl ?_
          refine mr_istore (pc' := 39) rfl rfl trivial (Nat.le_of_ble_eq_true rfl) rfl ?_
          refine mr_aload (pc' := 40) rfl rfl rfl ?_
          obtain ⟨h0, h1, h⟩ := h
          refine mr_call (t := [(9, 0)]) (pc' := 43) rfl [.inr (.inl 0)] rfl rfl rfl (mj_recvV rfl) (Nat.le_of_ble_eq_true rfl) (s_m11 h0 h1 ?_)
          refine mr_const (pc' := 45) rfl rfl (by unfold mj_r; decide) ?_
          refine mr_ic_ne (pc' := 48) rfl rfl (fun c => ?_) (fun c => ?_)
          · replace h := h.1 c
            refine mr_iload (pc' := 78) rfl rfl rfl ?_
            refine mr_if_eq (pc' := 81) rfl rfl (fun c => absurd c (by decide)) (fun _ => ?_)
            refine mr_aload (pc' := 82) rfl rfl rfl ?_
            refine mr_dup (pc' := 83) rfl rfl trivial ?_
            refine mr_get (ci := 0) (pc' := 86) rfl rfl rfl rfl ?_
            refine mr_const (pc' := 87) rfl rfl (by unfold mj_r; decide) ?_
            obtain ⟨h0, h⟩ := h
            refine mr_iadd (pc' := 88) rfl rfl h0 ?_
            refine mr_put (pc' := 91) rfl rfl rfl rfl (fun σ3 e9 => ?_)
            replace h := h σ3 e9
            refine mr_goto rfl ?_
            exact mj_W_ls (mj_B_mono _) (mj_lev_of _ _ (by simp [mj_levb])) h
          · replace h := h.2 c
            exact mj_W_ls (mj_B_mono _) (mj_lev_of _ _ (by simp [mj_levb])) h
set_option maxRecDepth 20000 in
theorem qw_m12_48 {d : Nat} {Q : mj_Q} {y1 : Int} {σ : mj_S} (h : 0 ≤ σ 0 4 ∧ σ 0 2 ≤ 300 ∧ ((z_lk σ) < 0 → qh_m12_2 (d + 1) Q y1 σ) ∧ (0 ≤ (z_lk σ) → 0 ≤ σ 0 4 ∧ σ 0 2 ≤ 300 ∧ ((z_lk σ) = 10 → qh_m12_2 (d + 1) Q y1 σ) ∧ (¬ (z_lk σ) = 10 → mj_r ((σ 0 4) + 1) ∧ ∀ σ1, σ1 = mj_up σ 0 4 ((σ 0 4) + 1) → qh_m12_48 (d + 1) Q y1 σ1))) : qh_m12_48 (d + 1) Q y1 σ := by
  show mj_P mjm_L mjm_Ms (d + 1) mjmo12 ((Option.none : Option Jvm.ClassFile.FieldType)) Q 48 [some (.inr (.inl 0)), some (.inl y1)] [] σ
  refine mr_aload (pc' := 49) rfl rfl rfl ?_
  obtain ⟨h0, h1, h⟩ := h
  refine mr_call (t := [(9, 0)]) (pc' := 52) rfl [.inr (.inl 0)] rfl rfl rfl (mj_recvV rfl) (Nat.le_of_ble_eq_true rfl) (s_m11 h0 h1 ?_)
  refine mr_if_lt (pc' := 55) rfl rfl (fun c => ?_) (fun c => ?_)
  · replace h := h.1 c
    exact mj_W_ls (mj_B_mono _) (mj_lev_of _ _ (by simp [mj_levb])) h
  · replace h := h.2 c
    refine mr_aload (pc' := 56) rfl rfl rfl ?_
    obtain ⟨h0, h1, h⟩ := h
    refine mr_call (t := [(9, 0)]) (pc' := 59) rfl [.inr (.inl 0)] rfl rfl rfl (mj_recvV rfl) (Nat.le_of_ble_eq_true rfl) (s_m11 h0 h1 ?_)
    refine mr_const (pc' := 61) rfl rfl (by unfold mj_r; decide) ?_
    refine mr_ic_eq (pc' := 64) rfl rfl (fun c => ?_) (fun c => ?_)
    · replace h := h.1 c
      exact mj_W_ls (mj_B_mono _) (mj_lev_of _ _ (by simp [mj_levb])) h
    · replace h := h.2 c
      refine mr_aload (pc' := 65) rfl rfl rfl ?_
      refine mr_dup (pc' := 66) rfl rfl trivial ?_
      refine mr_get (ci := 0) (pc' := 69) rfl rfl rfl rfl ?_
      refine mr_const (pc' := 70) rfl rfl (by unfold mj_r; decide) ?_
      obtain ⟨h0, h⟩ := h
      refine mr_iadd (pc' := 71) rfl rfl h0 ?_
      refine mr_put (pc' := 74) rfl rfl rfl rfl (fun σ1 e9 => ?_)
      replace h := h σ1 e9
      refine mr_goto rfl ?_
      exact mj_W_ls (mj_B_mono _) (mj_lev_of _ _ (by simp [mj_levb])) h
set_option maxRecDepth 20000 in
/-- ListSpeakerModel.skip_ -/
theorem wq_m12 {d : Nat} {σ : mj_S} {Q : mj_Q} (h : qh_m12_2 (d + 1) Q 1 σ) : mj_B mjm_L mjm_Ms (d + 2) 12 [.inr (.inl 0)] σ Q := by
  refine mj_B_of (M := mjmM12) (ls := [some (.inr (.inl 0)), none]) rfl (mj_c1_all rfl) (Nat.le_of_ble_eq_true rfl) rfl ?_
  refine mr_const (pc' := 1) rfl rfl (by unfold mj_r; decide) ?_
  refine mr_istore (pc' := 2) rfl rfl trivial (Nat.le_of_ble_eq_true rfl) rfl ?_
  exact mj_W_ls (mj_B_mono _) (mj_lev_of _ _ (by simp [mj_levb])) h
def qh_m16_12 (d : Nat) (Q : mj_Q) (y1 y2 y3 y4 : Int) (σ : mj_S) : Prop := mj_P mjm_L mjm_Ms d mjmo16 ((Option.some Jvm.ClassFile.FieldType.int)) Q 12 [some (.inr (.inl 0)), some (.inl y1), some (.inl y2), some (.inl y3), some (.inr (.inr y4)), none, none] [] σ
def qh_m16_147 (d : Nat) (Q : mj_Q) (y1 y2 y3 y4 y6 : Int) (σ : mj_S) : Prop := mj_P mjm_L mjm_Ms d mjmo16 ((Option.some Jvm.ClassFile.FieldType.int)) Q 147 [some (.inr (.inl 0)), some (.inl y1), some (.inl y2), some (.inl y3), some (.inr (.inr y4)), none, some (.inl y6)] [] σ
def qh_m16_47 (d : Nat) (Q : mj_Q) (y1 y2 y3 y4 y6 : Int) (σ : mj_S) : Prop := mj_P mjm_L mjm_Ms d mjmo16 ((Option.some Jvm.ClassFile.FieldType.int)) Q 47 [some (.inr (.inl 0)), some (.inl y1), some (.inl y2), some (.inl y3), some (.inr (.inr y4)), none, some (.inl y6)] [] σ
def qh_m16_73 (d : Nat) (Q : mj_Q) (y1 y2 y3 y4 y6 : Int) (σ : mj_S) : Prop := mj_P mjm_L mjm_Ms d mjmo16 ((Option.some Jvm.ClassFile.FieldType.int)) Q 73 [some (.inr (.inl 0)), some (.inl y1), some (.inl y2), some (.inl y3), some (.inr (.inr y4)), none, some (.inl y6)] [] σ
def qh_m16_107 (d : Nat) (Q : mj_Q) (y1 y2 y3 y4 y6 : Int) (σ : mj_S) : Prop := mj_P mjm_L mjm_Ms d mjmo16 ((Option.some Jvm.ClassFile.FieldType.int)) Q 107 [some (.inr (.inl 0)), some (.inl y1), some (.inl y2), some (.inl y3), some (.inr (.inr y4)), none, some (.inl y6)] [] σ
set_option maxRecDepth 20000 in
theorem qw_m16_12 {d : Nat} {Q : mj_Q} {y1 y2 y3 y4 : Int} {σ : mj_S} (h : 0 ≤ σ 0 4 ∧ σ 0 2 ≤ 300 ∧ (¬ (0 ≤ (z_lk σ) ∧ ¬ z_er (z_lk σ)) → mj_r ((σ 0 4) - y1) ∧ (¬ ((σ 0 4) - y1) = 1 → qh_m16_147 (d + 1) Q y1 y2 y3 y4 ((σ 0 4) - y1) σ) ∧ (((σ 0 4) - y1) = 1 → 0 ≤ y1 ∧ y1 < 300 ∧ (¬ (σ 1 y1.toNat) = 46 → qh_m16_147 (d + 1) Q y1 y2 y3 y4 ((σ 0 4) - y1) σ) ∧ ((σ 1 y1.toNat) = 46 → Q (some (.inl (-1))) σ))) ∧ (0 ≤ (z_lk σ) ∧ ¬ z_er (z_lk σ) → 0 ≤ σ 0 4 ∧ σ 0 2 ≤ 300 ∧ (y2 = 0 → qh_m16_47 (d + 1) Q y1 0 y3 y4 (z_lk σ) σ) ∧ (¬ y2 = 0 → (¬ (z_dg (z_lk σ)) → qh_m16_47 (d + 1) Q y1 0 y3 y4 (z_lk σ) σ) ∧ (z_dg (z_lk σ) → qh_m16_47 (d + 1) Q y1 1 y3 y4 (z_lk σ) σ)))) : qh_m16_12 (d + 1) Q y1 y2 y3 y4 σ := by
  show mj_P mjm_L mjm_Ms (d + 1) mjmo16 ((Option.some Jvm.ClassFile.FieldType.int)) Q 12 [some (.inr (.inl 0)), some (.inl y1), some (.inl y2), some (.inl y3), some (.inr (.inr y4)), none, none] [] σ
  refine mr_aload (pc' := 13) rfl rfl rfl ?_
  refine mr_aload (pc' := 14) rfl rfl rfl ?_
  obtain ⟨h0, h1, h⟩ := h
  refine mr_call (t := [(9, 0)]) (pc' := 17) rfl [.inr (.inl 0)] rfl rfl rfl (mj_recvV rfl) (Nat.le_of_ble_eq_true rfl) (s_m11 h0 h1 ?_)
  refine mr_call (t := [(9, 0)]) (pc' := 20) rfl [.inr (.inl 0), .inl (z_lk σ)] rfl rfl rfl (mj_recvV rfl) (Nat.le_of_ble_eq_true rfl) (s_m13  ?_)
  refine mr_if_eq (pc' := 23) rfl rfl (fun c => ?_) (fun c => ?_)
  · replace h := h.1 (bo_0 c)
    refine mr_aload (pc' := 121) rfl rfl rfl ?_
    refine mr_get (ci := 0) (pc' := 124) rfl rfl rfl rfl ?_
    refine mr_iload (pc' := 125) rfl rfl rfl ?_
    obtain ⟨h0, h⟩ := h
    refine mr_isub (pc' := 126) rfl rfl h0 ?_
    refine mr_istore (pc' := 128) rfl rfl trivial (Nat.le_of_ble_eq_true rfl) rfl ?_
    refine mr_iload (pc' := 130) rfl rfl rfl ?_
    refine mr_const (pc' := 131) rfl rfl (by unfold mj_r; decide) ?_
    refine mr_ic_ne (pc' := 134) rfl rfl (fun c => ?_) (fun c => ?_)
    · replace h := h.1 c
      exact mj_W_ls (mj_B_mono _) (mj_lev_of _ _ (by simp [mj_levb])) h
    · replace h := h.2 c
      refine mr_aload (pc' := 135) rfl rfl rfl ?_
      refine mr_getr (ci := 0) (pc' := 138) rfl rfl rfl rfl ?_
      refine mr_iload (pc' := 139) rfl rfl rfl ?_
      obtain ⟨h0, h1, h⟩ := h
      refine mr_cald (pc' := 140) rfl rfl rfl h0 h1 ?_
      refine mr_const (pc' := 142) rfl rfl (by unfold mj_r; decide) ?_
      refine mr_ic_ne (pc' := 145) rfl rfl (fun c => ?_) (fun c => ?_)
      · replace h := h.1 c
        exact mj_W_ls (mj_B_mono _) (mj_lev_of _ _ (by simp [mj_levb])) h
      · replace h := h.2 c
        refine mr_const (pc' := 146) rfl rfl (by unfold mj_r; decide) ?_
        exact mr_iret rfl rfl trivial h
  · replace h := h.2 (bo_1 c)
    refine mr_aload (pc' := 24) rfl rfl rfl ?_
    obtain ⟨h0, h1, h⟩ := h
    refine mr_call (t := [(9, 0)]) (pc' := 27) rfl [.inr (.inl 0)] rfl rfl rfl (mj_recvV rfl) (Nat.le_of_ble_eq_true rfl) (s_m11 h0 h1 ?_)
    refine mr_istore (pc' := 29) rfl rfl trivial (Nat.le_of_ble_eq_true rfl) rfl ?_
    refine mr_iload (pc' := 30) rfl rfl rfl ?_
    refine mr_if_eq (pc' := 33) rfl rfl (fun c => ?_) (fun c => ?_)
    · replace h := h.1 c
      refine mr_const (pc' := 46) rfl rfl (by unfold mj_r; decide) ?_
      refine mr_istore (pc' := 47) rfl rfl trivial (Nat.le_of_ble_eq_true rfl) rfl ?_
      exact mj_W_ls (mj_B_mono _) (mj_lev_of _ _ (by simp [mj_levb])) h
    · replace h := h.2 c
      refine mr_iload (pc' := 35) rfl rfl rfl ?_
      refine mr_call (t := []) (pc' := 38) rfl [.inl (z_lk σ)] rfl rfl rfl trivial (Nat.le_of_ble_eq_true rfl) (s_m14  ?_)
      refine mr_if_eq (pc' := 41) rfl rfl (fun c => ?_) (fun c => ?_)
      · replace h := h.1 (bo_0 c)
        refine mr_const (pc' := 46) rfl rfl (by unfold mj_r; decide) ?_
        refine mr_istore (pc' := 47) rfl rfl trivial (Nat.le_of_ble_eq_true rfl) rfl ?_
        exact mj_W_ls (mj_B_mono _) (mj_lev_of _ _ (by simp [mj_levb])) h
      · replace h := h.2 (bo_1 c)
        refine mr_const (pc' := 42) rfl rfl (by unfold mj_r; decide) ?_
        refine mr_goto rfl ?_
        refine mr_istore (pc' := 47) rfl rfl trivial (Nat.le_of_ble_eq_true rfl) rfl ?_
        exact mj_W_ls (mj_B_mono _) (mj_lev_of _ _ (by simp [mj_levb])) h
set_option maxRecDepth 20000 in
theorem qw_m16_147 {d : Nat} {Q : mj_Q} {y1 y2 y3 y4 y6 : Int} {σ : mj_S} (h : (y2 = 0 → (y3 = 0 → ∀ σ1, σ1 = z_sp σ 1 → Q (some (.inl 268435456)) σ1) ∧ (¬ y3 = 0 → (8 < y6 → ∀ σ2, σ2 = z_sp σ 1 → Q (some (.inl 268435456)) σ2) ∧ (y6 ≤ 8 → 0 ≤ y1 ∧ y1 < 300 ∧ (¬ (z_dg (σ 1 y1.toNat)) → mj_B mjm_L mjm_Ms (d + 1) 17 [.inr (.inl 0), .inl y1, .inl y6] σ (fun r σ3 => ∃ v4, r = some (.inl v4) ∧ Q (some (.inl v4)) σ3)) ∧ (z_dg (σ 1 y1.toNat) → ∀ σ5, σ5 = z_sp σ 1 → Q (some (.inl 268435456)) σ5)))) ∧ (¬ y2 = 0 → ((if 268435455 < y4 then 1 else if y4 = 268435455 then 0 else -1) ≤ 0 → mj_r y4 ∧ Q (some (.inl y4)) σ) ∧ (0 < (if 268435455 < y4 then 1 else if y4 = 268435455 then 0 else -1) → ∀ σ6, σ6 = z_sp σ 1 → Q (some (.inl 268435456)) σ6))) : qh_m16_147 (d + 1) Q y1 y2 y3 y4 y6 σ := by
  show mj_P mjm_L mjm_Ms (d + 1) mjmo16 ((Option.some Jvm.ClassFile.FieldType.int)) Q 147 [some (.inr (.inl 0)), some (.inl y1), some (.inl y2), some (.inl y3), some (.inr (.inr y4)), none, some (.inl y6)] [] σ
  refine mr_iload (pc' := 148) rfl rfl rfl ?_
  refine mr_if_eq (pc' := 151) rfl rfl (fun c => ?_) (fun c => ?_)
  · replace h := h.1 c
    refine mr_iload (pc' := 173) rfl rfl rfl ?_
    refine mr_if_eq (pc' := 176) rfl rfl (fun c => ?_) (fun c => ?_)
    · replace h := h.1 c
      refine mr_aload (pc' := 196) rfl rfl rfl ?_
      refine mr_const (pc' := 197) rfl rfl (by unfold mj_r; decide) ?_
      refine mr_call (t := [(9, 0)]) (pc' := 200) rfl [.inr (.inl 0), .inl 1] rfl rfl rfl (mj_recvV rfl) (Nat.le_of_ble_eq_true rfl) (s_m2  (fun σ1 e9 => ?_))
      replace h := h σ1 e9
      exact mr_iret rfl rfl trivial h
    · replace h := h.2 c
      refine mr_iload (pc' := 178) rfl rfl rfl ?_
      refine mr_const (pc' := 180) rfl rfl (by unfold mj_r; decide) ?_
      refine mr_ic_gt (pc' := 183) rfl rfl (fun c => ?_) (fun c => ?_)
      · replace h := h.1 c
        refine mr_aload (pc' := 196) rfl rfl rfl ?_
        refine mr_const (pc' := 197) rfl rfl (by unfold mj_r; decide) ?_
        refine mr_call (t := [(9, 0)]) (pc' := 200) rfl [.inr (.inl 0), .inl 1] rfl rfl rfl (mj_recvV rfl) (Nat.le_of_ble_eq_true rfl) (s_m2  (fun σ2 e9 => ?_))
        replace h := h σ2 e9
        exact mr_iret rfl rfl trivial h
      · replace h := h.2 c
        refine mr_aload (pc' := 184) rfl rfl rfl ?_
        refine mr_getr (ci := 0) (pc' := 187) rfl rfl rfl rfl ?_
        refine mr_iload (pc' := 188) rfl rfl rfl ?_
        obtain ⟨h0, h1, h⟩ := h
        refine mr_cald (pc' := 189) rfl rfl rfl h0 h1 ?_
        refine mr_call (t := []) (pc' := 192) rfl [.inl (σ 1 y1.toNat)] rfl rfl rfl trivial (Nat.le_of_ble_eq_true rfl) (s_m14  ?_)
        refine mr_if_eq (pc' := 195) rfl rfl (fun c => ?_) (fun c => ?_)
        · replace h := h.1 (bo_0 c)
          refine mr_aload (pc' := 202) rfl rfl rfl ?_
          refine mr_iload (pc' := 203) rfl rfl rfl ?_
          refine mr_iload (pc' := 205) rfl rfl rfl ?_
          refine mr_call (t := [(9, 0)]) (pc' := 208) rfl [.inr (.inl 0), .inl y1, .inl y6] rfl rfl rfl (mj_recvV rfl) (Nat.le_of_ble_eq_true rfl) (mj_B_mono _ _ _ _ _ _ (fun r σ3 h => ?_) h)
          obtain ⟨v4, rfl, h⟩ := h
          exact mr_iret rfl rfl trivial h
        · replace h := h.2 (bo_1 c)
          refine mr_aload (pc' := 196) rfl rfl rfl ?_
          refine mr_const (pc' := 197) rfl rfl (by unfold mj_r; decide) ?_
          refine mr_call (t := [(9, 0)]) (pc' := 200) rfl [.inr (.inl 0), .inl 1] rfl rfl rfl (mj_recvV rfl) (Nat.le_of_ble_eq_true rfl) (s_m2  (fun σ5 e9 => ?_))
          replace h := h σ5 e9
          exact mr_iret rfl rfl trivial h
  · replace h := h.2 c
    refine mr_lload (pc' := 153) rfl rfl rfl ?_
    refine mr_lconst (pc' := 156) rfl rfl (by unfold mj_rl; decide) ?_
    refine mr_lcmp (pc' := 157) rfl rfl ?_
    refine mr_if_le (pc' := 160) rfl rfl (fun c => ?_) (fun c => ?_)
    · replace h := h.1 c
      refine mr_lload (pc' := 170) rfl rfl rfl ?_
      obtain ⟨h0, h⟩ := h
      refine mr_l2i (pc' := 171) rfl rfl h0 ?_
      exact mr_iret rfl rfl trivial h
    · replace h := h.2 c
      refine mr_aload (pc' := 161) rfl rfl rfl ?_
      refine mr_const (pc' := 162) rfl rfl (by unfold mj_r; decide) ?_
      refine mr_call (t := [(9, 0)]) (pc' := 165) rfl [.inr (.inl 0), .inl 1] rfl rfl rfl (mj_recvV rfl) (Nat.le_of_ble_eq_true rfl) (s_m2  (fun σ6 e9 => ?_))
      replace h := h σ6 e9
      refine mr_goto rfl ?_
      exact mr_iret rfl rfl trivial h
set_option maxRecDepth 20000 in
theorem qw_m16_47 {d : Nat} {Q : mj_Q} {y1 y2 y3 y4 y6 : Int} {σ : mj_S} (h : (y3 = 0 → qh_m16_73 (d + 1) Q y1 y2 0 y4 y6 σ) ∧ (¬ y3 = 0 → (z_le y6 → qh_m16_73 (d + 1) Q y1 y2 1 y4 y6 σ) ∧ (¬ (z_le y6) → (¬ (z_dg y6) → qh_m16_73 (d + 1) Q y1 y2 0 y4 y6 σ) ∧ (z_dg y6 → qh_m16_73 (d + 1) Q y1 y2 1 y4 y6 σ)))) : qh_m16_47 (d + 1) Q y1 y2 y3 y4 y6 σ := by
  show mj_P mjm_L mjm_Ms (d + 1) mjmo16 ((Option.some Jvm.ClassFile.FieldType.int)) Q 47 [some (.inr (.inl 0)), some (.inl y1), some (.inl y2), some (.inl y3), some (.inr (.inr y4)), none, some (.inl y6)] [] σ
  refine mr_iload (pc' := 48) rfl rfl rfl ?_
  refine mr_if_eq (pc' := 51) rfl rfl (fun c => ?_) (fun c => ?_)
  · replace h := h.1 c
    refine mr_const (pc' := 72) rfl rfl (by unfold mj_r; decide) ?_
    refine mr_istore (pc' := 73) rfl rfl trivial (Nat.le_of_ble_eq_true rfl) rfl ?_
    exact mj_W_ls (mj_B_mono _) (mj_lev_of _ _ (by simp [mj_levb])) h
  · replace h := h.2 c
    refine mr_iload (pc' := 53) rfl rfl rfl ?_
    refine mr_call (t := []) (pc' := 56) rfl [.inl y6] rfl rfl rfl trivial (Nat.le_of_ble_eq_true rfl) (s_m15  ?_)
    refine mr_if_ne (pc' := 59) rfl rfl (fun c => ?_) (fun c => ?_)
    · replace h := h.1 (bo_1 c)
      refine mr_const (pc' := 68) rfl rfl (by unfold mj_r; decide) ?_
      refine mr_goto rfl ?_
      refine mr_istore (pc' := 73) rfl rfl trivial (Nat.le_of_ble_eq_true rfl) rfl ?_
      exact mj_W_ls (mj_B_mono _) (mj_lev_of _ _ (by simp [mj_levb])) h
    · replace h := h.2 (bo_0 c)
      refine mr_iload (pc' := 61) rfl rfl rfl ?_
      refine mr_call (t := []) (pc' := 64) rfl [.inl y6] rfl rfl rfl trivial (Nat.le_of_ble_eq_true rfl) (s_m14  ?_)
      refine mr_if_eq (pc' := 67) rfl rfl (fun c => ?_) (fun c => ?_)
      · replace h := h.1 (bo_0 c)
        refine mr_const (pc' := 72) rfl rfl (by unfold mj_r; decide) ?_
        refine mr_istore (pc' := 73) rfl rfl trivial (Nat.le_of_ble_eq_true rfl) rfl ?_
        exact mj_W_ls (mj_B_mono _) (mj_lev_of _ _ (by simp [mj_levb])) h
      · replace h := h.2 (bo_1 c)
        refine mr_const (pc' := 68) rfl rfl (by unfold mj_r; decide) ?_
        refine mr_goto rfl ?_
        refine mr_istore (pc' := 73) rfl rfl trivial (Nat.le_of_ble_eq_true rfl) rfl ?_
        exact mj_W_ls (mj_B_mono _) (mj_lev_of _ _ (by simp [mj_levb])) h
set_option maxRecDepth 20000 in
theorem qw_m16_73 {d : Nat} {Q : mj_Q} {y1 y2 y3 y4 y6 : Int} {σ : mj_S} (h : (y2 = 0 → qh_m16_107 (d + 1) Q y1 y2 y3 y4 y6 σ) ∧ (¬ y2 = 0 → ((if 268435455 < y4 then 1 else if y4 = 268435455 then 0 else -1) ≤ 0 → mj_rl (10 * y4) ∧ mj_rl ((10 * y4) + y6) ∧ mj_rl (((10 * y4) + y6) - 48) ∧ qh_m16_107 (d + 1) Q y1 y2 y3 (((10 * y4) + y6) - 48) y6 σ) ∧ (0 < (if 268435455 < y4 then 1 else if y4 = 268435455 then 0 else -1) → qh_m16_107 (d + 1) Q y1 y2 y3 y4 y6 σ))) : qh_m16_73 (d + 1) Q y1 y2 y3 y4 y6 σ := by
  show mj_P mjm_L mjm_Ms (d + 1) mjmo16 ((Option.some Jvm.ClassFile.FieldType.int)) Q 73 [some (.inr (.inl 0)), some (.inl y1), some (.inl y2), some (.inl y3), some (.inr (.inr y4)), none, some (.inl y6)] [] σ
  refine mr_iload (pc' := 74) rfl rfl rfl ?_
  refine mr_if_eq (pc' := 77) rfl rfl (fun c => ?_) (fun c => ?_)
  · replace h := h.1 c
    exact mj_W_ls (mj_B_mono _) (mj_lev_of _ _ (by simp [mj_levb])) h
  · replace h := h.2 c
    refine mr_lload (pc' := 79) rfl rfl rfl ?_
    refine mr_lconst (pc' := 82) rfl rfl (by unfold mj_rl; decide) ?_
    refine mr_lcmp (pc' := 83) rfl rfl ?_
    refine mr_if_le (pc' := 86) rfl rfl (fun c => ?_) (fun c => ?_)
    · replace h := h.1 c
      refine mr_lconst (pc' := 94) rfl rfl (by unfold mj_rl; decide) ?_
      refine mr_lload (pc' := 96) rfl rfl rfl ?_
      obtain ⟨h0, h⟩ := h
      refine mr_lmul (pc' := 97) rfl rfl h0 ?_
      refine mr_iload (pc' := 99) rfl rfl rfl ?_
      refine mr_i2l (pc' := 100) rfl rfl ?_
      obtain ⟨h0, h⟩ := h
      refine mr_ladd (pc' := 101) rfl rfl h0 ?_
      refine mr_lconst (pc' := 104) rfl rfl (by unfold mj_rl; decide) ?_
      obtain ⟨h0, h⟩ := h
      refine mr_lsub (pc' := 105) rfl rfl h0 ?_
      refine mr_lstore (pc' := 107) rfl rfl trivial (Nat.le_of_ble_eq_true rfl) rfl ?_
      exact mj_W_ls (mj_B_mono _) (mj_lev_of _ _ (by simp [mj_levb])) h
    · replace h := h.2 c
      refine mr_lload (pc' := 88) rfl rfl rfl ?_
      refine mr_goto rfl ?_
      refine mr_lstore (pc' := 107) rfl rfl trivial (Nat.le_of_ble_eq_true rfl) rfl ?_
      exact mj_W_ls (mj_B_mono _) (mj_lev_of _ _ (by simp [mj_levb])) h
set_option maxRecDepth 20000 in
theorem qw_m16_107 {d : Nat} {Q : mj_Q} {y1 y2 y3 y4 y6 : Int} {σ : mj_S} (h : mj_r ((σ 0 4) + 1) ∧ ∀ σ1, σ1 = mj_up σ 0 4 ((σ 0 4) + 1) → qh_m16_12 (d + 1) Q y1 y2 y3 y4 σ1) : qh_m16_107 (d + 1) Q y1 y2 y3 y4 y6 σ := by
  show mj_P mjm_L mjm_Ms (d + 1) mjmo16 ((Option.some Jvm.ClassFile.FieldType.int)) Q 107 [some (.inr (.inl 0)), some (.inl y1), some (.inl y2), some (.inl y3), some (.inr (.inr y4)), none, some (.inl y6)] [] σ
  refine mr_aload (pc' := 108) rfl rfl rfl ?_
  refine mr_dup (pc' := 109) rfl rfl trivial ?_
  refine mr_get (ci := 0) (pc' := 112) rfl rfl rfl rfl ?_
  refine mr_const (pc' := 113) rfl rfl (by unfold mj_r; decide) ?_
  obtain ⟨h0, h⟩ := h
  refine mr_iadd (pc' := 114) rfl rfl h0 ?_
  refine mr_put (pc' := 117) rfl rfl rfl rfl (fun σ1 e9 => ?_)
  replace h := h σ1 e9
  refine mr_goto rfl ?_
  exact mj_W_ls (mj_B_mono _) (mj_lev_of _ _ (by simp [mj_levb])) h
set_option maxRecDepth 20000 in
/-- ListSpeakerModel.token_ -/
theorem wq_m16 {d : Nat} {σ : mj_S} {Q : mj_Q} (h : qh_m16_12 (d + 1) Q (σ 0 4) 1 1 0 σ) : mj_B mjm_L mjm_Ms (d + 2) 16 [.inr (.inl 0)] σ Q := by
  refine mj_B_of (M := mjmM16) (ls := [some (.inr (.inl 0)), none, none, none, none, none, none]) rfl (mj_c1_all rfl) (Nat.le_of_ble_eq_true rfl) rfl ?_
  refine mr_aload (pc' := 1) rfl rfl rfl ?_
  refine mr_get (ci := 0) (pc' := 4) rfl rfl rfl rfl ?_
  refine mr_istore (pc' := 5) rfl rfl trivial (Nat.le_of_ble_eq_true rfl) rfl ?_
  refine mr_const (pc' := 6) rfl rfl (by unfold mj_r; decide) ?_
  refine mr_istore (pc' := 7) rfl rfl trivial (Nat.le_of_ble_eq_true rfl) rfl ?_
  refine mr_const (pc' := 8) rfl rfl (by unfold mj_r; decide) ?_
  refine mr_istore (pc' := 9) rfl rfl trivial (Nat.le_of_ble_eq_true rfl) rfl ?_
  refine mr_lconst (pc' := 10) rfl rfl (by unfold mj_rl; decide) ?_
  refine mr_lstore (pc' := 12) rfl rfl trivial (Nat.le_of_ble_eq_true rfl) rfl ?_
  exact mj_W_ls (mj_B_mono _) (mj_lev_of _ _ (by simp [mj_levb])) h
def qh_m17_2 (d : Nat) (Q : mj_Q) (y1 y2 y3 : Int) (σ : mj_S) : Prop := mj_P mjm_L mjm_Ms d mjmo17 ((Option.some Jvm.ClassFile.FieldType.int)) Q 2 [some (.inr (.inl 0)), some (.inl y1), some (.inl y2), some (.inl y3), none, none] [] σ
def qh_m17_112 (d : Nat) (Q : mj_Q) (y1 y2 y3 : Int) (σ : mj_S) : Prop := mj_P mjm_L mjm_Ms d mjmo17 ((Option.some Jvm.ClassFile.FieldType.int)) Q 112 [some (.inr (.inl 0)), some (.inl y1), some (.inl y2), some (.inl y3), none, none] [] σ
def qh_m17_30 (d : Nat) (Q : mj_Q) (y1 y2 y3 y4 y5 : Int) (σ : mj_S) : Prop := mj_P mjm_L mjm_Ms d mjmo17 ((Option.some Jvm.ClassFile.FieldType.int)) Q 30 [some (.inr (.inl 0)), some (.inl y1), some (.inl y2), some (.inl y3), some (.inl y4), some (.inl y5)] [] σ
set_option maxRecDepth 20000 in
theorem qw_m17_2 {d : Nat} {Q : mj_Q} {y1 y2 y3 : Int} {σ : mj_S} (h : ((σ 0 6) ≤ y3 → (¬ (σ 0 6) = 60 → qh_m17_112 (d + 1) Q y1 y2 0 σ) ∧ ((σ 0 6) = 60 → ∀ σ1, σ1 = z_sp σ 11 → Q (some (.inl 268435456)) σ1)) ∧ (y3 < (σ 0 6) → 0 ≤ y3 ∧ y3 < 60 ∧ (¬ (σ 3 y3.toNat) = y2 → qh_m17_30 (d + 1) Q y1 y2 y3 0 0 σ) ∧ ((σ 3 y3.toNat) = y2 → qh_m17_30 (d + 1) Q y1 y2 y3 1 0 σ))) : qh_m17_2 (d + 1) Q y1 y2 y3 σ := by
  show mj_P mjm_L mjm_Ms (d + 1) mjmo17 ((Option.some Jvm.ClassFile.FieldType.int)) Q 2 [some (.inr (.inl 0)), some (.inl y1), some (.inl y2), some (.inl y3), none, none] [] σ
  refine mr_iload (pc' := 3) rfl rfl rfl ?_
  refine mr_aload (pc' := 4) rfl rfl rfl ?_
  refine mr_get (ci := 0) (pc' := 7) rfl rfl rfl rfl ?_
  refine mr_ic_ge (pc' := 10) rfl rfl (fun c => ?_) (fun c => ?_)
  · replace h := h.1 c
    refine mr_aload (pc' := 95) rfl rfl rfl ?_
    refine mr_get (ci := 0) (pc' := 98) rfl rfl rfl rfl ?_
    refine mr_const (pc' := 100) rfl rfl (by unfold mj_r; decide) ?_
    refine mr_ic_ne (pc' := 103) rfl rfl (fun c => ?_) (fun c => ?_)
    · replace h := h.1 c
      refine mr_const (pc' := 111) rfl rfl (by unfold mj_r; decide) ?_
      refine mr_istore (pc' := 112) rfl rfl trivial (Nat.le_of_ble_eq_true rfl) rfl ?_
      exact mj_W_ls (mj_B_mono _) (mj_lev_of _ _ (by simp [mj_levb])) h
    · replace h := h.2 c
      refine mr_aload (pc' := 104) rfl rfl rfl ?_
      refine mr_const (pc' := 106) rfl rfl (by unfold mj_r; decide) ?_
      refine mr_call (t := [(9, 0)]) (pc' := 109) rfl [.inr (.inl 0), .inl 11] rfl rfl rfl (mj_recvV rfl) (Nat.le_of_ble_eq_true rfl) (s_m2  (fun σ1 e9 => ?_))
      replace h := h σ1 e9
      exact mr_iret rfl rfl trivial h
  · replace h := h.2 c
    refine mr_aload (pc' := 11) rfl rfl rfl ?_
    refine mr_getr (ci := 0) (pc' := 14) rfl rfl rfl rfl ?_
    refine mr_iload (pc' := 15) rfl rfl rfl ?_
    obtain ⟨h0, h1, h⟩ := h
    refine mr_iald (pc' := 16) rfl rfl rfl h0 h1 ?_
    refine mr_iload (pc' := 17) rfl rfl rfl ?_
    refine mr_ic_ne (pc' := 20) rfl rfl (fun c => ?_) (fun c => ?_)
    · replace h := h.1 c
      refine mr_const (pc' := 25) rfl rfl (by unfold mj_r; decide) ?_
      refine mr_istore (pc' := 27) rfl rfl trivial (Nat.le_of_ble_eq_true rfl) rfl ?_
      refine mr_const (pc' := 28) rfl rfl (by unfold mj_r; decide) ?_
      refine mr_istore (pc' := 30) rfl rfl trivial (Nat.le_of_ble_eq_true rfl) rfl ?_
      exact mj_W_ls (mj_B_mono _) (mj_lev_of _ _ (by simp [mj_levb])) h
    · replace h := h.2 c
      refine mr_const (pc' := 21) rfl rfl (by unfold mj_r; decide) ?_
      refine mr_goto rfl ?_
      refine mr_istore (pc' := 27) rfl rfl trivial (Nat.le_of_ble_eq_true rfl) rfl ?_
      refine mr_const (pc' := 28) rfl rfl (by unfold mj_r; decide) ?_
      refine mr_istore (pc' := 30) rfl rfl trivial (Nat.le_of_ble_eq_true rfl) rfl ?_
      exact mj_W_ls (mj_B_mono _) (mj_lev_of _ _ (by simp [mj_levb])) h
set_option maxRecDepth 20000 in
theorem qw_m17_112 {d : Nat} {Q : mj_Q} {y1 y2 y3 : Int} {σ : mj_S} (h : (y2 ≤ y3 → 0 ≤ (σ 0 6) ∧ (σ 0 6) < 60 ∧ ∀ σ1, σ1 = mj_up σ 3 (σ 0 6).toNat y2 → mj_r ((σ1 0 6) + 1) ∧ ∀ σ2, σ2 = mj_up σ1 0 6 ((σ1 0 6) + 1) → mj_r (268435456 + (σ2 0 6)) ∧ mj_r ((268435456 + (σ2 0 6)) - 1) ∧ Q (some (.inl ((268435456 + (σ2 0 6)) - 1))) σ2) ∧ (y3 < y2 → mj_r (8 * (σ 0 6)) ∧ mj_r ((8 * (σ 0 6)) + y3) ∧ mj_r (y1 + y3) ∧ 0 ≤ (y1 + y3) ∧ (y1 + y3) < 300 ∧ 0 ≤ ((8 * (σ 0 6)) + y3) ∧ ((8 * (σ 0 6)) + y3) < 480 ∧ mj_fit .char (σ 1 (y1 + y3).toNat) ∧ ∀ σ3, σ3 = mj_up σ 2 ((8 * (σ 0 6)) + y3).toNat (σ 1 (y1 + y3).toNat) → mj_r (y3 + 1) ∧ qh_m17_112 (d + 1) Q y1 y2 (y3 + 1) σ3)) : qh_m17_112 (d + 1) Q y1 y2 y3 σ := by
  show mj_P mjm_L mjm_Ms (d + 1) mjmo17 ((Option.some Jvm.ClassFile.FieldType.int)) Q 112 [some (.inr (.inl 0)), some (.inl y1), some (.inl y2), some (.inl y3), none, none] [] σ
  refine mr_iload (pc' := 113) rfl rfl rfl ?_
  refine mr_iload (pc' := 114) rfl rfl rfl ?_
  refine mr_ic_ge (pc' := 117) rfl rfl (fun c => ?_) (fun c => ?_)
  · replace h := h.1 c
    refine mr_aload (pc' := 146) rfl rfl rfl ?_
    refine mr_getr (ci := 0) (pc' := 149) rfl rfl rfl rfl ?_
    refine mr_aload (pc' := 150) rfl rfl rfl ?_
    refine mr_get (ci := 0) (pc' := 153) rfl rfl rfl rfl ?_
    refine mr_iload (pc' := 154) rfl rfl rfl ?_
    obtain ⟨h0, h1, h⟩ := h
    refine mr_iast (pc' := 155) rfl rfl rfl h0 h1 (fun σ1 e9 => ?_)
    replace h := h σ1 e9
    refine mr_aload (pc' := 156) rfl rfl rfl ?_
    refine mr_dup (pc' := 157) rfl rfl trivial ?_
    refine mr_get (ci := 0) (pc' := 160) rfl rfl rfl rfl ?_
    refine mr_const (pc' := 161) rfl rfl (by unfold mj_r; decide) ?_
    obtain ⟨h0, h⟩ := h
    refine mr_iadd (pc' := 162) rfl rfl h0 ?_
    refine mr_put (pc' := 165) rfl rfl rfl rfl (fun σ2 e9 => ?_)
    replace h := h σ2 e9
    refine mr_const (pc' := 167) rfl rfl (by unfold mj_r; decide) ?_
    refine mr_aload (pc' := 168) rfl rfl rfl ?_
    refine mr_get (ci := 0) (pc' := 171) rfl rfl rfl rfl ?_
    obtain ⟨h0, h⟩ := h
    refine mr_iadd (pc' := 172) rfl rfl h0 ?_
    refine mr_const (pc' := 173) rfl rfl (by unfold mj_r; decide) ?_
    obtain ⟨h0, h⟩ := h
    refine mr_isub (pc' := 174) rfl rfl h0 ?_
    exact mr_iret rfl rfl trivial h
  · replace h := h.2 c
    refine mr_aload (pc' := 118) rfl rfl rfl ?_
    refine mr_getr (ci := 0) (pc' := 121) rfl rfl rfl rfl ?_
    refine mr_const (pc' := 123) rfl rfl (by unfold mj_r; decide) ?_
    refine mr_aload (pc' := 124) rfl rfl rfl ?_
    refine mr_get (ci := 0) (pc' := 127) rfl rfl rfl rfl ?_
    obtain ⟨h0, h⟩ := h
    refine mr_imul (pc' := 128) rfl rfl h0 ?_
    refine mr_iload (pc' := 129) rfl rfl rfl ?_
    obtain ⟨h0, h⟩ := h
    refine mr_iadd (pc' := 130) rfl rfl h0 ?_
    refine mr_aload (pc' := 131) rfl rfl rfl ?_
    refine mr_getr (ci := 0) (pc' := 134) rfl rfl rfl rfl ?_
    refine mr_iload (pc' := 135) rfl rfl rfl ?_
    refine mr_iload (pc' := 136) rfl rfl rfl ?_
    obtain ⟨h0, h⟩ := h
    refine mr_iadd (pc' := 137) rfl rfl h0 ?_
    obtain ⟨h0, h1, h⟩ := h
    refine mr_cald (pc' := 138) rfl rfl rfl h0 h1 ?_
    obtain ⟨h0, h1, h2, h⟩ := h
    refine mr_cast (pc' := 139) rfl rfl rfl h0 h1 h2 (fun σ3 e9 => ?_)
    replace h := h σ3 e9
    obtain ⟨h0, h⟩ := h
    refine mr_iinc (pc' := 142) rfl rfl rfl trivial h0 rfl ?_
    refine mr_goto rfl ?_
    exact mj_W_ls (mj_B_mono _) (mj_lev_of _ _ (by simp [mj_levb])) h
set_option maxRecDepth 20000 in
theorem qw_m17_30 {d : Nat} {Q : mj_Q} {y1 y2 y3 y4 y5 : Int} {σ : mj_S} (h : (y2 ≤ y5 → (y4 = 0 → mj_r (y3 + 1) ∧ qh_m17_2 (d + 1) Q y1 y2 (y3 + 1) σ) ∧ (¬ y4 = 0 → mj_r (268435456 + y3) ∧ Q (some (.inl (268435456 + y3))) σ)) ∧ (y5 < y2 → (y4 = 0 → (y4 = 0 → mj_r (y3 + 1) ∧ qh_m17_2 (d + 1) Q y1 y2 (y3 + 1) σ) ∧ (¬ y4 = 0 → mj_r (268435456 + y3) ∧ Q (some (.inl (268435456 + y3))) σ)) ∧ (¬ y4 = 0 → mj_r (8 * y3) ∧ mj_r ((8 * y3) + y5) ∧ 0 ≤ ((8 * y3) + y5) ∧ ((8 * y3) + y5) < 480 ∧ mj_r (y1 + y5) ∧ 0 ≤ (y1 + y5) ∧ (y1 + y5) < 300 ∧ (¬ (σ 2 ((8 * y3) + y5).toNat) = (σ 1 (y1 + y5).toNat) → mj_r (y5 + 1) ∧ qh_m17_30 (d + 1) Q y1 y2 y3 0 (y5 + 1) σ) ∧ ((σ 2 ((8 * y3) + y5).toNat) = (σ 1 (y1 + y5).toNat) → mj_r (y5 + 1) ∧ qh_m17_30 (d + 1) Q y1 y2 y3 1 (y5 + 1) σ)))) : qh_m17_30 (d + 1) Q y1 y2 y3 y4 y5 σ := by
  show mj_P mjm_L mjm_Ms (d + 1) mjmo17 ((Option.some Jvm.ClassFile.FieldType.int)) Q 30 [some (.inr (.inl 0)), some (.inl y1), some (.inl y2), some (.inl y3), some (.inl y4), some (.inl y5)] [] σ
  refine mr_iload (pc' := 32) rfl rfl rfl ?_
  refine mr_iload (pc' := 33) rfl rfl rfl ?_
  refine mr_ic_ge (pc' := 36) rfl rfl (fun c => ?_) (fun c => ?_)
  · replace h := h.1 c
    refine mr_iload (pc' := 80) rfl rfl rfl ?_
    refine mr_if_eq (pc' := 83) rfl rfl (fun c => ?_) (fun c => ?_)
    · replace h := h.1 c
      obtain ⟨h0, h⟩ := h
      refine mr_iinc (pc' := 91) rfl rfl rfl trivial h0 rfl ?_
      refine mr_goto rfl ?_
      exact mj_W_ls (mj_B_mono _) (mj_lev_of _ _ (by simp [mj_levb])) h
    · replace h := h.2 c
      refine mr_const (pc' := 85) rfl rfl (by unfold mj_r; decide) ?_
      refine mr_iload (pc' := 86) rfl rfl rfl ?_
      obtain ⟨h0, h⟩ := h
      refine mr_iadd (pc' := 87) rfl rfl h0 ?_
      exact mr_iret rfl rfl trivial h
  · replace h := h.2 c
    refine mr_iload (pc' := 38) rfl rfl rfl ?_
    refine mr_if_eq (pc' := 41) rfl rfl (fun c => ?_) (fun c => ?_)
    · replace h := h.1 c
      refine mr_iload (pc' := 80) rfl rfl rfl ?_
      refine mr_if_eq (pc' := 83) rfl rfl (fun c => ?_) (fun c => ?_)
      · replace h := h.1 c
        obtain ⟨h0, h⟩ := h
        refine mr_iinc (pc' := 91) rfl rfl rfl trivial h0 rfl ?_
        refine mr_goto rfl ?_
        exact mj_W_ls (mj_B_mono _) (mj_lev_of _ _ (by simp [mj_levb])) h
      · replace h := h.2 c
        refine mr_const (pc' := 85) rfl rfl (by unfold mj_r; decide) ?_
        refine mr_iload (pc' := 86) rfl rfl rfl ?_
        obtain ⟨h0, h⟩ := h
        refine mr_iadd (pc' := 87) rfl rfl h0 ?_
        exact mr_iret rfl rfl trivial h
    · replace h := h.2 c
      refine mr_aload (pc' := 42) rfl rfl rfl ?_
      refine mr_getr (ci := 0) (pc' := 45) rfl rfl rfl rfl ?_
      refine mr_const (pc' := 47) rfl rfl (by unfold mj_r; decide) ?_
      refine mr_iload (pc' := 48) rfl rfl rfl ?_
      obtain ⟨h0, h⟩ := h
      refine mr_imul (pc' := 49) rfl rfl h0 ?_
      refine mr_iload (pc' := 51) rfl rfl rfl ?_
      obtain ⟨h0, h⟩ := h
      refine mr_iadd (pc' := 52) rfl rfl h0 ?_
      obtain ⟨h0, h1, h⟩ := h
      refine mr_cald (pc' := 53) rfl rfl rfl h0 h1 ?_
      refine mr_aload (pc' := 54) rfl rfl rfl ?_
      refine mr_getr (ci := 0) (pc' := 57) rfl rfl rfl rfl ?_
      refine mr_iload (pc' := 58) rfl rfl rfl ?_
      refine mr_iload (pc' := 60) rfl rfl rfl ?_
      obtain ⟨h0, h⟩ := h
      refine mr_iadd (pc' := 61) rfl rfl h0 ?_
      obtain ⟨h0, h1, h⟩ := h
      refine mr_cald (pc' := 62) rfl rfl rfl h0 h1 ?_
      refine mr_ic_ne (pc' := 65) rfl rfl (fun c => ?_) (fun c => ?_)
      · replace h := h.1 c
        refine mr_const (pc' := 70) rfl rfl (by unfold mj_r; decide) ?_
        refine mr_istore (pc' := 72) rfl rfl trivial (Nat.le_of_ble_eq_true rfl) rfl ?_
        obtain ⟨h0, h⟩ := h
        refine mr_iinc (pc' := 75) rfl rfl rfl trivial h0 rfl ?_
        refine mr_goto rfl ?_
        exact mj_W_ls (mj_B_mono _) (mj_lev_of _ _ (by simp [mj_levb])) h
      · replace h := h.2 c
        refine mr_const (pc' := 66) rfl rfl (by unfold mj_r; decide) ?_
        refine mr_goto rfl ?_
        refine mr_istore (pc' := 72) rfl rfl trivial (Nat.le_of_ble_eq_true rfl) rfl ?_
        obtain ⟨h0, h⟩ := h
        refine mr_iinc (pc' := 75) rfl rfl rfl trivial h0 rfl ?_
        refine mr_goto rfl ?_
        exact mj_W_ls (mj_B_mono _) (mj_lev_of _ _ (by simp [mj_levb])) h
set_option maxRecDepth 20000 in
/-- ListSpeakerModel.symbol_ -/
theorem wq_m17 {d : Nat} {σ : mj_S} {Q : mj_Q} {x1 x2 : Int} (h : qh_m17_2 (d + 1) Q x1 x2 0 σ) : mj_B mjm_L mjm_Ms (d + 2) 17 [.inr (.inl 0), .inl x1, .inl x2] σ Q := by
  refine mj_B_of (M := mjmM17) (ls := [some (.inr (.inl 0)), some (.inl x1), some (.inl x2), none, none, none]) rfl (mj_c1_all rfl) (Nat.le_of_ble_eq_true rfl) rfl ?_
  refine mr_const (pc' := 1) rfl rfl (by unfold mj_r; decide) ?_
  refine mr_istore (pc' := 2) rfl rfl trivial (Nat.le_of_ble_eq_true rfl) rfl ?_
  exact mj_W_ls (mj_B_mono _) (mj_lev_of _ _ (by simp [mj_levb])) h
set_option maxRecDepth 20000 in
/-- ListSpeakerModel.open_ -/
theorem wq_m19 {d : Nat} {σ : mj_S} {Q : mj_Q} {x1 : Int} (h : 0 ≤ (σ 0 17) ∧ (σ 0 17) < 14 ∧ ∀ σ1, σ1 = mj_up σ 9 (σ 0 17).toNat x1 → 0 ≤ (σ1 0 17) ∧ (σ1 0 17) < 14 ∧ ∀ σ2, σ2 = mj_up σ1 10 (σ1 0 17).toNat 268435456 → 0 ≤ (σ2 0 17) ∧ (σ2 0 17) < 14 ∧ ∀ σ3, σ3 = mj_up σ2 11 (σ2 0 17).toNat 268435456 → 0 ≤ (σ3 0 17) ∧ (σ3 0 17) < 14 ∧ ∀ σ4, σ4 = mj_up σ3 12 (σ3 0 17).toNat 0 → mj_r ((σ4 0 17) + 1) ∧ ∀ σ5, σ5 = mj_up σ4 0 17 ((σ4 0 17) + 1) → mj_r ((σ5 0 4) + 1) ∧ ∀ σ6, σ6 = mj_up σ5 0 4 ((σ5 0 4) + 1) → Q none σ6) : mj_B mjm_L mjm_Ms (d + 1) 19 [.inr (.inl 0), .inl x1] σ Q := by
  refine mj_B_of (M := mjmM19) (ls := [some (.inr (.inl 0)), some (.inl x1)]) rfl (mj_c1_all rfl) (Nat.le_of_ble_eq_true rfl) rfl ?_
  refine mr_aload (pc' := 1) rfl rfl rfl ?_
  refine mr_getr (ci := 0) (pc' := 4) rfl rfl rfl rfl ?_
  refine mr_aload (pc' := 5) rfl rfl rfl ?_
  refine mr_get (ci := 0) (pc' := 8) rfl rfl rfl rfl ?_
  refine mr_iload (pc' := 9) rfl rfl rfl ?_
  obtain ⟨h0, h1, h⟩ := h
  refine mr_iast (pc' := 10) rfl rfl rfl h0 h1 (fun σ1 e9 => ?_)
  replace h := h σ1 e9
  refine mr_aload (pc' := 11) rfl rfl rfl ?_
  refine mr_getr (ci := 0) (pc' := 14) rfl rfl rfl rfl ?_
  refine mr_aload (pc' := 15) rfl rfl rfl ?_
  refine mr_get (ci := 0) (pc' := 18) rfl rfl rfl rfl ?_
  refine mr_const (pc' := 20) rfl rfl (by unfold mj_r; decide) ?_
  obtain ⟨h0, h1, h⟩ := h
  refine mr_iast (pc' := 21) rfl rfl rfl h0 h1 (fun σ2 e9 => ?_)
  replace h := h σ2 e9
  refine mr_aload (pc' := 22) rfl rfl rfl ?_
  refine mr_getr (ci := 0) (pc' := 25) rfl rfl rfl rfl ?_
  refine mr_aload (pc' := 26) rfl rfl rfl ?_
  refine mr_get (ci := 0) (pc' := 29) rfl rfl rfl rfl ?_
  refine mr_const (pc' := 31) rfl rfl (by unfold mj_r; decide) ?_
  obtain ⟨h0, h1, h⟩ := h
  refine mr_iast (pc' := 32) rfl rfl rfl h0 h1 (fun σ3 e9 => ?_)
  replace h := h σ3 e9
  refine mr_aload (pc' := 33) rfl rfl rfl ?_
  refine mr_getr (ci := 0) (pc' := 36) rfl rfl rfl rfl ?_
  refine mr_aload (pc' := 37) rfl rfl rfl ?_
  refine mr_get (ci := 0) (pc' := 40) rfl rfl rfl rfl ?_
  refine mr_const (pc' := 41) rfl rfl (by unfold mj_r; decide) ?_
  obtain ⟨h0, h1, h⟩ := h
  refine mr_iast (pc' := 42) rfl rfl rfl h0 h1 (fun σ4 e9 => ?_)
  replace h := h σ4 e9
  refine mr_aload (pc' := 43) rfl rfl rfl ?_
  refine mr_dup (pc' := 44) rfl rfl trivial ?_
  refine mr_get (ci := 0) (pc' := 47) rfl rfl rfl rfl ?_
  refine mr_const (pc' := 48) rfl rfl (by unfold mj_r; decide) ?_
  obtain ⟨h0, h⟩ := h
  refine mr_iadd (pc' := 49) rfl rfl h0 ?_
  refine mr_put (pc' := 52) rfl rfl rfl rfl (fun σ5 e9 => ?_)
  replace h := h σ5 e9
  refine mr_aload (pc' := 53) rfl rfl rfl ?_
  refine mr_dup (pc' := 54) rfl rfl trivial ?_
  refine mr_get (ci := 0) (pc' := 57) rfl rfl rfl rfl ?_
  refine mr_const (pc' := 58) rfl rfl (by unfold mj_r; decide) ?_
  obtain ⟨h0, h⟩ := h
  refine mr_iadd (pc' := 59) rfl rfl h0 ?_
  refine mr_put (pc' := 62) rfl rfl rfl rfl (fun σ6 e9 => ?_)
  replace h := h σ6 e9
  exact mr_ret rfl rfl h
def qh_m20_5 (d : Nat) (Q : mj_Q) (σ : mj_S) : Prop := mj_P mjm_L mjm_Ms d mjmo20 ((Option.some Jvm.ClassFile.FieldType.int)) Q 5 [some (.inr (.inl 0)), none, none] [] σ
def qh_m20_148 (d : Nat) (Q : mj_Q) (y1 y2 : Int) (σ : mj_S) : Prop := mj_P mjm_L mjm_Ms d mjmo20 ((Option.some Jvm.ClassFile.FieldType.int)) Q 148 [some (.inr (.inl 0)), some (.inl y1), some (.inl y2)] [] σ
def qh_m20_158 (d : Nat) (Q : mj_Q) (y1 y2 : Int) (σ : mj_S) : Prop := mj_P mjm_L mjm_Ms d mjmo20 ((Option.some Jvm.ClassFile.FieldType.int)) Q 158 [some (.inr (.inl 0)), some (.inl y1), some (.inl y2)] [] σ
set_option maxRecDepth 20000 in
theorem qw_m20_5 {d : Nat} {Q : mj_Q} {σ : mj_S} (h : (¬ (σ 0 5) = 0 → Q (some (.inl 268435456)) σ) ∧ ((σ 0 5) = 0 → mj_B mjm_L mjm_Ms (d + 1) 12 [.inr (.inl 0)] σ (fun r σ1 => r = none ∧ 0 ≤ σ1 0 4 ∧ σ1 0 2 ≤ 300 ∧ (0 ≤ (z_lk σ1) → (¬ (z_lk σ1) = 41 → ((σ1 0 17) ≤ 0 → ((σ1 0 17) ≤ 12 → ((z_lk σ1) = 40 → (¬ (z_lk σ1) = 40 → mj_B mjm_L mjm_Ms (d + 1) 19 [.inr (.inl 0), .inl 1] σ1 (fun r σ2 => r = none ∧ qh_m20_148 (d + 1) Q (z_lk σ1) (-2) σ2)) ∧ ((z_lk σ1) = 40 → mj_B mjm_L mjm_Ms (d + 1) 19 [.inr (.inl 0), .inl 0] σ1 (fun r σ3 => r = none ∧ qh_m20_148 (d + 1) Q (z_lk σ1) (-2) σ3))) ∧ (¬ (z_lk σ1) = 40 → (¬ (z_lk σ1) = 39 → mj_B mjm_L mjm_Ms (d + 1) 16 [.inr (.inl 0)] σ1 (fun r σ4 => ∃ v5, r = some (.inl v5) ∧ qh_m20_148 (d + 1) Q (z_lk σ1) v5 σ4)) ∧ ((z_lk σ1) = 39 → (¬ (z_lk σ1) = 40 → mj_B mjm_L mjm_Ms (d + 1) 19 [.inr (.inl 0), .inl 1] σ1 (fun r σ6 => r = none ∧ qh_m20_148 (d + 1) Q (z_lk σ1) (-2) σ6)) ∧ ((z_lk σ1) = 40 → mj_B mjm_L mjm_Ms (d + 1) 19 [.inr (.inl 0), .inl 0] σ1 (fun r σ7 => r = none ∧ qh_m20_148 (d + 1) Q (z_lk σ1) (-2) σ7))))) ∧ (12 < (σ1 0 17) → (¬ (z_lk σ1) = 46 → ∀ σ8, σ8 = z_sp σ1 1 → qh_m20_148 (d + 1) Q (z_lk σ1) 268435456 σ8) ∧ ((z_lk σ1) = 46 → mj_B mjm_L mjm_Ms (d + 1) 21 [.inr (.inl 0)] σ1 (fun r σ9 => ∃ v10, r = some (.inl v10) ∧ qh_m20_148 (d + 1) Q (z_lk σ1) v10 σ9)))) ∧ (0 < (σ1 0 17) → mj_r ((σ1 0 17) - 1) ∧ 0 ≤ ((σ1 0 17) - 1) ∧ ((σ1 0 17) - 1) < 14 ∧ (¬ (σ1 12 ((σ1 0 17) - 1).toNat) = 2 → ((σ1 0 17) ≤ 12 → ((z_lk σ1) = 40 → (¬ (z_lk σ1) = 40 → mj_B mjm_L mjm_Ms (d + 1) 19 [.inr (.inl 0), .inl 1] σ1 (fun r σ11 => r = none ∧ qh_m20_148 (d + 1) Q (z_lk σ1) (-2) σ11)) ∧ ((z_lk σ1) = 40 → mj_B mjm_L mjm_Ms (d + 1) 19 [.inr (.inl 0), .inl 0] σ1 (fun r σ12 => r = none ∧ qh_m20_148 (d + 1) Q (z_lk σ1) (-2) σ12))) ∧ (¬ (z_lk σ1) = 40 → (¬ (z_lk σ1) = 39 → mj_B mjm_L mjm_Ms (d + 1) 16 [.inr (.inl 0)] σ1 (fun r σ13 => ∃ v14, r = some (.inl v14) ∧ qh_m20_148 (d + 1) Q (z_lk σ1) v14 σ13)) ∧ ((z_lk σ1) = 39 → (¬ (z_lk σ1) = 40 → mj_B mjm_L mjm_Ms (d + 1) 19 [.inr (.inl 0), .inl 1] σ1 (fun r σ15 => r = none ∧ qh_m20_148 (d + 1) Q (z_lk σ1) (-2) σ15)) ∧ ((z_lk σ1) = 40 → mj_B mjm_L mjm_Ms (d + 1) 19 [.inr (.inl 0), .inl 0] σ1 (fun r σ16 => r = none ∧ qh_m20_148 (d + 1) Q (z_lk σ1) (-2) σ16))))) ∧ (12 < (σ1 0 17) → (¬ (z_lk σ1) = 46 → ∀ σ17, σ17 = z_sp σ1 1 → qh_m20_148 (d + 1) Q (z_lk σ1) 268435456 σ17) ∧ ((z_lk σ1) = 46 → mj_B mjm_L mjm_Ms (d + 1) 21 [.inr (.inl 0)] σ1 (fun r σ18 => ∃ v19, r = some (.inl v19) ∧ qh_m20_148 (d + 1) Q (z_lk σ1) v19 σ18)))) ∧ ((σ1 12 ((σ1 0 17) - 1).toNat) = 2 → ∀ σ20, σ20 = z_sp σ1 1 → qh_m20_148 (d + 1) Q (z_lk σ1) (-2) σ20))) ∧ ((z_lk σ1) = 41 → mj_B mjm_L mjm_Ms (d + 1) 22 [.inr (.inl 0)] σ1 (fun r σ21 => ∃ v22, r = some (.inl v22) ∧ qh_m20_148 (d + 1) Q (z_lk σ1) v22 σ21))) ∧ ((z_lk σ1) < 0 → ∀ σ23, σ23 = z_sp σ1 1 → qh_m20_148 (d + 1) Q (z_lk σ1) (-2) σ23)))) : qh_m20_5 (d + 1) Q  σ := by
  show mj_P mjm_L mjm_Ms (d + 1) mjmo20 ((Option.some Jvm.ClassFile.FieldType.int)) Q 5 [some (.inr (.inl 0)), none, none] [] σ
  refine mr_aload (pc' := 6) rfl rfl rfl ?_
  refine mr_get (ci := 0) (pc' := 9) rfl rfl rfl rfl ?_
  refine mr_if_ne (pc' := 12) rfl rfl (fun c => ?_) (fun c => ?_)
  · replace h := h.1 c
    refine mr_const (pc' := 192) rfl rfl (by unfold mj_r; decide) ?_
    exact mr_iret rfl rfl trivial h
  · replace h := h.2 c
    refine mr_aload (pc' := 13) rfl rfl rfl ?_
    refine mr_call (t := [(9, 0)]) (pc' := 16) rfl [.inr (.inl 0)] rfl rfl rfl (mj_recvV rfl) (Nat.le_of_ble_eq_true rfl) (mj_B_mono _ _ _ _ _ _ (fun r σ1 h => ?_) h)
    obtain ⟨rfl, h⟩ := h
    refine mr_aload (pc' := 17) rfl rfl rfl ?_
    obtain ⟨h0, h1, h⟩ := h
    refine mr_call (t := [(9, 0)]) (pc' := 20) rfl [.inr (.inl 0)] rfl rfl rfl (mj_recvV rfl) (Nat.le_of_ble_eq_true rfl) (s_m11 h0 h1 ?_)
    refine mr_istore (pc' := 21) rfl rfl trivial (Nat.le_of_ble_eq_true rfl) rfl ?_
    refine mr_const (pc' := 23) rfl rfl (by unfold mj_r; decide) ?_
    refine mr_istore (pc' := 24) rfl rfl trivial (Nat.le_of_ble_eq_true rfl) rfl ?_
    refine mr_iload (pc' := 25) rfl rfl rfl ?_
    refine mr_if_ge (pc' := 28) rfl rfl (fun c => ?_) (fun c => ?_)
    · replace h := h.1 c
      refine mr_iload (pc' := 38) rfl rfl rfl ?_
      refine mr_const (pc' := 40) rfl rfl (by unfold mj_r; decide) ?_
      refine mr_ic_ne (pc' := 43) rfl rfl (fun c => ?_) (fun c => ?_)
      · replace h := h.1 c
        refine mr_aload (pc' := 52) rfl rfl rfl ?_
        refine mr_get (ci := 0) (pc' := 55) rfl rfl rfl rfl ?_
        refine mr_if_le (pc' := 58) rfl rfl (fun c => ?_) (fun c => ?_)
        · replace h := h.1 c
          refine mr_aload (pc' := 83) rfl rfl rfl ?_
          refine mr_get (ci := 0) (pc' := 86) rfl rfl rfl rfl ?_
          refine mr_const (pc' := 88) rfl rfl (by unfold mj_r; decide) ?_
          refine mr_ic_le (pc' := 91) rfl rfl (fun c => ?_) (fun c => ?_)
          · replace h := h.1 c
            refine mr_iload (pc' := 114) rfl rfl rfl ?_
            refine mr_const (pc' := 116) rfl rfl (by unfold mj_r; decide) ?_
            refine mr_ic_eq (pc' := 119) rfl rfl (fun c => ?_) (fun c => ?_)
            · replace h := h.1 c
              refine mr_aload (pc' := 126) rfl rfl rfl ?_
              refine mr_iload (pc' := 127) rfl rfl rfl ?_
              refine mr_const (pc' := 129) rfl rfl (by unfold mj_r; decide) ?_
              refine mr_ic_ne (pc' := 132) rfl rfl (fun c => ?_) (fun c => ?_)
              · replace h := h.1 c
                refine mr_const (pc' := 137) rfl rfl (by unfold mj_r; decide) ?_
                refine mr_call (t := [(9, 0)]) (pc' := 140) rfl [.inr (.inl 0), .inl 1] rfl rfl rfl (mj_recvV rfl) (Nat.le_of_ble_eq_true rfl) (mj_B_mono _ _ _ _ _ _ (fun r σ2 h => ?_) h)
                obtain ⟨rfl, h⟩ := h
                refine mr_goto rfl ?_
                exact mj_W_ls (mj_B_mono _) (mj_lev_of _ _ (by simp [mj_levb])) h
              · replace h := h.2 c
                refine mr_const (pc' := 133) rfl rfl (by unfold mj_r; decide) ?_
                refine mr_goto rfl ?_
                refine mr_call (t := [(9, 0)]) (pc' := 140) rfl [.inr (.inl 0), .inl 0] rfl rfl rfl (mj_recvV rfl) (Nat.le_of_ble_eq_true rfl) (mj_B_mono _ _ _ _ _ _ (fun r σ3 h => ?_) h)
                obtain ⟨rfl, h⟩ := h
                refine mr_goto rfl ?_
                exact mj_W_ls (mj_B_mono _) (mj_lev_of _ _ (by simp [mj_levb])) h
            · replace h := h.2 c
              refine mr_iload (pc' := 120) rfl rfl rfl ?_
              refine mr_const (pc' := 122) rfl rfl (by unfold mj_r; decide) ?_
              refine mr_ic_ne (pc' := 125) rfl rfl (fun c => ?_) (fun c => ?_)
              · replace h := h.1 c
                refine mr_aload (pc' := 144) rfl rfl rfl ?_
                refine mr_call (t := [(9, 0)]) (pc' := 147) rfl [.inr (.inl 0)] rfl rfl rfl (mj_recvV rfl) (Nat.le_of_ble_eq_true rfl) (mj_B_mono _ _ _ _ _ _ (fun r σ4 h => ?_) h)
                obtain ⟨v5, rfl, h⟩ := h
                refine mr_istore (pc' := 148) rfl rfl trivial (Nat.le_of_ble_eq_true rfl) rfl ?_
                exact mj_W_ls (mj_B_mono _) (mj_lev_of _ _ (by simp [mj_levb])) h
              · replace h := h.2 c
                refine mr_aload (pc' := 126) rfl rfl rfl ?_
                refine mr_iload (pc' := 127) rfl rfl rfl ?_
                refine mr_const (pc' := 129) rfl rfl (by unfold mj_r; decide) ?_
                refine mr_ic_ne (pc' := 132) rfl rfl (fun c => ?_) (fun c => ?_)
                · replace h := h.1 c
                  refine mr_const (pc' := 137) rfl rfl (by unfold mj_r; decide) ?_
                  refine mr_call (t := [(9, 0)]) (pc' := 140) rfl [.inr (.inl 0), .inl 1] rfl rfl rfl (mj_recvV rfl) (Nat.le_of_ble_eq_true rfl) (mj_B_mono _ _ _ _ _ _ (fun r σ6 h => ?_) h)
                  obtain ⟨rfl, h⟩ := h
                  refine mr_goto rfl ?_
                  exact mj_W_ls (mj_B_mono _) (mj_lev_of _ _ (by simp [mj_levb])) h
                · replace h := h.2 c
                  refine mr_const (pc' := 133) rfl rfl (by unfold mj_r; decide) ?_
                  refine mr_goto rfl ?_
                  refine mr_call (t := [(9, 0)]) (pc' := 140) rfl [.inr (.inl 0), .inl 0] rfl rfl rfl (mj_recvV rfl) (Nat.le_of_ble_eq_true rfl) (mj_B_mono _ _ _ _ _ _ (fun r σ7 h => ?_) h)
                  obtain ⟨rfl, h⟩ := h
                  refine mr_goto rfl ?_
                  exact mj_W_ls (mj_B_mono _) (mj_lev_of _ _ (by simp [mj_levb])) h
          · replace h := h.2 c
            refine mr_iload (pc' := 92) rfl rfl rfl ?_
            refine mr_const (pc' := 94) rfl rfl (by unfold mj_r; decide) ?_
            refine mr_ic_ne (pc' := 97) rfl rfl (fun c => ?_) (fun c => ?_)
            · replace h := h.1 c
              refine mr_aload (pc' := 105) rfl rfl rfl ?_
              refine mr_const (pc' := 106) rfl rfl (by unfold mj_r; decide) ?_
              refine mr_call (t := [(9, 0)]) (pc' := 109) rfl [.inr (.inl 0), .inl 1] rfl rfl rfl (mj_recvV rfl) (Nat.le_of_ble_eq_true rfl) (s_m2  (fun σ8 e9 => ?_))
              replace h := h σ8 e9
              refine mr_istore (pc' := 110) rfl rfl trivial (Nat.le_of_ble_eq_true rfl) rfl ?_
              refine mr_goto rfl ?_
              exact mj_W_ls (mj_B_mono _) (mj_lev_of _ _ (by simp [mj_levb])) h
            · replace h := h.2 c
              refine mr_aload (pc' := 98) rfl rfl rfl ?_
              refine mr_call (t := [(9, 0)]) (pc' := 101) rfl [.inr (.inl 0)] rfl rfl rfl (mj_recvV rfl) (Nat.le_of_ble_eq_true rfl) (mj_B_mono _ _ _ _ _ _ (fun r σ9 h => ?_) h)
              obtain ⟨v10, rfl, h⟩ := h
              refine mr_goto rfl ?_
              refine mr_istore (pc' := 110) rfl rfl trivial (Nat.le_of_ble_eq_true rfl) rfl ?_
              refine mr_goto rfl ?_
              exact mj_W_ls (mj_B_mono _) (mj_lev_of _ _ (by simp [mj_levb])) h
        · replace h := h.2 c
          refine mr_aload (pc' := 59) rfl rfl rfl ?_
          refine mr_getr (ci := 0) (pc' := 62) rfl rfl rfl rfl ?_
          refine mr_aload (pc' := 63) rfl rfl rfl ?_
          refine mr_get (ci := 0) (pc' := 66) rfl rfl rfl rfl ?_
          refine mr_const (pc' := 67) rfl rfl (by unfold mj_r; decide) ?_
          obtain ⟨h0, h⟩ := h
          refine mr_isub (pc' := 68) rfl rfl h0 ?_
          obtain ⟨h0, h1, h⟩ := h
          refine mr_iald (pc' := 69) rfl rfl rfl h0 h1 ?_
          refine mr_const (pc' := 70) rfl rfl (by unfold mj_r; decide) ?_
          refine mr_ic_ne (pc' := 73) rfl rfl (fun c => ?_) (fun c => ?_)
          · replace h := h.1 c
            refine mr_aload (pc' := 83) rfl rfl rfl ?_
            refine mr_get (ci := 0) (pc' := 86) rfl rfl rfl rfl ?_
            refine mr_const (pc' := 88) rfl rfl (by unfold mj_r; decide) ?_
            refine mr_ic_le (pc' := 91) rfl rfl (fun c => ?_) (fun c => ?_)
            · replace h := h.1 c
              refine mr_iload (pc' := 114) rfl rfl rfl ?_
              refine mr_const (pc' := 116) rfl rfl (by unfold mj_r; decide) ?_
              refine mr_ic_eq (pc' := 119) rfl rfl (fun c => ?_) (fun c => ?_)
              · replace h := h.1 c
                refine mr_aload (pc' := 126) rfl rfl rfl ?_
                refine mr_iload (pc' := 127) rfl rfl rfl ?_
                refine mr_const (pc' := 129) rfl rfl (by unfold mj_r; decide) ?_
                refine mr_ic_ne (pc' := 132) rfl rfl (fun c => ?_) (fun c => ?_)
                · replace h := h.1 c
                  refine mr_const (pc' := 137) rfl rfl (by unfold mj_r; decide) ?_
                  refine mr_call (t := [(9, 0)]) (pc' := 140) rfl [.inr (.inl 0), .inl 1] rfl rfl rfl (mj_recvV rfl) (Nat.le_of_ble_eq_true rfl) (mj_B_mono _ _ _ _ _ _ (fun r σ11 h => ?_) h)
                  obtain ⟨rfl, h⟩ := h
                  refine mr_goto rfl ?_
                  exact mj_W_ls (mj_B_mono _) (mj_lev_of _ _ (by simp [mj_levb])) h
                · replace h := h.2 c
                  refine mr_const (pc' := 133) rfl rfl (by unfold mj_r; decide) ?_
                  refine mr_goto rfl ?_
                  refine mr_call (t := [(9, 0)]) (pc' := 140) rfl [.inr (.inl 0), .inl 0] rfl rfl rfl (mj_recvV rfl) (Nat.le_of_ble_eq_true rfl) (mj_B_mono _ _ _ _ _ _ (fun r σ12 h => ?_) h)
                  obtain ⟨rfl, h⟩ := h
                  refine mr_goto rfl ?_
                  exact mj_W_ls (mj_B_mono _) (mj_lev_of _ _ (by simp [mj_levb])) h
              · replace h := h.2 c
                refine mr_iload (pc' := 120) rfl rfl rfl ?_
                refine mr_const (pc' := 122) rfl rfl (by unfold mj_r; decide) ?_
                refine mr_ic_ne (pc' := 125) rfl rfl (fun c => ?_) (fun c => ?_)
                · replace h := h.1 c
                  refine mr_aload (pc' := 144) rfl rfl rfl ?_
                  refine mr_call (t := [(9, 0)]) (pc' := 147) rfl [.inr (.inl 0)] rfl rfl rfl (mj_recvV rfl) (Nat.le_of_ble_eq_true rfl) (mj_B_mono _ _ _ _ _ _ (fun r σ13 h => ?_) h)
                  obtain ⟨v14, rfl, h⟩ := h
                  refine mr_istore (pc' := 148) rfl rfl trivial (Nat.le_of_ble_eq_true rfl) rfl ?_
                  exact mj_W_ls (mj_B_mono _) (mj_lev_of _ _ (by simp [mj_levb])) h
                · replace h := h.2 c
                  refine mr_aload (pc' := 126) rfl rfl rfl ?_
                  refine mr_iload (pc' := 127) rfl rfl rfl ?_
                  refine mr_const (pc' := 129) rfl rfl (by unfold mj_r; decide) ?_
                  refine mr_ic_ne (pc' := 132) rfl rfl (fun c => ?_) (fun c => ?_)
                  · replace h := h.1 c
                    refine mr_const (pc' := 137) rfl rfl (by unfold mj_r; decide) ?_
                    refine mr_call (t := [(9, 0)]) (pc' := 140) rfl [.inr (.inl 0), .inl 1] rfl rfl rfl (mj_recvV rfl) (Nat.le_of_ble_eq_true rfl) (mj_B_mono _ _ _ _ _ _ (fun r σ15 h => ?_) h)
                    obtain ⟨rfl, h⟩ := h
                    refine mr_goto rfl ?_
                    exact mj_W_ls (mj_B_mono _) (mj_lev_of _ _ (by simp [mj_levb])) h
                  · replace h := h.2 c
                    refine mr_const (pc' := 133) rfl rfl (by unfold mj_r; decide) ?_
                    refine mr_goto rfl ?_
                    refine mr_call (t := [(9, 0)]) (pc' := 140) rfl [.inr (.inl 0), .inl 0] rfl rfl rfl (mj_recvV rfl) (Nat.le_of_ble_eq_true rfl) (mj_B_mono _ _ _ _ _ _ (fun r σ16 h => ?_) h)
                    obtain ⟨rfl, h⟩ := h
                    refine mr_goto rfl ?_
                    exact mj_W_ls (mj_B_mono _) (mj_lev_of _ _ (by simp [mj_levb])) h
            · replace h := h.2 c
              refine mr_iload (pc' := 92) rfl rfl rfl ?_
              refine mr_const (pc' := 94) rfl rfl (by unfold mj_r; decide) ?_
              refine mr_ic_ne (pc' := 97) rfl rfl (fun c => ?_) (fun c => ?_)
              · replace h := h.1 c
                refine mr_aload (pc' := 105) rfl rfl rfl ?_
                refine mr_const (pc' := 106) rfl rfl (by unfold mj_r; decide) ?_
                refine mr_call (t := [(9, 0)]) (pc' := 109) rfl [.inr (.inl 0), .inl 1] rfl rfl rfl (mj_recvV rfl) (Nat.le_of_ble_eq_true rfl) (s_m2  (fun σ17 e9 => ?_))
                replace h := h σ17 e9
                refine mr_istore (pc' := 110) rfl rfl trivial (Nat.le_of_ble_eq_true rfl) rfl ?_
                refine mr_goto rfl ?_
                exact mj_W_ls (mj_B_mono _) (mj_lev_of _ _ (by simp [mj_levb])) h
              · replace h := h.2 c
                refine mr_aload (pc' := 98) rfl rfl rfl ?_
                refine mr_call (t := [(9, 0)]) (pc' := 101) rfl [.inr (.inl 0)] rfl rfl rfl (mj_recvV rfl) (Nat.le_of_ble_eq_true rfl) (mj_B_mono _ _ _ _ _ _ (fun r σ18 h => ?_) h)
                obtain ⟨v19, rfl, h⟩ := h
                refine mr_goto rfl ?_
                refine mr_istore (pc' := 110) rfl rfl trivial (Nat.le_of_ble_eq_true rfl) rfl ?_
                refine mr_goto rfl ?_
                exact mj_W_ls (mj_B_mono _) (mj_lev_of _ _ (by simp [mj_levb])) h
          · replace h := h.2 c
            refine mr_aload (pc' := 74) rfl rfl rfl ?_
            refine mr_const (pc' := 75) rfl rfl (by unfold mj_r; decide) ?_
            refine mr_call (t := [(9, 0)]) (pc' := 78) rfl [.inr (.inl 0), .inl 1] rfl rfl rfl (mj_recvV rfl) (Nat.le_of_ble_eq_true rfl) (s_m2  (fun σ20 e9 => ?_))
            replace h := h σ20 e9
            refine mr_pop (pc' := 79) rfl rfl trivial ?_
            refine mr_goto rfl ?_
            exact mj_W_ls (mj_B_mono _) (mj_lev_of _ _ (by simp [mj_levb])) h
      · replace h := h.2 c
        refine mr_aload (pc' := 44) rfl rfl rfl ?_
        refine mr_call (t := [(9, 0)]) (pc' := 47) rfl [.inr (.inl 0)] rfl rfl rfl (mj_recvV rfl) (Nat.le_of_ble_eq_true rfl) (mj_B_mono _ _ _ _ _ _ (fun r σ21 h => ?_) h)
        obtain ⟨v22, rfl, h⟩ := h
        refine mr_istore (pc' := 48) rfl rfl trivial (Nat.le_of_ble_eq_true rfl) rfl ?_
        refine mr_goto rfl ?_
        exact mj_W_ls (mj_B_mono _) (mj_lev_of _ _ (by simp [mj_levb])) h
    · replace h := h.2 c
      refine mr_aload (pc' := 29) rfl rfl rfl ?_
      refine mr_const (pc' := 30) rfl rfl (by unfold mj_r; decide) ?_
      refine mr_call (t := [(9, 0)]) (pc' := 33) rfl [.inr (.inl 0), .inl 1] rfl rfl rfl (mj_recvV rfl) (Nat.le_of_ble_eq_true rfl) (s_m2  (fun σ23 e9 => ?_))
      replace h := h σ23 e9
      refine mr_pop (pc' := 34) rfl rfl trivial ?_
      refine mr_goto rfl ?_
      exact mj_W_ls (mj_B_mono _) (mj_lev_of _ _ (by simp [mj_levb])) h
set_option maxRecDepth 20000 in
theorem qw_m20_148 {d : Nat} {Q : mj_Q} {y1 y2 : Int} {σ : mj_S} (h : (¬ y2 = (-1) → qh_m20_158 (d + 1) Q y1 y2 σ) ∧ (y2 = (-1) → mj_B mjm_L mjm_Ms (d + 1) 21 [.inr (.inl 0)] σ (fun r σ1 => ∃ v2, r = some (.inl v2) ∧ qh_m20_158 (d + 1) Q y1 v2 σ1))) : qh_m20_148 (d + 1) Q y1 y2 σ := by
  show mj_P mjm_L mjm_Ms (d + 1) mjmo20 ((Option.some Jvm.ClassFile.FieldType.int)) Q 148 [some (.inr (.inl 0)), some (.inl y1), some (.inl y2)] [] σ
  refine mr_iload (pc' := 149) rfl rfl rfl ?_
  refine mr_const (pc' := 150) rfl rfl (by unfold mj_r; decide) ?_
  refine mr_ic_ne (pc' := 153) rfl rfl (fun c => ?_) (fun c => ?_)
  · replace h := h.1 c
    exact mj_W_ls (mj_B_mono _) (mj_lev_of _ _ (by simp [mj_levb])) h
  · replace h := h.2 c
    refine mr_aload (pc' := 154) rfl rfl rfl ?_
    refine mr_call (t := [(9, 0)]) (pc' := 157) rfl [.inr (.inl 0)] rfl rfl rfl (mj_recvV rfl) (Nat.le_of_ble_eq_true rfl) (mj_B_mono _ _ _ _ _ _ (fun r σ1 h => ?_) h)
    obtain ⟨v2, rfl, h⟩ := h
    refine mr_istore (pc' := 158) rfl rfl trivial (Nat.le_of_ble_eq_true rfl) rfl ?_
    exact mj_W_ls (mj_B_mono _) (mj_lev_of _ _ (by simp [mj_levb])) h
set_option maxRecDepth 20000 in
theorem qw_m20_158 {d : Nat} {Q : mj_Q} {y1 y2 : Int} {σ : mj_S} (h : (y2 < 0 → qh_m20_5 (d + 1) Q σ) ∧ (0 ≤ y2 → (¬ (σ 0 5) = 0 → qh_m20_5 (d + 1) Q σ) ∧ ((σ 0 5) = 0 → (¬ (σ 0 17) = 0 → mj_B mjm_L mjm_Ms (d + 1) 23 [.inr (.inl 0), .inl y2] σ (fun r σ1 => ∃ v2, r = some (.inl v2) ∧ qh_m20_158 (d + 1) Q y1 v2 σ1)) ∧ ((σ 0 17) = 0 → Q (some (.inl y2)) σ)))) : qh_m20_158 (d + 1) Q y1 y2 σ := by
  show mj_P mjm_L mjm_Ms (d + 1) mjmo20 ((Option.some Jvm.ClassFile.FieldType.int)) Q 158 [some (.inr (.inl 0)), some (.inl y1), some (.inl y2)] [] σ
  refine mr_iload (pc' := 159) rfl rfl rfl ?_
  refine mr_if_lt (pc' := 162) rfl rfl (fun c => ?_) (fun c => ?_)
  · replace h := h.1 c
    refine mr_goto rfl ?_
    exact mj_W_ls (mj_B_mono _) (mj_lev_of _ _ (by simp [mj_levb])) h
  · replace h := h.2 c
    refine mr_aload (pc' := 163) rfl rfl rfl ?_
    refine mr_get (ci := 0) (pc' := 166) rfl rfl rfl rfl ?_
    refine mr_if_ne (pc' := 169) rfl rfl (fun c => ?_) (fun c => ?_)
    · replace h := h.1 c
      refine mr_goto rfl ?_
      exact mj_W_ls (mj_B_mono _) (mj_lev_of _ _ (by simp [mj_levb])) h
    · replace h := h.2 c
      refine mr_aload (pc' := 170) rfl rfl rfl ?_
      refine mr_get (ci := 0) (pc' := 173) rfl rfl rfl rfl ?_
      refine mr_if_ne (pc' := 176) rfl rfl (fun c => ?_) (fun c => ?_)
      · replace h := h.1 c
        refine mr_aload (pc' := 179) rfl rfl rfl ?_
        refine mr_iload (pc' := 180) rfl rfl rfl ?_
        refine mr_call (t := [(9, 0)]) (pc' := 183) rfl [.inr (.inl 0), .inl y2] rfl rfl rfl (mj_recvV rfl) (Nat.le_of_ble_eq_true rfl) (mj_B_mono _ _ _ _ _ _ (fun r σ1 h => ?_) h)
        obtain ⟨v2, rfl, h⟩ := h
        refine mr_istore (pc' := 184) rfl rfl trivial (Nat.le_of_ble_eq_true rfl) rfl ?_
        refine mr_goto rfl ?_
        exact mj_W_ls (mj_B_mono _) (mj_lev_of _ _ (by simp [mj_levb])) h
      · replace h := h.2 c
        refine mr_iload (pc' := 177) rfl rfl rfl ?_
        exact mr_iret rfl rfl trivial h
set_option maxRecDepth 20000 in
/-- ListSpeakerModel.read_ -/
theorem wq_m20 {d : Nat} {σ : mj_S} {Q : mj_Q} (h : ∀ σ1, σ1 = mj_up σ 0 17 0 → qh_m20_5 (d + 1) Q σ1) : mj_B mjm_L mjm_Ms (d + 2) 20 [.inr (.inl 0)] σ Q := by
  refine mj_B_of (M := mjmM20) (ls := [some (.inr (.inl 0)), none, none]) rfl (mj_c1_all rfl) (Nat.le_of_ble_eq_true rfl) rfl ?_
  refine mr_aload (pc' := 1) rfl rfl rfl ?_
  refine mr_const (pc' := 2) rfl rfl (by unfold mj_r; decide) ?_
  refine mr_put (pc' := 5) rfl rfl rfl rfl (fun σ1 e9 => ?_)
  replace h := h σ1 e9
  exact mj_W_ls (mj_B_mono _) (mj_lev_of _ _ (by simp [mj_levb])) h
set_option maxRecDepth 20000 in
/-- ListSpeakerModel.dot_ -/
theorem wq_m21 {d : Nat} {σ : mj_S} {Q : mj_Q} (h : 0 ≤ σ 0 4 ∧ σ 0 2 ≤ 300 ∧ (¬ (z_lk σ) = 46 → ((σ 0 17) ≤ 0 → ∀ σ1, σ1 = z_sp σ 1 → Q (some (.inl (-2))) σ1) ∧ (0 < (σ 0 17) → mj_r ((σ 0 17) - 1) ∧ 0 ≤ ((σ 0 17) - 1) ∧ ((σ 0 17) - 1) < 14 ∧ (¬ (σ 9 ((σ 0 17) - 1).toNat) = 0 → ∀ σ2, σ2 = z_sp σ 1 → Q (some (.inl (-2))) σ2) ∧ ((σ 9 ((σ 0 17) - 1).toNat) = 0 → mj_r ((σ 0 17) - 1) ∧ 0 ≤ ((σ 0 17) - 1) ∧ ((σ 0 17) - 1) < 14 ∧ ((σ 11 ((σ 0 17) - 1).toNat) = 268435456 → ∀ σ3, σ3 = z_sp σ 1 → Q (some (.inl (-2))) σ3) ∧ (¬ (σ 11 ((σ 0 17) - 1).toNat) = 268435456 → mj_r ((σ 0 17) - 1) ∧ 0 ≤ ((σ 0 17) - 1) ∧ ((σ 0 17) - 1) < 14 ∧ (¬ (σ 12 ((σ 0 17) - 1).toNat) = 0 → ∀ σ4, σ4 = z_sp σ 1 → Q (some (.inl (-2))) σ4) ∧ ((σ 12 ((σ 0 17) - 1).toNat) = 0 → mj_r ((σ 0 17) - 1) ∧ 0 ≤ ((σ 0 17) - 1) ∧ ((σ 0 17) - 1) < 14 ∧ ∀ σ5, σ5 = mj_up σ 12 ((σ 0 17) - 1).toNat 1 → Q (some (.inl (-2))) σ5))))) ∧ ((z_lk σ) = 46 → mj_B mjm_L mjm_Ms (d + 1) 16 [.inr (.inl 0)] σ (fun r σ6 => ∃ v7, r = some (.inl v7) ∧ ((σ6 0 17) ≤ 0 → ∀ σ8, σ8 = z_sp σ6 1 → Q (some (.inl (-2))) σ8) ∧ (0 < (σ6 0 17) → mj_r ((σ6 0 17) - 1) ∧ 0 ≤ ((σ6 0 17) - 1) ∧ ((σ6 0 17) - 1) < 14 ∧ (¬ (σ6 9 ((σ6 0 17) - 1).toNat) = 0 → ∀ σ9, σ9 = z_sp σ6 1 → Q (some (.inl (-2))) σ9) ∧ ((σ6 9 ((σ6 0 17) - 1).toNat) = 0 → mj_r ((σ6 0 17) - 1) ∧ 0 ≤ ((σ6 0 17) - 1) ∧ ((σ6 0 17) - 1) < 14 ∧ ((σ6 11 ((σ6 0 17) - 1).toNat) = 268435456 → ∀ σ10, σ10 = z_sp σ6 1 → Q (some (.inl (-2))) σ10) ∧ (¬ (σ6 11 ((σ6 0 17) - 1).toNat) = 268435456 → mj_r ((σ6 0 17) - 1) ∧ 0 ≤ ((σ6 0 17) - 1) ∧ ((σ6 0 17) - 1) < 14 ∧ (¬ (σ6 12 ((σ6 0 17) - 1).toNat) = 0 → ∀ σ11, σ11 = z_sp σ6 1 → Q (some (.inl (-2))) σ11) ∧ ((σ6 12 ((σ6 0 17) - 1).toNat) = 0 → mj_r ((σ6 0 17) - 1) ∧ 0 ≤ ((σ6 0 17) - 1) ∧ ((σ6 0 17) - 1) < 14 ∧ ∀ σ12, σ12 = mj_up σ6 12 ((σ6 0 17) - 1).toNat 1 → Q (some (.inl (-2))) σ12))))))) : mj_B mjm_L mjm_Ms (d + 2) 21 [.inr (.inl 0)] σ Q := by
  refine mj_B_of (M := mjmM21) (ls := [some (.inr (.inl 0)), none]) rfl (mj_c1_all rfl) (Nat.le_of_ble_eq_true rfl) rfl ?_
  refine mr_aload (pc' := 1) rfl rfl rfl ?_
  obtain ⟨h0, h1, h⟩ := h
  refine mr_call (t := [(9, 0)]) (pc' := 4) rfl [.inr (.inl 0)] rfl rfl rfl (mj_recvV rfl) (Nat.le_of_ble_eq_true rfl) (s_m11 h0 h1 ?_)
  refine mr_const (pc' := 6) rfl rfl (by unfold mj_r; decide) ?_
  refine mr_ic_ne (pc' := 9) rfl rfl (fun c => ?_) (fun c => ?_)
  · replace h := h.1 c
    refine mr_aload (pc' := 15) rfl rfl rfl ?_
    refine mr_get (ci := 0) (pc' := 18) rfl rfl rfl rfl ?_
    refine mr_if_le (pc' := 21) rfl rfl (fun c => ?_) (fun c => ?_)
    · replace h := h.1 c
      refine mr_const (pc' := 70) rfl rfl (by unfold mj_r; decide) ?_
      refine mr_istore (pc' := 71) rfl rfl trivial (Nat.le_of_ble_eq_true rfl) rfl ?_
      refine mr_iload (pc' := 72) rfl rfl rfl ?_
      refine mr_if_ne (pc' := 75) rfl rfl (fun c => absurd c (by decide)) (fun _ => ?_)
      refine mr_aload (pc' := 76) rfl rfl rfl ?_
      refine mr_const (pc' := 77) rfl rfl (by unfold mj_r; decide) ?_
      refine mr_call (t := [(9, 0)]) (pc' := 80) rfl [.inr (.inl 0), .inl 1] rfl rfl rfl (mj_recvV rfl) (Nat.le_of_ble_eq_true rfl) (s_m2  (fun σ1 e9 => ?_))
      replace h := h σ1 e9
      refine mr_pop (pc' := 81) rfl rfl trivial ?_
      refine mr_goto rfl ?_
      refine mr_const (pc' := 98) rfl rfl (by unfold mj_r; decide) ?_
      exact mr_iret rfl rfl trivial h
    · replace h := h.2 c
      refine mr_aload (pc' := 22) rfl rfl rfl ?_
      refine mr_getr (ci := 0) (pc' := 25) rfl rfl rfl rfl ?_
      refine mr_aload (pc' := 26) rfl rfl rfl ?_
      refine mr_get (ci := 0) (pc' := 29) rfl rfl rfl rfl ?_
      refine mr_const (pc' := 30) rfl rfl (by unfold mj_r; decide) ?_
      obtain ⟨h0, h⟩ := h
      refine mr_isub (pc' := 31) rfl rfl h0 ?_
      obtain ⟨h0, h1, h⟩ := h
      refine mr_iald (pc' := 32) rfl rfl rfl h0 h1 ?_
      refine mr_if_ne (pc' := 35) rfl rfl (fun c => ?_) (fun c => ?_)
      · replace h := h.1 c
        refine mr_const (pc' := 70) rfl rfl (by unfold mj_r; decide) ?_
        refine mr_istore (pc' := 71) rfl rfl trivial (Nat.le_of_ble_eq_true rfl) rfl ?_
        refine mr_iload (pc' := 72) rfl rfl rfl ?_
        refine mr_if_ne (pc' := 75) rfl rfl (fun c => absurd c (by decide)) (fun _ => ?_)
        refine mr_aload (pc' := 76) rfl rfl rfl ?_
        refine mr_const (pc' := 77) rfl rfl (by unfold mj_r; decide) ?_
        refine mr_call (t := [(9, 0)]) (pc' := 80) rfl [.inr (.inl 0), .inl 1] rfl rfl rfl (mj_recvV rfl) (Nat.le_of_ble_eq_true rfl) (s_m2  (fun σ2 e9 => ?_))
        replace h := h σ2 e9
        refine mr_pop (pc' := 81) rfl rfl trivial ?_
        refine mr_goto rfl ?_
        refine mr_const (pc' := 98) rfl rfl (by unfold mj_r; decide) ?_
        exact mr_iret rfl rfl trivial h
      · replace h := h.2 c
        refine mr_aload (pc' := 36) rfl rfl rfl ?_
        refine mr_getr (ci := 0) (pc' := 39) rfl rfl rfl rfl ?_
        refine mr_aload (pc' := 40) rfl rfl rfl ?_
        refine mr_get (ci := 0) (pc' := 43) rfl rfl rfl rfl ?_
        refine mr_const (pc' := 44) rfl rfl (by unfold mj_r; decide) ?_
        obtain ⟨h0, h⟩ := h
        refine mr_isub (pc' := 45) rfl rfl h0 ?_
        obtain ⟨h0, h1, h⟩ := h
        refine mr_iald (pc' := 46) rfl rfl rfl h0 h1 ?_
        refine mr_const (pc' := 48) rfl rfl (by unfold mj_r; decide) ?_
        refine mr_ic_eq (pc' := 51) rfl rfl (fun c => ?_) (fun c => ?_)
        · replace h := h.1 c
          refine mr_const (pc' := 70) rfl rfl (by unfold mj_r; decide) ?_
          refine mr_istore (pc' := 71) rfl rfl trivial (Nat.le_of_ble_eq_true rfl) rfl ?_
          refine mr_iload (pc' := 72) rfl rfl rfl ?_
          refine mr_if_ne (pc' := 75) rfl rfl (fun c => absurd c (by decide)) (fun _ => ?_)
          refine mr_aload (pc' := 76) rfl rfl rfl ?_
          refine mr_const (pc' := 77) rfl rfl (by unfold mj_r; decide) ?_
          refine mr_call (t := [(9, 0)]) (pc' := 80) rfl [.inr (.inl 0), .inl 1] rfl rfl rfl (mj_recvV rfl) (Nat.le_of_ble_eq_true rfl) (s_m2  (fun σ3 e9 => ?_))
          replace h := h σ3 e9
          refine mr_pop (pc' := 81) rfl rfl trivial ?_
          refine mr_goto rfl ?_
          refine mr_const (pc' := 98) rfl rfl (by unfold mj_r; decide) ?_
          exact mr_iret rfl rfl trivial h
        · replace h := h.2 c
          refine mr_aload (pc' := 52) rfl rfl rfl ?_
          refine mr_getr (ci := 0) (pc' := 55) rfl rfl rfl rfl ?_
          refine mr_aload (pc' := 56) rfl rfl rfl ?_
          refine mr_get (ci := 0) (pc' := 59) rfl rfl rfl rfl ?_
          refine mr_const (pc' := 60) rfl rfl (by unfold mj_r; decide) ?_
          obtain ⟨h0, h⟩ := h
          refine mr_isub (pc' := 61) rfl rfl h0 ?_
          obtain ⟨h0, h1, h⟩ := h
          refine mr_iald (pc' := 62) rfl rfl rfl h0 h1 ?_
          refine mr_if_ne (pc' := 65) rfl rfl (fun c => ?_) (fun c => ?_)
          · replace h := h.1 c
            refine mr_const (pc' := 70) rfl rfl (by unfold mj_r; decide) ?_
            refine mr_istore (pc' := 71) rfl rfl trivial (Nat.le_of_ble_eq_true rfl) rfl ?_
            refine mr_iload (pc' := 72) rfl rfl rfl ?_
            refine mr_if_ne (pc' := 75) rfl rfl (fun c => absurd c (by decide)) (fun _ => ?_)
            refine mr_aload (pc' := 76) rfl rfl rfl ?_
            refine mr_const (pc' := 77) rfl rfl (by unfold mj_r; decide) ?_
            refine mr_call (t := [(9, 0)]) (pc' := 80) rfl [.inr (.inl 0), .inl 1] rfl rfl rfl (mj_recvV rfl) (Nat.le_of_ble_eq_true rfl) (s_m2  (fun σ4 e9 => ?_))
            replace h := h σ4 e9
            refine mr_pop (pc' := 81) rfl rfl trivial ?_
            refine mr_goto rfl ?_
            refine mr_const (pc' := 98) rfl rfl (by unfold mj_r; decide) ?_
            exact mr_iret rfl rfl trivial h
          · replace h := h.2 c
            refine mr_const (pc' := 66) rfl rfl (by unfold mj_r; decide) ?_
            refine mr_goto rfl ?_
            refine mr_istore (pc' := 71) rfl rfl trivial (Nat.le_of_ble_eq_true rfl) rfl ?_
            refine mr_iload (pc' := 72) rfl rfl rfl ?_
            refine mr_if_ne (pc' := 75) rfl rfl (fun _ => ?_) (fun c => absurd c (by decide))
            refine mr_aload (pc' := 85) rfl rfl rfl ?_
            refine mr_getr (ci := 0) (pc' := 88) rfl rfl rfl rfl ?_
            refine mr_aload (pc' := 89) rfl rfl rfl ?_
            refine mr_get (ci := 0) (pc' := 92) rfl rfl rfl rfl ?_
            refine mr_const (pc' := 93) rfl rfl (by unfold mj_r; decide) ?_
            obtain ⟨h0, h⟩ := h
            refine mr_isub (pc' := 94) rfl rfl h0 ?_
            refine mr_const (pc' := 95) rfl rfl (by unfold mj_r; decide) ?_
            obtain ⟨h0, h1, h⟩ := h
            refine mr_iast (pc' := 96) rfl rfl rfl h0 h1 (fun σ5 e9 => ?_)
            replace h := h σ5 e9
            refine mr_const (pc' := 98) rfl rfl (by unfold mj_r; decide) ?_
            exact mr_iret rfl rfl trivial h
  · replace h := h.2 c
    refine mr_aload (pc' := 10) rfl rfl rfl ?_
    refine mr_call (t := [(9, 0)]) (pc' := 13) rfl [.inr (.inl 0)] rfl rfl rfl (mj_recvV rfl) (Nat.le_of_ble_eq_true rfl) (mj_B_mono _ _ _ _ _ _ (fun r σ6 h => ?_) h)
    obtain ⟨v7, rfl, h⟩ := h
    refine mr_pop (pc' := 14) rfl rfl trivial ?_
    refine mr_aload (pc' := 15) rfl rfl rfl ?_
    refine mr_get (ci := 0) (pc' := 18) rfl rfl rfl rfl ?_
    refine mr_if_le (pc' := 21) rfl rfl (fun c => ?_) (fun c => ?_)
    · replace h := h.1 c
      refine mr_const (pc' := 70) rfl rfl (by unfold mj_r; decide) ?_
      refine mr_istore (pc' := 71) rfl rfl trivial (Nat.le_of_ble_eq_true rfl) rfl ?_
      refine mr_iload (pc' := 72) rfl rfl rfl ?_
      refine mr_if_ne (pc' := 75) rfl rfl (fun c => absurd c (by decide)) (fun _ => ?_)
      refine mr_aload (pc' := 76) rfl rfl rfl ?_
      refine mr_const (pc' := 77) rfl rfl (by unfold mj_r; decide) ?_
      refine mr_call (t := [(9, 0)]) (pc' := 80) rfl [.inr (.inl 0), .inl 1] rfl rfl rfl (mj_recvV rfl) (Nat.le_of_ble_eq_true rfl) (s_m2  (fun σ8 e9 => ?_))
      replace h := h σ8 e9
      refine mr_pop (pc' := 81) rfl rfl trivial ?_
      refine mr_goto rfl ?_
      refine mr_const (pc' := 98) rfl rfl (by unfold mj_r; decide) ?_
      exact mr_iret rfl rfl trivial h
    · replace h := h.2 c
      refine mr_aload (pc' := 22) rfl rfl rfl ?_
      refine mr_getr (ci := 0) (pc' := 25) rfl rfl rfl rfl ?_
      refine mr_aload (pc' := 26) rfl rfl rfl ?_
      refine mr_get (ci := 0) (pc' := 29) rfl rfl rfl rfl ?_
      refine mr_const (pc' := 30) rfl rfl (by unfold mj_r; decide) ?_
      obtain ⟨h0, h⟩ := h
      refine mr_isub (pc' := 31) rfl rfl h0 ?_
      obtain ⟨h0, h1, h⟩ := h
      refine mr_iald (pc' := 32) rfl rfl rfl h0 h1 ?_
      refine mr_if_ne (pc' := 35) rfl rfl (fun c => ?_) (fun c => ?_)
      · replace h := h.1 c
        refine mr_const (pc' := 70) rfl rfl (by unfold mj_r; decide) ?_
        refine mr_istore (pc' := 71) rfl rfl trivial (Nat.le_of_ble_eq_true rfl) rfl ?_
        refine mr_iload (pc' := 72) rfl rfl rfl ?_
        refine mr_if_ne (pc' := 75) rfl rfl (fun c => absurd c (by decide)) (fun _ => ?_)
        refine mr_aload (pc' := 76) rfl rfl rfl ?_
        refine mr_const (pc' := 77) rfl rfl (by unfold mj_r; decide) ?_
        refine mr_call (t := [(9, 0)]) (pc' := 80) rfl [.inr (.inl 0), .inl 1] rfl rfl rfl (mj_recvV rfl) (Nat.le_of_ble_eq_true rfl) (s_m2  (fun σ9 e9 => ?_))
        replace h := h σ9 e9
        refine mr_pop (pc' := 81) rfl rfl trivial ?_
        refine mr_goto rfl ?_
        refine mr_const (pc' := 98) rfl rfl (by unfold mj_r; decide) ?_
        exact mr_iret rfl rfl trivial h
      · replace h := h.2 c
        refine mr_aload (pc' := 36) rfl rfl rfl ?_
        refine mr_getr (ci := 0) (pc' := 39) rfl rfl rfl rfl ?_
        refine mr_aload (pc' := 40) rfl rfl rfl ?_
        refine mr_get (ci := 0) (pc' := 43) rfl rfl rfl rfl ?_
        refine mr_const (pc' := 44) rfl rfl (by unfold mj_r; decide) ?_
        obtain ⟨h0, h⟩ := h
        refine mr_isub (pc' := 45) rfl rfl h0 ?_
        obtain ⟨h0, h1, h⟩ := h
        refine mr_iald (pc' := 46) rfl rfl rfl h0 h1 ?_
        refine mr_const (pc' := 48) rfl rfl (by unfold mj_r; decide) ?_
        refine mr_ic_eq (pc' := 51) rfl rfl (fun c => ?_) (fun c => ?_)
        · replace h := h.1 c
          refine mr_const (pc' := 70) rfl rfl (by unfold mj_r; decide) ?_
          refine mr_istore (pc' := 71) rfl rfl trivial (Nat.le_of_ble_eq_true rfl) rfl ?_
          refine mr_iload (pc' := 72) rfl rfl rfl ?_
          refine mr_if_ne (pc' := 75) rfl rfl (fun c => absurd c (by decide)) (fun _ => ?_)
          refine mr_aload (pc' := 76) rfl rfl rfl ?_
          refine mr_const (pc' := 77) rfl rfl (by unfold mj_r; decide) ?_
          refine mr_call (t := [(9, 0)]) (pc' := 80) rfl [.inr (.inl 0), .inl 1] rfl rfl rfl (mj_recvV rfl) (Nat.le_of_ble_eq_true rfl) (s_m2  (fun σ10 e9 => ?_))
          replace h := h σ10 e9
          refine mr_pop (pc' := 81) rfl rfl trivial ?_
          refine mr_goto rfl ?_
          refine mr_const (pc' := 98) rfl rfl (by unfold mj_r; decide) ?_
          exact mr_iret rfl rfl trivial h
        · replace h := h.2 c
          refine mr_aload (pc' := 52) rfl rfl rfl ?_
          refine mr_getr (ci := 0) (pc' := 55) rfl rfl rfl rfl ?_
          refine mr_aload (pc' := 56) rfl rfl rfl ?_
          refine mr_get (ci := 0) (pc' := 59) rfl rfl rfl rfl ?_
          refine mr_const (pc' := 60) rfl rfl (by unfold mj_r; decide) ?_
          obtain ⟨h0, h⟩ := h
          refine mr_isub (pc' := 61) rfl rfl h0 ?_
          obtain ⟨h0, h1, h⟩ := h
          refine mr_iald (pc' := 62) rfl rfl rfl h0 h1 ?_
          refine mr_if_ne (pc' := 65) rfl rfl (fun c => ?_) (fun c => ?_)
          · replace h := h.1 c
            refine mr_const (pc' := 70) rfl rfl (by unfold mj_r; decide) ?_
            refine mr_istore (pc' := 71) rfl rfl trivial (Nat.le_of_ble_eq_true rfl) rfl ?_
            refine mr_iload (pc' := 72) rfl rfl rfl ?_
            refine mr_if_ne (pc' := 75) rfl rfl (fun c => absurd c (by decide)) (fun _ => ?_)
            refine mr_aload (pc' := 76) rfl rfl rfl ?_
            refine mr_const (pc' := 77) rfl rfl (by unfold mj_r; decide) ?_
            refine mr_call (t := [(9, 0)]) (pc' := 80) rfl [.inr (.inl 0), .inl 1] rfl rfl rfl (mj_recvV rfl) (Nat.le_of_ble_eq_true rfl) (s_m2  (fun σ11 e9 => ?_))
            replace h := h σ11 e9
            refine mr_pop (pc' := 81) rfl rfl trivial ?_
            refine mr_goto rfl ?_
            refine mr_const (pc' := 98) rfl rfl (by unfold mj_r; decide) ?_
            exact mr_iret rfl rfl trivial h
          · replace h := h.2 c
            refine mr_const (pc' := 66) rfl rfl (by unfold mj_r; decide) ?_
            refine mr_goto rfl ?_
            refine mr_istore (pc' := 71) rfl rfl trivial (Nat.le_of_ble_eq_true rfl) rfl ?_
            refine mr_iload (pc' := 72) rfl rfl rfl ?_
            refine mr_if_ne (pc' := 75) rfl rfl (fun _ => ?_) (fun c => absurd c (by decide))
            refine mr_aload (pc' := 85) rfl rfl rfl ?_
            refine mr_getr (ci := 0) (pc' := 88) rfl rfl rfl rfl ?_
            refine mr_aload (pc' := 89) rfl rfl rfl ?_
            refine mr_get (ci := 0) (pc' := 92) rfl rfl rfl rfl ?_
            refine mr_const (pc' := 93) rfl rfl (by unfold mj_r; decide) ?_
            obtain ⟨h0, h⟩ := h
            refine mr_isub (pc' := 94) rfl rfl h0 ?_
            refine mr_const (pc' := 95) rfl rfl (by unfold mj_r; decide) ?_
            obtain ⟨h0, h1, h⟩ := h
            refine mr_iast (pc' := 96) rfl rfl rfl h0 h1 (fun σ12 e9 => ?_)
            replace h := h σ12 e9
            refine mr_const (pc' := 98) rfl rfl (by unfold mj_r; decide) ?_
            exact mr_iret rfl rfl trivial h
set_option maxRecDepth 20000 in
/-- ListSpeakerModel.close_ -/
theorem wq_m22 {d : Nat} {σ : mj_S} {Q : mj_Q} (h : ((σ 0 17) = 0 → ∀ σ1, σ1 = z_sp σ 1 → Q (some (.inl 268435456)) σ1) ∧ (¬ (σ 0 17) = 0 → mj_r ((σ 0 17) - 1) ∧ 0 ≤ ((σ 0 17) - 1) ∧ ((σ 0 17) - 1) < 14 ∧ ((σ 9 ((σ 0 17) - 1).toNat) = 1 → ∀ σ2, σ2 = z_sp σ 1 → Q (some (.inl 268435456)) σ2) ∧ (¬ (σ 9 ((σ 0 17) - 1).toNat) = 1 → mj_r ((σ 0 17) - 1) ∧ 0 ≤ ((σ 0 17) - 1) ∧ ((σ 0 17) - 1) < 14 ∧ (¬ (σ 12 ((σ 0 17) - 1).toNat) = 1 → mj_r ((σ 0 4) + 1) ∧ ∀ σ3, σ3 = mj_up σ 0 4 ((σ 0 4) + 1) → mj_r ((σ3 0 17) - 1) ∧ ∀ σ4, σ4 = mj_up σ3 0 17 ((σ3 0 17) - 1) → 0 ≤ (σ4 0 17) ∧ (σ4 0 17) < 14 ∧ Q (some (.inl (σ4 10 (σ4 0 17).toNat))) σ4) ∧ ((σ 12 ((σ 0 17) - 1).toNat) = 1 → ∀ σ5, σ5 = z_sp σ 1 → Q (some (.inl 268435456)) σ5)))) : mj_B mjm_L mjm_Ms (d + 2) 22 [.inr (.inl 0)] σ Q := by
  refine mj_B_of (M := mjmM22) (ls := [some (.inr (.inl 0))]) rfl (mj_c1_all rfl) (Nat.le_of_ble_eq_true rfl) rfl ?_
  refine mr_aload (pc' := 1) rfl rfl rfl ?_
  refine mr_get (ci := 0) (pc' := 4) rfl rfl rfl rfl ?_
  refine mr_if_eq (pc' := 7) rfl rfl (fun c => ?_) (fun c => ?_)
  · replace h := h.1 c
    refine mr_aload (pc' := 38) rfl rfl rfl ?_
    refine mr_const (pc' := 39) rfl rfl (by unfold mj_r; decide) ?_
    refine mr_call (t := [(9, 0)]) (pc' := 42) rfl [.inr (.inl 0), .inl 1] rfl rfl rfl (mj_recvV rfl) (Nat.le_of_ble_eq_true rfl) (s_m2  (fun σ1 e9 => ?_))
    replace h := h σ1 e9
    exact mr_iret rfl rfl trivial h
  · replace h := h.2 c
    refine mr_aload (pc' := 8) rfl rfl rfl ?_
    refine mr_getr (ci := 0) (pc' := 11) rfl rfl rfl rfl ?_
    refine mr_aload (pc' := 12) rfl rfl rfl ?_
    refine mr_get (ci := 0) (pc' := 15) rfl rfl rfl rfl ?_
    refine mr_const (pc' := 16) rfl rfl (by unfold mj_r; decide) ?_
    obtain ⟨h0, h⟩ := h
    refine mr_isub (pc' := 17) rfl rfl h0 ?_
    obtain ⟨h0, h1, h⟩ := h
    refine mr_iald (pc' := 18) rfl rfl rfl h0 h1 ?_
    refine mr_const (pc' := 19) rfl rfl (by unfold mj_r; decide) ?_
    refine mr_ic_eq (pc' := 22) rfl rfl (fun c => ?_) (fun c => ?_)
    · replace h := h.1 c
      refine mr_aload (pc' := 38) rfl rfl rfl ?_
      refine mr_const (pc' := 39) rfl rfl (by unfold mj_r; decide) ?_
      refine mr_call (t := [(9, 0)]) (pc' := 42) rfl [.inr (.inl 0), .inl 1] rfl rfl rfl (mj_recvV rfl) (Nat.le_of_ble_eq_true rfl) (s_m2  (fun σ2 e9 => ?_))
      replace h := h σ2 e9
      exact mr_iret rfl rfl trivial h
    · replace h := h.2 c
      refine mr_aload (pc' := 23) rfl rfl rfl ?_
      refine mr_getr (ci := 0) (pc' := 26) rfl rfl rfl rfl ?_
      refine mr_aload (pc' := 27) rfl rfl rfl ?_
      refine mr_get (ci := 0) (pc' := 30) rfl rfl rfl rfl ?_
      refine mr_const (pc' := 31) rfl rfl (by unfold mj_r; decide) ?_
      obtain ⟨h0, h⟩ := h
      refine mr_isub (pc' := 32) rfl rfl h0 ?_
      obtain ⟨h0, h1, h⟩ := h
      refine mr_iald (pc' := 33) rfl rfl rfl h0 h1 ?_
      refine mr_const (pc' := 34) rfl rfl (by unfold mj_r; decide) ?_
      refine mr_ic_ne (pc' := 37) rfl rfl (fun c => ?_) (fun c => ?_)
      · replace h := h.1 c
        refine mr_aload (pc' := 44) rfl rfl rfl ?_
        refine mr_dup (pc' := 45) rfl rfl trivial ?_
        refine mr_get (ci := 0) (pc' := 48) rfl rfl rfl rfl ?_
        refine mr_const (pc' := 49) rfl rfl (by unfold mj_r; decide) ?_
        obtain ⟨h0, h⟩ := h
        refine mr_iadd (pc' := 50) rfl rfl h0 ?_
        refine mr_put (pc' := 53) rfl rfl rfl rfl (fun σ3 e9 => ?_)
        replace h := h σ3 e9
        refine mr_aload (pc' := 54) rfl rfl rfl ?_
        refine mr_dup (pc' := 55) rfl rfl trivial ?_
        refine mr_get (ci := 0) (pc' := 58) rfl rfl rfl rfl ?_
        refine mr_const (pc' := 59) rfl rfl (by unfold mj_r; decide) ?_
        obtain ⟨h0, h⟩ := h
        refine mr_isub (pc' := 60) rfl rfl h0 ?_
        refine mr_put (pc' := 63) rfl rfl rfl rfl (fun σ4 e9 => ?_)
        replace h := h σ4 e9
        refine mr_aload (pc' := 64) rfl rfl rfl ?_
        refine mr_getr (ci := 0) (pc' := 67) rfl rfl rfl rfl ?_
        refine mr_aload (pc' := 68) rfl rfl rfl ?_
        refine mr_get (ci := 0) (pc' := 71) rfl rfl rfl rfl ?_
        obtain ⟨h0, h1, h⟩ := h
        refine mr_iald (pc' := 72) rfl rfl rfl h0 h1 ?_
        exact mr_iret rfl rfl trivial h
      · replace h := h.2 c
        refine mr_aload (pc' := 38) rfl rfl rfl ?_
        refine mr_const (pc' := 39) rfl rfl (by unfold mj_r; decide) ?_
        refine mr_call (t := [(9, 0)]) (pc' := 42) rfl [.inr (.inl 0), .inl 1] rfl rfl rfl (mj_recvV rfl) (Nat.le_of_ble_eq_true rfl) (s_m2  (fun σ5 e9 => ?_))
        replace h := h σ5 e9
        exact mr_iret rfl rfl trivial h
set_option maxRecDepth 20000 in
/-- ListSpeakerModel.take_ -/
theorem wq_m23 {d : Nat} {σ : mj_S} {Q : mj_Q} {x1 : Int} (h : mj_r ((σ 0 17) - 1) ∧ 0 ≤ ((σ 0 17) - 1) ∧ ((σ 0 17) - 1) < 14 ∧ (¬ (σ 9 ((σ 0 17) - 1).toNat) = 1 → 0 ≤ ((σ 0 17) - 1) ∧ ((σ 0 17) - 1) < 14 ∧ (¬ (σ 12 ((σ 0 17) - 1).toNat) = 1 → 0 ≤ σ 0 11 ∧ σ 0 11 ≤ 400 ∧ ∀ σ1, σ1 = z_sr σ x1 268435456 → ((σ1 0 5) ≤ 0 → 0 ≤ ((σ 0 17) - 1) ∧ ((σ 0 17) - 1) < 14 ∧ (¬ (σ1 11 ((σ 0 17) - 1).toNat) = 268435456 → 0 ≤ ((σ 0 17) - 1) ∧ ((σ 0 17) - 1) < 14 ∧ mj_r ((σ1 11 ((σ 0 17) - 1).toNat) - 536870912) ∧ 0 ≤ ((σ1 11 ((σ 0 17) - 1).toNat) - 536870912) ∧ ((σ1 11 ((σ 0 17) - 1).toNat) - 536870912) < 600 ∧ ∀ σ2, σ2 = mj_up σ1 5 ((σ1 11 ((σ 0 17) - 1).toNat) - 536870912).toNat (if σ 0 11 = 400 then 268435456 else 536870912 + σ 0 11) → 0 ≤ ((σ 0 17) - 1) ∧ ((σ 0 17) - 1) < 14 ∧ ∀ σ3, σ3 = mj_up σ2 11 ((σ 0 17) - 1).toNat (if σ 0 11 = 400 then 268435456 else 536870912 + σ 0 11) → Q (some (.inl (-2))) σ3) ∧ ((σ1 11 ((σ 0 17) - 1).toNat) = 268435456 → 0 ≤ ((σ 0 17) - 1) ∧ ((σ 0 17) - 1) < 14 ∧ ∀ σ4, σ4 = mj_up σ1 10 ((σ 0 17) - 1).toNat (if σ 0 11 = 400 then 268435456 else 536870912 + σ 0 11) → 0 ≤ ((σ 0 17) - 1) ∧ ((σ 0 17) - 1) < 14 ∧ ∀ σ5, σ5 = mj_up σ4 11 ((σ 0 17) - 1).toNat (if σ 0 11 = 400 then 268435456 else 536870912 + σ 0 11) → Q (some (.inl (-2))) σ5)) ∧ (0 < (σ1 0 5) → Q (some (.inl 268435456)) σ1)) ∧ ((σ 12 ((σ 0 17) - 1).toNat) = 1 → 0 ≤ ((σ 0 17) - 1) ∧ ((σ 0 17) - 1) < 14 ∧ mj_r ((σ 11 ((σ 0 17) - 1).toNat) - 536870912) ∧ 0 ≤ ((σ 11 ((σ 0 17) - 1).toNat) - 536870912) ∧ ((σ 11 ((σ 0 17) - 1).toNat) - 536870912) < 600 ∧ ∀ σ6, σ6 = mj_up σ 5 ((σ 11 ((σ 0 17) - 1).toNat) - 536870912).toNat x1 → 0 ≤ ((σ 0 17) - 1) ∧ ((σ 0 17) - 1) < 14 ∧ ∀ σ7, σ7 = mj_up σ6 12 ((σ 0 17) - 1).toNat 2 → Q (some (.inl (-2))) σ7)) ∧ ((σ 9 ((σ 0 17) - 1).toNat) = 1 → mj_r ((σ 0 17) - 1) ∧ ∀ σ8, σ8 = mj_up σ 0 17 ((σ 0 17) - 1) → 0 ≤ σ8 0 11 ∧ σ8 0 11 ≤ 400 ∧ ∀ σ9, σ9 = z_sr σ8 x1 268435456 → ((σ9 0 5) ≤ 0 → 0 ≤ σ9 0 11 ∧ σ9 0 11 ≤ 400 ∧ ∀ σ10, σ10 = z_sr σ9 268435458 (if σ8 0 11 = 400 then 268435456 else 536870912 + σ8 0 11) → Q (some (.inl (if σ9 0 11 = 400 then 268435456 else 536870912 + σ9 0 11))) σ10) ∧ (0 < (σ9 0 5) → Q (some (.inl 268435456)) σ9))) : mj_B mjm_L mjm_Ms (d + 3) 23 [.inr (.inl 0), .inl x1] σ Q := by
  refine mj_B_of (M := mjmM23) (ls := [some (.inr (.inl 0)), some (.inl x1), none, none]) rfl (mj_c1_all rfl) (Nat.le_of_ble_eq_true rfl) rfl ?_
  refine mr_aload (pc' := 1) rfl rfl rfl ?_
  refine mr_get (ci := 0) (pc' := 4) rfl rfl rfl rfl ?_
  refine mr_const (pc' := 5) rfl rfl (by unfold mj_r; decide) ?_
  obtain ⟨h0, h⟩ := h
  refine mr_isub (pc' := 6) rfl rfl h0 ?_
  refine mr_istore (pc' := 7) rfl rfl trivial (Nat.le_of_ble_eq_true rfl) rfl ?_
  refine mr_aload (pc' := 8) rfl rfl rfl ?_
  refine mr_getr (ci := 0) (pc' := 11) rfl rfl rfl rfl ?_
  refine mr_iload (pc' := 12) rfl rfl rfl ?_
  obtain ⟨h0, h1, h⟩ := h
  refine mr_iald (pc' := 13) rfl rfl rfl h0 h1 ?_
  refine mr_const (pc' := 14) rfl rfl (by unfold mj_r; decide) ?_
  refine mr_ic_ne (pc' := 17) rfl rfl (fun c => ?_) (fun c => ?_)
  · replace h := h.1 c
    refine mr_aload (pc' := 56) rfl rfl rfl ?_
    refine mr_getr (ci := 0) (pc' := 59) rfl rfl rfl rfl ?_
    refine mr_iload (pc' := 60) rfl rfl rfl ?_
    obtain ⟨h0, h1, h⟩ := h
    refine mr_iald (pc' := 61) rfl rfl rfl h0 h1 ?_
    refine mr_const (pc' := 62) rfl rfl (by unfold mj_r; decide) ?_
    refine mr_ic_ne (pc' := 65) rfl rfl (fun c => ?_) (fun c => ?_)
    · replace h := h.1 c
      refine mr_aload (pc' := 91) rfl rfl rfl ?_
      refine mr_iload (pc' := 92) rfl rfl rfl ?_
      refine mr_const (pc' := 94) rfl rfl (by unfold mj_r; decide) ?_
      obtain ⟨h0, h1, h⟩ := h
      refine mr_call (t := [(9, 0)]) (pc' := 97) rfl [.inr (.inl 0), .inl x1, .inl 268435456] rfl rfl rfl (mj_recvV rfl) (Nat.le_of_ble_eq_true rfl) (s_m18 h0 h1 (fun σ1 e9 => ?_))
      replace h := h σ1 e9
      refine mr_istore (pc' := 98) rfl rfl trivial (Nat.le_of_ble_eq_true rfl) rfl ?_
      refine mr_aload (pc' := 99) rfl rfl rfl ?_
      refine mr_get (ci := 0) (pc' := 102) rfl rfl rfl rfl ?_
      refine mr_if_le (pc' := 105) rfl rfl (fun c => ?_) (fun c => ?_)
      · replace h := h.1 c
        refine mr_aload (pc' := 109) rfl rfl rfl ?_
        refine mr_getr (ci := 0) (pc' := 112) rfl rfl rfl rfl ?_
        refine mr_iload (pc' := 113) rfl rfl rfl ?_
        obtain ⟨h0, h1, h⟩ := h
        refine mr_iald (pc' := 114) rfl rfl rfl h0 h1 ?_
        refine mr_const (pc' := 116) rfl rfl (by unfold mj_r; decide) ?_
        refine mr_ic_ne (pc' := 119) rfl rfl (fun c => ?_) (fun c => ?_)
        · replace h := h.1 c
          refine mr_aload (pc' := 130) rfl rfl rfl ?_
          refine mr_getr (ci := 0) (pc' := 133) rfl rfl rfl rfl ?_
          refine mr_aload (pc' := 134) rfl rfl rfl ?_
          refine mr_getr (ci := 0) (pc' := 137) rfl rfl rfl rfl ?_
          refine mr_iload (pc' := 138) rfl rfl rfl ?_
          obtain ⟨h0, h1, h⟩ := h
          refine mr_iald (pc' := 139) rfl rfl rfl h0 h1 ?_
          refine mr_const (pc' := 141) rfl rfl (by unfold mj_r; decide) ?_
          obtain ⟨h0, h⟩ := h
          refine mr_isub (pc' := 142) rfl rfl h0 ?_
          refine mr_iload (pc' := 143) rfl rfl rfl ?_
          obtain ⟨h0, h1, h⟩ := h
          refine mr_iast (pc' := 144) rfl rfl rfl h0 h1 (fun σ2 e9 => ?_)
          replace h := h σ2 e9
          refine mr_aload (pc' := 145) rfl rfl rfl ?_
          refine mr_getr (ci := 0) (pc' := 148) rfl rfl rfl rfl ?_
          refine mr_iload (pc' := 149) rfl rfl rfl ?_
          refine mr_iload (pc' := 150) rfl rfl rfl ?_
          obtain ⟨h0, h1, h⟩ := h
          refine mr_iast (pc' := 151) rfl rfl rfl h0 h1 (fun σ3 e9 => ?_)
          replace h := h σ3 e9
          refine mr_const (pc' := 153) rfl rfl (by unfold mj_r; decide) ?_
          exact mr_iret rfl rfl trivial h
        · replace h := h.2 c
          refine mr_aload (pc' := 120) rfl rfl rfl ?_
          refine mr_getr (ci := 0) (pc' := 123) rfl rfl rfl rfl ?_
          refine mr_iload (pc' := 124) rfl rfl rfl ?_
          refine mr_iload (pc' := 125) rfl rfl rfl ?_
          obtain ⟨h0, h1, h⟩ := h
          refine mr_iast (pc' := 126) rfl rfl rfl h0 h1 (fun σ4 e9 => ?_)
          replace h := h σ4 e9
          refine mr_goto rfl ?_
          refine mr_aload (pc' := 145) rfl rfl rfl ?_
          refine mr_getr (ci := 0) (pc' := 148) rfl rfl rfl rfl ?_
          refine mr_iload (pc' := 149) rfl rfl rfl ?_
          refine mr_iload (pc' := 150) rfl rfl rfl ?_
          obtain ⟨h0, h1, h⟩ := h
          refine mr_iast (pc' := 151) rfl rfl rfl h0 h1 (fun σ5 e9 => ?_)
          replace h := h σ5 e9
          refine mr_const (pc' := 153) rfl rfl (by unfold mj_r; decide) ?_
          exact mr_iret rfl rfl trivial h
      · replace h := h.2 c
        refine mr_const (pc' := 107) rfl rfl (by unfold mj_r; decide) ?_
        exact mr_iret rfl rfl trivial h
    · replace h := h.2 c
      refine mr_aload (pc' := 66) rfl rfl rfl ?_
      refine mr_getr (ci := 0) (pc' := 69) rfl rfl rfl rfl ?_
      refine mr_aload (pc' := 70) rfl rfl rfl ?_
      refine mr_getr (ci := 0) (pc' := 73) rfl rfl rfl rfl ?_
      refine mr_iload (pc' := 74) rfl rfl rfl ?_
      obtain ⟨h0, h1, h⟩ := h
      refine mr_iald (pc' := 75) rfl rfl rfl h0 h1 ?_
      refine mr_const (pc' := 77) rfl rfl (by unfold mj_r; decide) ?_
      obtain ⟨h0, h⟩ := h
      refine mr_isub (pc' := 78) rfl rfl h0 ?_
      refine mr_iload (pc' := 79) rfl rfl rfl ?_
      obtain ⟨h0, h1, h⟩ := h
      refine mr_iast (pc' := 80) rfl rfl rfl h0 h1 (fun σ6 e9 => ?_)
      replace h := h σ6 e9
      refine mr_aload (pc' := 81) rfl rfl rfl ?_
      refine mr_getr (ci := 0) (pc' := 84) rfl rfl rfl rfl ?_
      refine mr_iload (pc' := 85) rfl rfl rfl ?_
      refine mr_const (pc' := 86) rfl rfl (by unfold mj_r; decide) ?_
      obtain ⟨h0, h1, h⟩ := h
      refine mr_iast (pc' := 87) rfl rfl rfl h0 h1 (fun σ7 e9 => ?_)
      replace h := h σ7 e9
      refine mr_const (pc' := 89) rfl rfl (by unfold mj_r; decide) ?_
      exact mr_iret rfl rfl trivial h
  · replace h := h.2 c
    refine mr_aload (pc' := 18) rfl rfl rfl ?_
    refine mr_dup (pc' := 19) rfl rfl trivial ?_
    refine mr_get (ci := 0) (pc' := 22) rfl rfl rfl rfl ?_
    refine mr_const (pc' := 23) rfl rfl (by unfold mj_r; decide) ?_
    obtain ⟨h0, h⟩ := h
    refine mr_isub (pc' := 24) rfl rfl h0 ?_
    refine mr_put (pc' := 27) rfl rfl rfl rfl (fun σ8 e9 => ?_)
    replace h := h σ8 e9
    refine mr_aload (pc' := 28) rfl rfl rfl ?_
    refine mr_iload (pc' := 29) rfl rfl rfl ?_
    refine mr_const (pc' := 31) rfl rfl (by unfold mj_r; decide) ?_
    obtain ⟨h0, h1, h⟩ := h
    refine mr_call (t := [(9, 0)]) (pc' := 34) rfl [.inr (.inl 0), .inl x1, .inl 268435456] rfl rfl rfl (mj_recvV rfl) (Nat.le_of_ble_eq_true rfl) (s_m18 h0 h1 (fun σ9 e9 => ?_))
    replace h := h σ9 e9
    refine mr_istore (pc' := 35) rfl rfl trivial (Nat.le_of_ble_eq_true rfl) rfl ?_
    refine mr_aload (pc' := 36) rfl rfl rfl ?_
    refine mr_get (ci := 0) (pc' := 39) rfl rfl rfl rfl ?_
    refine mr_if_le (pc' := 42) rfl rfl (fun c => ?_) (fun c => ?_)
    · replace h := h.1 c
      refine mr_aload (pc' := 48) rfl rfl rfl ?_
      refine mr_const (pc' := 50) rfl rfl (by unfold mj_r; decide) ?_
      refine mr_iload (pc' := 51) rfl rfl rfl ?_
      obtain ⟨h0, h1, h⟩ := h
      refine mr_call (t := [(9, 0)]) (pc' := 54) rfl [.inr (.inl 0), .inl 268435458, .inl (if σ8 0 11 = 400 then 268435456 else 536870912 + σ8 0 11)] rfl rfl rfl (mj_recvV rfl) (Nat.le_of_ble_eq_true rfl) (s_m18 h0 h1 (fun σ10 e9 => ?_))
      replace h := h σ10 e9
      exact mr_iret rfl rfl trivial h
    · replace h := h.2 c
      refine mr_const (pc' := 44) rfl rfl (by unfold mj_r; decide) ?_
      refine mr_goto rfl ?_
      exact mr_iret rfl rfl trivial h
def qh_m26_7 (d : Nat) (Q : mj_Q) (y1 y2 : Int) (σ : mj_S) : Prop := mj_P mjm_L mjm_Ms d mjmo26 ((Option.some Jvm.ClassFile.FieldType.int)) Q 7 [some (.inr (.inl 0)), some (.inl y1), some (.inl y2)] [] σ
set_option maxRecDepth 20000 in
theorem qw_m26_7 {d : Nat} {Q : mj_Q} {y1 y2 : Int} {σ : mj_S} (h : (y2 < (σ 0 36) → Q (some (.inl (-1))) σ) ∧ ((σ 0 36) ≤ y2 → 0 ≤ y2 ∧ y2 < 400 ∧ (¬ (σ 21 y2.toNat) = y1 → mj_r (y2 + (-1)) ∧ qh_m26_7 d Q y1 (y2 + (-1)) σ) ∧ ((σ 21 y2.toNat) = y1 → 0 ≤ y2 ∧ y2 < 400 ∧ Q (some (.inl (σ 22 y2.toNat))) σ))) : qh_m26_7 d Q y1 y2 σ := by
  show mj_P mjm_L mjm_Ms d mjmo26 ((Option.some Jvm.ClassFile.FieldType.int)) Q 7 [some (.inr (.inl 0)), some (.inl y1), some (.inl y2)] [] σ
  refine mr_iload (pc' := 8) rfl rfl rfl ?_
  refine mr_aload (pc' := 9) rfl rfl rfl ?_
  refine mr_get (ci := 0) (pc' := 12) rfl rfl rfl rfl ?_
  refine mr_ic_lt (pc' := 15) rfl rfl (fun c => ?_) (fun c => ?_)
  · replace h := h.1 c
    refine mr_const (pc' := 39) rfl rfl (by unfold mj_r; decide) ?_
    exact mr_iret rfl rfl trivial h
  · replace h := h.2 c
    refine mr_aload (pc' := 16) rfl rfl rfl ?_
    refine mr_getr (ci := 0) (pc' := 19) rfl rfl rfl rfl ?_
    refine mr_iload (pc' := 20) rfl rfl rfl ?_
    obtain ⟨h0, h1, h⟩ := h
    refine mr_iald (pc' := 21) rfl rfl rfl h0 h1 ?_
    refine mr_iload (pc' := 22) rfl rfl rfl ?_
    refine mr_ic_ne (pc' := 25) rfl rfl (fun c => ?_) (fun c => ?_)
    · replace h := h.1 c
      obtain ⟨h0, h⟩ := h
      refine mr_iinc (pc' := 35) rfl rfl rfl trivial h0 rfl ?_
      refine mr_goto rfl ?_
      exact mj_W_ls (mj_B_mono _) (mj_lev_of _ _ (by simp [mj_levb])) h
    · replace h := h.2 c
      refine mr_aload (pc' := 26) rfl rfl rfl ?_
      refine mr_getr (ci := 0) (pc' := 29) rfl rfl rfl rfl ?_
      refine mr_iload (pc' := 30) rfl rfl rfl ?_
      obtain ⟨h0, h1, h⟩ := h
      refine mr_iald (pc' := 31) rfl rfl rfl h0 h1 ?_
      exact mr_iret rfl rfl trivial h
set_option maxRecDepth 20000 in
/-- ListSpeakerModel.find_ -/
theorem wq_m26 {d : Nat} {σ : mj_S} {Q : mj_Q} {x1 : Int} (h : mj_r ((σ 0 33) - 1) ∧ qh_m26_7 d Q x1 ((σ 0 33) - 1) σ) : mj_B mjm_L mjm_Ms (d + 1) 26 [.inr (.inl 0), .inl x1] σ Q := by
  refine mj_B_of (M := mjmM26) (ls := [some (.inr (.inl 0)), some (.inl x1), none]) rfl (mj_c1_all rfl) (Nat.le_of_ble_eq_true rfl) rfl ?_
  refine mr_aload (pc' := 1) rfl rfl rfl ?_
  refine mr_get (ci := 0) (pc' := 4) rfl rfl rfl rfl ?_
  refine mr_const (pc' := 5) rfl rfl (by unfold mj_r; decide) ?_
  obtain ⟨h0, h⟩ := h
  refine mr_isub (pc' := 6) rfl rfl h0 ?_
  refine mr_istore (pc' := 7) rfl rfl trivial (Nat.le_of_ble_eq_true rfl) rfl ?_
  exact mj_W_ls (mj_B_mono _) (mj_lev_of _ _ (by simp [mj_levb])) h
def qh_m27_14 (d : Nat) (Q : mj_Q) (y1 : Int) (σ : mj_S) : Prop := mj_P mjm_L mjm_Ms d mjmo27 ((Option.none : Option Jvm.ClassFile.FieldType)) Q 14 [some (.inr (.inl 0)), some (.inl y1), none, none, none] [] σ
set_option maxRecDepth 20000 in
theorem qw_m27_14 {d : Nat} {Q : mj_Q} {y1 : Int} {σ : mj_S} (h : ((σ 0 26) ≤ 0 → Q none σ) ∧ (0 < (σ 0 26) → (¬ (σ 0 5) = 0 → Q none σ) ∧ ((σ 0 5) = 0 → mj_r ((σ 0 26) - 1) ∧ ∀ σ1, σ1 = mj_up σ 0 26 ((σ 0 26) - 1) → 0 ≤ (σ1 0 26) ∧ (σ1 0 26) < 3000 ∧ 0 ≤ (σ1 0 26) ∧ (σ1 0 26) < 3000 ∧ (¬ (σ1 16 (σ1 0 26).toNat) = 16 → 0 ≤ (σ1 0 26) ∧ (σ1 0 26) < 3000 ∧ (¬ (σ1 16 (σ1 0 26).toNat) = 18 → 0 ≤ (σ1 0 26) ∧ (σ1 0 26) < 3000 ∧ (¬ (σ1 16 (σ1 0 26).toNat) = 17 → (¬ (536870912 ≤ (σ1 17 (σ1 0 26).toNat)) → qh_m27_14 (d + 1) Q y1 σ1) ∧ (536870912 ≤ (σ1 17 (σ1 0 26).toNat) → 0 ≤ (σ1 0 26) ∧ (σ1 0 26) < 3000 ∧ z_pr (σ1 17 (σ1 0 26).toNat) ∧ z_pr (σ1 17 (σ1 0 26).toNat) ∧ 0 ≤ σ1 0 26 ∧ σ1 0 26 < 3000 ∧ mj_fit .boolean 0 ∧ ∀ σ2, σ2 = z_la σ1 2 (z_cd (σ1 5) (σ1 17 (σ1 0 26).toNat)) (σ1 18 (σ1 0 26).toNat) 0 → (¬ (σ1 18 (σ1 0 26).toNat) = 2 → (¬ (σ1 18 (σ1 0 26).toNat) = 0 → (¬ (σ1 18 (σ1 0 26).toNat) = 1 → z_pr (z_cd (σ1 4) (σ1 17 (σ1 0 26).toNat)) ∧ 0 ≤ σ2 0 26 ∧ σ2 0 26 < 3000 ∧ mj_fit .boolean 0 ∧ ∀ σ3, σ3 = z_la σ2 16 (z_cd (σ2 4) (z_cd (σ1 4) (σ1 17 (σ1 0 26).toNat))) 0 0 → qh_m27_14 (d + 1) Q y1 σ3) ∧ ((σ1 18 (σ1 0 26).toNat) = 1 → mj_B mjm_L mjm_Ms (d + 1) 8 [.inr (.inl 0), .inl (z_cd (σ1 4) (σ1 17 (σ1 0 26).toNat)), .inl 1] σ2 (fun r σ4 => ∃ v5, r = some (.inl v5) ∧ 0 ≤ σ4 0 26 ∧ σ4 0 26 < 3000 ∧ mj_fit .boolean 0 ∧ ∀ σ6, σ6 = z_la σ4 16 v5 0 0 → qh_m27_14 (d + 1) Q y1 σ6))) ∧ ((σ1 18 (σ1 0 26).toNat) = 0 → 0 ≤ σ2 0 26 ∧ σ2 0 26 < 3000 ∧ mj_fit .boolean 0 ∧ ∀ σ7, σ7 = z_la σ2 16 (z_cd (σ1 4) (σ1 17 (σ1 0 26).toNat)) 0 0 → qh_m27_14 (d + 1) Q y1 σ7)) ∧ ((σ1 18 (σ1 0 26).toNat) = 2 → mj_B mjm_L mjm_Ms (d + 1) 8 [.inr (.inl 0), .inl (z_cd (σ1 4) (σ1 17 (σ1 0 26).toNat)), .inl 1] σ2 (fun r σ8 => ∃ v9, r = some (.inl v9) ∧ 0 ≤ σ8 0 26 ∧ σ8 0 26 < 3000 ∧ mj_fit .boolean 0 ∧ ∀ σ10, σ10 = z_la σ8 16 v9 0 0 → (¬ (σ1 18 (σ1 0 26).toNat) = 0 → (¬ (σ1 18 (σ1 0 26).toNat) = 1 → z_pr (z_cd (σ1 4) (σ1 17 (σ1 0 26).toNat)) ∧ 0 ≤ σ10 0 26 ∧ σ10 0 26 < 3000 ∧ mj_fit .boolean 0 ∧ ∀ σ11, σ11 = z_la σ10 16 (z_cd (σ10 4) (z_cd (σ1 4) (σ1 17 (σ1 0 26).toNat))) 0 0 → qh_m27_14 (d + 1) Q y1 σ11) ∧ ((σ1 18 (σ1 0 26).toNat) = 1 → mj_B mjm_L mjm_Ms (d + 1) 8 [.inr (.inl 0), .inl (z_cd (σ1 4) (σ1 17 (σ1 0 26).toNat)), .inl 1] σ10 (fun r σ12 => ∃ v13, r = some (.inl v13) ∧ 0 ≤ σ12 0 26 ∧ σ12 0 26 < 3000 ∧ mj_fit .boolean 0 ∧ ∀ σ14, σ14 = z_la σ12 16 v13 0 0 → qh_m27_14 (d + 1) Q y1 σ14))) ∧ ((σ1 18 (σ1 0 26).toNat) = 0 → 0 ≤ σ10 0 26 ∧ σ10 0 26 < 3000 ∧ mj_fit .boolean 0 ∧ ∀ σ15, σ15 = z_la σ10 16 (z_cd (σ1 4) (σ1 17 (σ1 0 26).toNat)) 0 0 → qh_m27_14 (d + 1) Q y1 σ15))))) ∧ ((σ1 16 (σ1 0 26).toNat) = 17 → mj_B mjm_L mjm_Ms (d + 1) 28 [.inr (.inl 0), .inl (σ1 17 (σ1 0 26).toNat)] σ1 (fun r σ16 => r = none ∧ qh_m27_14 (d + 1) Q y1 σ16))) ∧ ((σ1 16 (σ1 0 26).toNat) = 18 → 0 ≤ (σ1 0 26) ∧ (σ1 0 26) < 3000 ∧ mj_r ((σ1 0 33) - (σ1 18 (σ1 0 26).toNat)) ∧ ∀ σ17, σ17 = mj_up σ1 0 33 ((σ1 0 33) - (σ1 18 (σ1 0 26).toNat)) → qh_m27_14 (d + 1) Q y1 σ17)) ∧ ((σ1 16 (σ1 0 26).toNat) = 16 → mj_B mjm_L mjm_Ms (d + 1) 29 [.inr (.inl 0), .inl (σ1 17 (σ1 0 26).toNat)] σ1 (fun r σ18 => r = none ∧ qh_m27_14 (d + 1) Q y1 σ18))))) : qh_m27_14 (d + 1) Q y1 σ := by
  show mj_P mjm_L mjm_Ms (d + 1) mjmo27 ((Option.none : Option Jvm.ClassFile.FieldType)) Q 14 [some (.inr (.inl 0)), some (.inl y1), none, none, none] [] σ
  refine mr_aload (pc' := 15) rfl rfl rfl ?_
  refine mr_get (ci := 0) (pc' := 18) rfl rfl rfl rfl ?_
  refine mr_if_le (pc' := 21) rfl rfl (fun c => ?_) (fun c => ?_)
  · replace h := h.1 c
    exact mr_ret rfl rfl h
  · replace h := h.2 c
    refine mr_aload (pc' := 22) rfl rfl rfl ?_
    refine mr_get (ci := 0) (pc' := 25) rfl rfl rfl rfl ?_
    refine mr_if_ne (pc' := 28) rfl rfl (fun c => ?_) (fun c => ?_)
    · replace h := h.1 c
      exact mr_ret rfl rfl h
    · replace h := h.2 c
      refine mr_aload (pc' := 29) rfl rfl rfl ?_
      refine mr_dup (pc' := 30) rfl rfl trivial ?_
      refine mr_get (ci := 0) (pc' := 33) rfl rfl rfl rfl ?_
      refine mr_const (pc' := 34) rfl rfl (by unfold mj_r; decide) ?_
      obtain ⟨h0, h⟩ := h
      refine mr_isub (pc' := 35) rfl rfl h0 ?_
      refine mr_put (pc' := 38) rfl rfl rfl rfl (fun σ1 e9 => ?_)
      replace h := h σ1 e9
      refine mr_aload (pc' := 39) rfl rfl rfl ?_
      refine mr_getr (ci := 0) (pc' := 42) rfl rfl rfl rfl ?_
      refine mr_aload (pc' := 43) rfl rfl rfl ?_
      refine mr_get (ci := 0) (pc' := 46) rfl rfl rfl rfl ?_
      obtain ⟨h0, h1, h⟩ := h
      refine mr_iald (pc' := 47) rfl rfl rfl h0 h1 ?_
      refine mr_istore (pc' := 48) rfl rfl trivial (Nat.le_of_ble_eq_true rfl) rfl ?_
      refine mr_aload (pc' := 49) rfl rfl rfl ?_
      refine mr_getr (ci := 0) (pc' := 52) rfl rfl rfl rfl ?_
      refine mr_aload (pc' := 53) rfl rfl rfl ?_
      refine mr_get (ci := 0) (pc' := 56) rfl rfl rfl rfl ?_
      obtain ⟨h0, h1, h⟩ := h
      refine mr_iald (pc' := 57) rfl rfl rfl h0 h1 ?_
      refine mr_const (pc' := 59) rfl rfl (by unfold mj_r; decide) ?_
      refine mr_ic_ne (pc' := 62) rfl rfl (fun c => ?_) (fun c => ?_)
      · replace h := h.1 c
        refine mr_aload (pc' := 71) rfl rfl rfl ?_
        refine mr_getr (ci := 0) (pc' := 74) rfl rfl rfl rfl ?_
        refine mr_aload (pc' := 75) rfl rfl rfl ?_
        refine mr_get (ci := 0) (pc' := 78) rfl rfl rfl rfl ?_
        obtain ⟨h0, h1, h⟩ := h
        refine mr_iald (pc' := 79) rfl rfl rfl h0 h1 ?_
        refine mr_const (pc' := 81) rfl rfl (by unfold mj_r; decide) ?_
        refine mr_ic_ne (pc' := 84) rfl rfl (fun c => ?_) (fun c => ?_)
        · replace h := h.1 c
          refine mr_aload (pc' := 106) rfl rfl rfl ?_
          refine mr_getr (ci := 0) (pc' := 109) rfl rfl rfl rfl ?_
          refine mr_aload (pc' := 110) rfl rfl rfl ?_
          refine mr_get (ci := 0) (pc' := 113) rfl rfl rfl rfl ?_
          obtain ⟨h0, h1, h⟩ := h
          refine mr_iald (pc' := 114) rfl rfl rfl h0 h1 ?_
          refine mr_const (pc' := 116) rfl rfl (by unfold mj_r; decide) ?_
          refine mr_ic_ne (pc' := 119) rfl rfl (fun c => ?_) (fun c => ?_)
          · replace h := h.1 c
            refine mr_iload (pc' := 128) rfl rfl rfl ?_
            refine mr_call (t := []) (pc' := 131) rfl [.inl (σ1 17 (σ1 0 26).toNat)] rfl rfl rfl trivial (Nat.le_of_ble_eq_true rfl) (s_m3  ?_)
            refine mr_if_eq (pc' := 134) rfl rfl (fun c => ?_) (fun c => ?_)
            · replace h := h.1 (bo_0 c)
              refine mr_goto rfl ?_
              exact mj_W_ls (mj_B_mono _) (mj_lev_of _ _ (by simp [mj_levb])) h
            · replace h := h.2 (bo_1 c)
              refine mr_aload (pc' := 135) rfl rfl rfl ?_
              refine mr_getr (ci := 0) (pc' := 138) rfl rfl rfl rfl ?_
              refine mr_aload (pc' := 139) rfl rfl rfl ?_
              refine mr_get (ci := 0) (pc' := 142) rfl rfl rfl rfl ?_
              obtain ⟨h0, h1, h⟩ := h
              refine mr_iald (pc' := 143) rfl rfl rfl h0 h1 ?_
              refine mr_istore (pc' := 144) rfl rfl trivial (Nat.le_of_ble_eq_true rfl) rfl ?_
              refine mr_aload (pc' := 145) rfl rfl rfl ?_
              refine mr_iload (pc' := 146) rfl rfl rfl ?_
              obtain ⟨h0, h⟩ := h
              refine mr_call (t := [(9, 0)]) (pc' := 149) rfl [.inr (.inl 0), .inl (σ1 17 (σ1 0 26).toNat)] rfl rfl rfl (mj_recvV rfl) (Nat.le_of_ble_eq_true rfl) (s_m5 h0 ?_)
              refine mr_istore (pc' := 151) rfl rfl trivial (Nat.le_of_ble_eq_true rfl) rfl ?_
              refine mr_aload (pc' := 152) rfl rfl rfl ?_
              refine mr_const (pc' := 153) rfl rfl (by unfold mj_r; decide) ?_
              refine mr_aload (pc' := 154) rfl rfl rfl ?_
              refine mr_iload (pc' := 155) rfl rfl rfl ?_
              obtain ⟨h0, h⟩ := h
              refine mr_call (t := [(9, 0)]) (pc' := 158) rfl [.inr (.inl 0), .inl (σ1 17 (σ1 0 26).toNat)] rfl rfl rfl (mj_recvV rfl) (Nat.le_of_ble_eq_true rfl) (s_m6 h0 ?_)
              refine mr_iload (pc' := 159) rfl rfl rfl ?_
              refine mr_const (pc' := 160) rfl rfl (by unfold mj_r; decide) ?_
              obtain ⟨h0, h1, h2, h⟩ := h
              refine mr_call (t := [(9, 0)]) (pc' := 163) rfl [.inr (.inl 0), .inl 2, .inl (z_cd (σ1 5) (σ1 17 (σ1 0 26).toNat)), .inl (σ1 18 (σ1 0 26).toNat), .inl 0] rfl rfl rfl (mj_recvV rfl) (Nat.le_of_ble_eq_true rfl) (s_m24 h0 h1 h2 (fun σ2 e9 => ?_))
              replace h := h σ2 e9
              refine mr_iload (pc' := 164) rfl rfl rfl ?_
              refine mr_const (pc' := 165) rfl rfl (by unfold mj_r; decide) ?_
              refine mr_ic_ne (pc' := 168) rfl rfl (fun c => ?_) (fun c => ?_)
              · replace h := h.1 c
                refine mr_aload (pc' := 184) rfl rfl rfl ?_
                refine mr_const (pc' := 186) rfl rfl (by unfold mj_r; decide) ?_
                refine mr_iload (pc' := 187) rfl rfl rfl ?_
                refine mr_if_ne (pc' := 190) rfl rfl (fun c => ?_) (fun c => ?_)
                · replace h := h.1 c
                  refine mr_iload (pc' := 196) rfl rfl rfl ?_
                  refine mr_const (pc' := 197) rfl rfl (by unfold mj_r; decide) ?_
                  refine mr_ic_ne (pc' := 200) rfl rfl (fun c => ?_) (fun c => ?_)
                  · replace h := h.1 c
                    refine mr_aload (pc' := 211) rfl rfl rfl ?_
                    refine mr_iload (pc' := 213) rfl rfl rfl ?_
                    obtain ⟨h0, h⟩ := h
                    refine mr_call (t := [(9, 0)]) (pc' := 216) rfl [.inr (.inl 0), .inl (z_cd (σ1 4) (σ1 17 (σ1 0 26).toNat))] rfl rfl rfl (mj_recvV rfl) (Nat.le_of_ble_eq_true rfl) (s_m5 h0 ?_)
                    refine mr_const (pc' := 217) rfl rfl (by unfold mj_r; decide) ?_
                    refine mr_const (pc' := 218) rfl rfl (by unfold mj_r; decide) ?_
                    obtain ⟨h0, h1, h2, h⟩ := h
                    refine mr_call (t := [(9, 0)]) (pc' := 221) rfl [.inr (.inl 0), .inl 16, .inl (z_cd (σ2 4) (z_cd (σ1 4) (σ1 17 (σ1 0 26).toNat))), .inl 0, .inl 0] rfl rfl rfl (mj_recvV rfl) (Nat.le_of_ble_eq_true rfl) (s_m24 h0 h1 h2 (fun σ3 e9 => ?_))
                    replace h := h σ3 e9
                    refine mr_goto rfl ?_
                    exact mj_W_ls (mj_B_mono _) (mj_lev_of _ _ (by simp [mj_levb])) h
                  · replace h := h.2 c
                    refine mr_aload (pc' := 201) rfl rfl rfl ?_
                    refine mr_iload (pc' := 203) rfl rfl rfl ?_
                    refine mr_const (pc' := 204) rfl rfl (by unfold mj_r; decide) ?_
                    refine mr_call (t := [(9, 0)]) (pc' := 207) rfl [.inr (.inl 0), .inl (z_cd (σ1 4) (σ1 17 (σ1 0 26).toNat)), .inl 1] rfl rfl rfl (mj_recvV rfl) (Nat.le_of_ble_eq_true rfl) (mj_B_mono _ _ _ _ _ _ (fun r σ4 h => ?_) h)
                    obtain ⟨v5, rfl, h⟩ := h
                    refine mr_goto rfl ?_
                    refine mr_const (pc' := 217) rfl rfl (by unfold mj_r; decide) ?_
                    refine mr_const (pc' := 218) rfl rfl (by unfold mj_r; decide) ?_
                    obtain ⟨h0, h1, h2, h⟩ := h
                    refine mr_call (t := [(9, 0)]) (pc' := 221) rfl [.inr (.inl 0), .inl 16, .inl v5, .inl 0, .inl 0] rfl rfl rfl (mj_recvV rfl) (Nat.le_of_ble_eq_true rfl) (s_m24 h0 h1 h2 (fun σ6 e9 => ?_))
                    replace h := h σ6 e9
                    refine mr_goto rfl ?_
                    exact mj_W_ls (mj_B_mono _) (mj_lev_of _ _ (by simp [mj_levb])) h
                · replace h := h.2 c
                  refine mr_iload (pc' := 192) rfl rfl rfl ?_
                  refine mr_goto rfl ?_
                  refine mr_const (pc' := 217) rfl rfl (by unfold mj_r; decide) ?_
                  refine mr_const (pc' := 218) rfl rfl (by unfold mj_r; decide) ?_
                  obtain ⟨h0, h1, h2, h⟩ := h
                  refine mr_call (t := [(9, 0)]) (pc' := 221) rfl [.inr (.inl 0), .inl 16, .inl (z_cd (σ1 4) (σ1 17 (σ1 0 26).toNat)), .inl 0, .inl 0] rfl rfl rfl (mj_recvV rfl) (Nat.le_of_ble_eq_true rfl) (s_m24 h0 h1 h2 (fun σ7 e9 => ?_))
                  replace h := h σ7 e9
                  refine mr_goto rfl ?_
                  exact mj_W_ls (mj_B_mono _) (mj_lev_of _ _ (by simp [mj_levb])) h
              · replace h := h.2 c
                refine mr_aload (pc' := 169) rfl rfl rfl ?_
                refine mr_const (pc' := 171) rfl rfl (by unfold mj_r; decide) ?_
                refine mr_aload (pc' := 172) rfl rfl rfl ?_
                refine mr_iload (pc' := 174) rfl rfl rfl ?_
                refine mr_const (pc' := 175) rfl rfl (by unfold mj_r; decide) ?_
                refine mr_call (t := [(9, 0)]) (pc' := 178) rfl [.inr (.inl 0), .inl (z_cd (σ1 4) (σ1 17 (σ1 0 26).toNat)), .inl 1] rfl rfl rfl (mj_recvV rfl) (Nat.le_of_ble_eq_true rfl) (mj_B_mono _ _ _ _ _ _ (fun r σ8 h => ?_) h)
                obtain ⟨v9, rfl, h⟩ := h
                refine mr_const (pc' := 179) rfl rfl (by unfold mj_r; decide) ?_
                refine mr_const (pc' := 180) rfl rfl (by unfold mj_r; decide) ?_
                obtain ⟨h0, h1, h2, h⟩ := h
                refine mr_call (t := [(9, 0)]) (pc' := 183) rfl [.inr (.inl 0), .inl 16, .inl v9, .inl 0, .inl 0] rfl rfl rfl (mj_recvV rfl) (Nat.le_of_ble_eq_true rfl) (s_m24 h0 h1 h2 (fun σ10 e9 => ?_))
                replace h := h σ10 e9
                refine mr_aload (pc' := 184) rfl rfl rfl ?_
                refine mr_const (pc' := 186) rfl rfl (by unfold mj_r; decide) ?_
                refine mr_iload (pc' := 187) rfl rfl rfl ?_
                refine mr_if_ne (pc' := 190) rfl rfl (fun c => ?_) (fun c => ?_)
                · replace h := h.1 c
                  refine mr_iload (pc' := 196) rfl rfl rfl ?_
                  refine mr_const (pc' := 197) rfl rfl (by unfold mj_r; decide) ?_
                  refine mr_ic_ne (pc' := 200) rfl rfl (fun c => ?_) (fun c => ?_)
                  · replace h := h.1 c
                    refine mr_aload (pc' := 211) rfl rfl rfl ?_
                    refine mr_iload (pc' := 213) rfl rfl rfl ?_
                    obtain ⟨h0, h⟩ := h
                    refine mr_call (t := [(9, 0)]) (pc' := 216) rfl [.inr (.inl 0), .inl (z_cd (σ1 4) (σ1 17 (σ1 0 26).toNat))] rfl rfl rfl (mj_recvV rfl) (Nat.le_of_ble_eq_true rfl) (s_m5 h0 ?_)
                    refine mr_const (pc' := 217) rfl rfl (by unfold mj_r; decide) ?_
                    refine mr_const (pc' := 218) rfl rfl (by unfold mj_r; decide) ?_
                    obtain ⟨h0, h1, h2, h⟩ := h
                    refine mr_call (t := [(9, 0)]) (pc' := 221) rfl [.inr (.inl 0), .inl 16, .inl (z_cd (σ10 4) (z_cd (σ1 4) (σ1 17 (σ1 0 26).toNat))), .inl 0, .inl 0] rfl rfl rfl (mj_recvV rfl) (Nat.le_of_ble_eq_true rfl) (s_m24 h0 h1 h2 (fun σ11 e9 => ?_))
                    replace h := h σ11 e9
                    refine mr_goto rfl ?_
                    exact mj_W_ls (mj_B_mono _) (mj_lev_of _ _ (by simp [mj_levb])) h
                  · replace h := h.2 c
                    refine mr_aload (pc' := 201) rfl rfl rfl ?_
                    refine mr_iload (pc' := 203) rfl rfl rfl ?_
                    refine mr_const (pc' := 204) rfl rfl (by unfold mj_r; decide) ?_
                    refine mr_call (t := [(9, 0)]) (pc' := 207) rfl [.inr (.inl 0), .inl (z_cd (σ1 4) (σ1 17 (σ1 0 26).toNat)), .inl 1] rfl rfl rfl (mj_recvV rfl) (Nat.le_of_ble_eq_true rfl) (mj_B_mono _ _ _ _ _ _ (fun r σ12 h => ?_) h)
                    obtain ⟨v13, rfl, h⟩ := h
                    refine mr_goto rfl ?_
                    refine mr_const (pc' := 217) rfl rfl (by unfold mj_r; decide) ?_
                    refine mr_const (pc' := 218) rfl rfl (by unfold mj_r; decide) ?_
                    obtain ⟨h0, h1, h2, h⟩ := h
                    refine mr_call (t := [(9, 0)]) (pc' := 221) rfl [.inr (.inl 0), .inl 16, .inl v13, .inl 0, .inl 0] rfl rfl rfl (mj_recvV rfl) (Nat.le_of_ble_eq_true rfl) (s_m24 h0 h1 h2 (fun σ14 e9 => ?_))
                    replace h := h σ14 e9
                    refine mr_goto rfl ?_
                    exact mj_W_ls (mj_B_mono _) (mj_lev_of _ _ (by simp [mj_levb])) h
                · replace h := h.2 c
                  refine mr_iload (pc' := 192) rfl rfl rfl ?_
                  refine mr_goto rfl ?_
                  refine mr_const (pc' := 217) rfl rfl (by unfold mj_r; decide) ?_
                  refine mr_const (pc' := 218) rfl rfl (by unfold mj_r; decide) ?_
                  obtain ⟨h0, h1, h2, h⟩ := h
                  refine mr_call (t := [(9, 0)]) (pc' := 221) rfl [.inr (.inl 0), .inl 16, .inl (z_cd (σ1 4) (σ1 17 (σ1 0 26).toNat)), .inl 0, .inl 0] rfl rfl rfl (mj_recvV rfl) (Nat.le_of_ble_eq_true rfl) (s_m24 h0 h1 h2 (fun σ15 e9 => ?_))
                  replace h := h σ15 e9
                  refine mr_goto rfl ?_
                  exact mj_W_ls (mj_B_mono _) (mj_lev_of _ _ (by simp [mj_levb])) h
          · replace h := h.2 c
            refine mr_aload (pc' := 120) rfl rfl rfl ?_
            refine mr_iload (pc' := 121) rfl rfl rfl ?_
            refine mr_call (t := [(9, 0)]) (pc' := 124) rfl [.inr (.inl 0), .inl (σ1 17 (σ1 0 26).toNat)] rfl rfl rfl (mj_recvV rfl) (Nat.le_of_ble_eq_true rfl) (mj_B_mono _ _ _ _ _ _ (fun r σ16 h => ?_) h)
            obtain ⟨rfl, h⟩ := h
            refine mr_goto rfl ?_
            refine mr_goto rfl ?_
            exact mj_W_ls (mj_B_mono _) (mj_lev_of _ _ (by simp [mj_levb])) h
        · replace h := h.2 c
          refine mr_aload (pc' := 85) rfl rfl rfl ?_
          refine mr_dup (pc' := 86) rfl rfl trivial ?_
          refine mr_get (ci := 0) (pc' := 89) rfl rfl rfl rfl ?_
          refine mr_aload (pc' := 90) rfl rfl rfl ?_
          refine mr_getr (ci := 0) (pc' := 93) rfl rfl rfl rfl ?_
          refine mr_aload (pc' := 94) rfl rfl rfl ?_
          refine mr_get (ci := 0) (pc' := 97) rfl rfl rfl rfl ?_
          obtain ⟨h0, h1, h⟩ := h
          refine mr_iald (pc' := 98) rfl rfl rfl h0 h1 ?_
          obtain ⟨h0, h⟩ := h
          refine mr_isub (pc' := 99) rfl rfl h0 ?_
          refine mr_put (pc' := 102) rfl rfl rfl rfl (fun σ17 e9 => ?_)
          replace h := h σ17 e9
          refine mr_goto rfl ?_
          refine mr_goto rfl ?_
          exact mj_W_ls (mj_B_mono _) (mj_lev_of _ _ (by simp [mj_levb])) h
      · replace h := h.2 c
        refine mr_aload (pc' := 63) rfl rfl rfl ?_
        refine mr_iload (pc' := 64) rfl rfl rfl ?_
        refine mr_call (t := [(9, 0)]) (pc' := 67) rfl [.inr (.inl 0), .inl (σ1 17 (σ1 0 26).toNat)] rfl rfl rfl (mj_recvV rfl) (Nat.le_of_ble_eq_true rfl) (mj_B_mono _ _ _ _ _ _ (fun r σ18 h => ?_) h)
        obtain ⟨rfl, h⟩ := h
        refine mr_goto rfl ?_
        refine mr_goto rfl ?_
        exact mj_W_ls (mj_B_mono _) (mj_lev_of _ _ (by simp [mj_levb])) h
set_option maxRecDepth 20000 in
/-- ListSpeakerModel.lookAt_ -/
theorem wq_m27 {d : Nat} {σ : mj_S} {Q : mj_Q} {x1 : Int} (h : ∀ σ1, σ1 = mj_up σ 0 26 0 → 0 ≤ σ1 0 26 ∧ σ1 0 26 < 3000 ∧ mj_fit .boolean 0 ∧ ∀ σ2, σ2 = z_la σ1 16 x1 0 0 → qh_m27_14 (d + 1) Q x1 σ2) : mj_B mjm_L mjm_Ms (d + 2) 27 [.inr (.inl 0), .inl x1] σ Q := by
  refine mj_B_of (M := mjmM27) (ls := [some (.inr (.inl 0)), some (.inl x1), none, none, none]) rfl (mj_c1_all rfl) (Nat.le_of_ble_eq_true rfl) rfl ?_
  refine mr_aload (pc' := 1) rfl rfl rfl ?_
  refine mr_const (pc' := 2) rfl rfl (by unfold mj_r; decide) ?_
  refine mr_put (pc' := 5) rfl rfl rfl rfl (fun σ1 e9 => ?_)
  replace h := h σ1 e9
  refine mr_aload (pc' := 6) rfl rfl rfl ?_
  refine mr_const (pc' := 8) rfl rfl (by unfold mj_r; decide) ?_
  refine mr_iload (pc' := 9) rfl rfl rfl ?_
  refine mr_const (pc' := 10) rfl rfl (by unfold mj_r; decide) ?_
  refine mr_const (pc' := 11) rfl rfl (by unfold mj_r; decide) ?_
  obtain ⟨h0, h1, h2, h⟩ := h
  refine mr_call (t := [(9, 0)]) (pc' := 14) rfl [.inr (.inl 0), .inl 16, .inl x1, .inl 0, .inl 0] rfl rfl rfl (mj_recvV rfl) (Nat.le_of_ble_eq_true rfl) (s_m24 h0 h1 h2 (fun σ2 e9 => ?_))
  replace h := h σ2 e9
  exact mj_W_ls (mj_B_mono _) (mj_lev_of _ _ (by simp [mj_levb])) h
def qh_m28_2 (d : Nat) (Q : mj_Q) (y1 y2 : Int) (σ : mj_S) : Prop := mj_P mjm_L mjm_Ms d mjmo28 ((Option.none : Option Jvm.ClassFile.FieldType)) Q 2 [some (.inr (.inl 0)), some (.inl y1), some (.inl y2)] [] σ
set_option maxRecDepth 20000 in
theorem qw_m28_2 {d : Nat} {Q : mj_Q} {y1 y2 : Int} {σ : mj_S} (h : (¬ (536870912 ≤ y2) → Q none σ) ∧ (536870912 ≤ y2 → z_pr y2 ∧ z_pr (z_cd (σ 4) y2) ∧ 0 ≤ σ 0 33 ∧ σ 0 33 < 400 ∧ ∀ σ1, σ1 = z_bi σ (z_cd (σ 4) (z_cd (σ 4) y2)) 0 → z_pr y2 ∧ qh_m28_2 (d + 1) Q y1 (z_cd (σ1 5) y2) σ1)) : qh_m28_2 (d + 1) Q y1 y2 σ := by
  show mj_P mjm_L mjm_Ms (d + 1) mjmo28 ((Option.none : Option Jvm.ClassFile.FieldType)) Q 2 [some (.inr (.inl 0)), some (.inl y1), some (.inl y2)] [] σ
  refine mr_iload (pc' := 3) rfl rfl rfl ?_
  refine mr_call (t := []) (pc' := 6) rfl [.inl y2] rfl rfl rfl trivial (Nat.le_of_ble_eq_true rfl) (s_m3  ?_)
  refine mr_if_eq (pc' := 9) rfl rfl (fun c => ?_) (fun c => ?_)
  · replace h := h.1 (bo_0 c)
    exact mr_ret rfl rfl h
  · replace h := h.2 (bo_1 c)
    refine mr_aload (pc' := 10) rfl rfl rfl ?_
    refine mr_aload (pc' := 11) rfl rfl rfl ?_
    refine mr_aload (pc' := 12) rfl rfl rfl ?_
    refine mr_iload (pc' := 13) rfl rfl rfl ?_
    obtain ⟨h0, h⟩ := h
    refine mr_call (t := [(9, 0)]) (pc' := 16) rfl [.inr (.inl 0), .inl y2] rfl rfl rfl (mj_recvV rfl) (Nat.le_of_ble_eq_true rfl) (s_m5 h0 ?_)
    obtain ⟨h0, h⟩ := h
    refine mr_call (t := [(9, 0)]) (pc' := 19) rfl [.inr (.inl 0), .inl (z_cd (σ 4) y2)] rfl rfl rfl (mj_recvV rfl) (Nat.le_of_ble_eq_true rfl) (s_m5 h0 ?_)
    refine mr_const (pc' := 20) rfl rfl (by unfold mj_r; decide) ?_
    obtain ⟨h0, h1, h⟩ := h
    refine mr_call (t := [(9, 0)]) (pc' := 23) rfl [.inr (.inl 0), .inl (z_cd (σ 4) (z_cd (σ 4) y2)), .inl 0] rfl rfl rfl (mj_recvV rfl) (Nat.le_of_ble_eq_true rfl) (s_m25 h0 h1 (fun σ1 e9 => ?_))
    replace h := h σ1 e9
    refine mr_aload (pc' := 24) rfl rfl rfl ?_
    refine mr_iload (pc' := 25) rfl rfl rfl ?_
    obtain ⟨h0, h⟩ := h
    refine mr_call (t := [(9, 0)]) (pc' := 28) rfl [.inr (.inl 0), .inl y2] rfl rfl rfl (mj_recvV rfl) (Nat.le_of_ble_eq_true rfl) (s_m6 h0 ?_)
    refine mr_istore (pc' := 29) rfl rfl trivial (Nat.le_of_ble_eq_true rfl) rfl ?_
    refine mr_goto rfl ?_
    exact mj_W_ls (mj_B_mono _) (mj_lev_of _ _ (by simp [mj_levb])) h
set_option maxRecDepth 20000 in
/-- ListSpeakerModel.names_ -/
theorem wq_m28 {d : Nat} {σ : mj_S} {Q : mj_Q} {x1 : Int} (h : qh_m28_2 (d + 1) Q x1 x1 σ) : mj_B mjm_L mjm_Ms (d + 2) 28 [.inr (.inl 0), .inl x1] σ Q := by
  refine mj_B_of (M := mjmM28) (ls := [some (.inr (.inl 0)), some (.inl x1), none]) rfl (mj_c1_all rfl) (Nat.le_of_ble_eq_true rfl) rfl ?_
  refine mr_iload (pc' := 1) rfl rfl rfl ?_
  refine mr_istore (pc' := 2) rfl rfl trivial (Nat.le_of_ble_eq_true rfl) rfl ?_
  exact mj_W_ls (mj_B_mono _) (mj_lev_of _ _ (by simp [mj_levb])) h
