def qh_c5_2 (d : Nat) (Q : mj_Q) (y1 : Int) (σ : mj_S) : Prop := mj_P mjc_L mjc_Ms d mjco5 ((Option.some Jvm.ClassFile.FieldType.int)) Q 2 [some (.inr (.inl 0)), some (.inl y1), none, none, none, none, none] [] σ
set_option maxRecDepth 20000 in
theorem qw_c5_2 {d : Nat} {Q : mj_Q} {y1 : Int} {σ : mj_S} (h : (300 ≤ y1 → Q (some (.inl 0)) σ) ∧ (y1 < 300 → mj_B mjc_L mjc_Ms (d + 1) 37 [.inr (.inl 3)] σ (fun r σ1 => ∃ v2, r = some (.inl v2) ∧ (v2 = 0 → Q (some (.inl 0)) σ1) ∧ (¬ v2 = 0 → mj_B mjc_L mjc_Ms (d + 1) 38 [.inr (.inl 3)] σ1 (fun r σ3 => ∃ v4, r = some (.inl v4) ∧ (0 ≤ v4 → mj_B mjc_L mjc_Ms (d + 1) 6 [.inr (.inl 0), .inl v4] σ3 (fun r σ5 => ∃ v6, r = some (.inl v6) ∧ (¬ (σ5 6 6) = (σ1 6 6) → (v6 = 0 → mj_r ((σ5 0 8) + 1) ∧ ∀ σ7, σ7 = mj_up σ5 0 8 ((σ5 0 8) + 1) → mj_r (y1 + 1) ∧ qh_c5_2 (d + 1) Q (y1 + 1) σ7) ∧ (¬ v6 = 0 → Q (some (.inl v6)) σ5)) ∧ ((σ5 6 6) = (σ1 6 6) → ∀ σ8, σ8 = z_rl σ5 2 8 (σ1 2 8) → ∀ σ9, σ9 = z_rl σ8 4 3 (σ1 4 3) → (v6 = 0 → mj_r ((σ9 0 8) + 1) ∧ ∀ σ10, σ10 = mj_up σ9 0 8 ((σ9 0 8) + 1) → mj_r (y1 + 1) ∧ qh_c5_2 (d + 1) Q (y1 + 1) σ10) ∧ (¬ v6 = 0 → Q (some (.inl v6)) σ9)))) ∧ (v4 < 0 → mj_r (-v4) ∧ (¬ (σ3 6 6) = (σ1 6 6) → ((-v4) = 0 → mj_r ((σ3 0 8) + 1) ∧ ∀ σ11, σ11 = mj_up σ3 0 8 ((σ3 0 8) + 1) → mj_r (y1 + 1) ∧ qh_c5_2 (d + 1) Q (y1 + 1) σ11) ∧ (¬ (-v4) = 0 → Q (some (.inl (-v4))) σ3)) ∧ ((σ3 6 6) = (σ1 6 6) → ∀ σ12, σ12 = z_rl σ3 2 8 (σ1 2 8) → ∀ σ13, σ13 = z_rl σ12 4 3 (σ1 4 3) → ((-v4) = 0 → mj_r ((σ13 0 8) + 1) ∧ ∀ σ14, σ14 = mj_up σ13 0 8 ((σ13 0 8) + 1) → mj_r (y1 + 1) ∧ qh_c5_2 (d + 1) Q (y1 + 1) σ14) ∧ (¬ (-v4) = 0 → Q (some (.inl (-v4))) σ13)))))))) : qh_c5_2 (d + 1) Q y1 σ := by
  show mj_P mjc_L mjc_Ms (d + 1) mjco5 ((Option.some Jvm.ClassFile.FieldType.int)) Q 2 [some (.inr (.inl 0)), some (.inl y1), none, none, none, none, none] [] σ
  refine mr_iload (pc' := 3) rfl rfl rfl ?_
  refine mr_const (pc' := 6) rfl rfl (by unfold mj_r; decide) ?_
  refine mr_ic_ge (pc' := 9) rfl rfl (fun c => ?_) (fun c => ?_)
  · replace h := h.1 c
    refine mr_const (pc' := 125) rfl rfl (by unfold mj_r; decide) ?_
    exact mr_iret rfl rfl trivial h
  · replace h := h.2 c
    refine mr_aload (pc' := 10) rfl rfl rfl ?_
    refine mr_getr (ci := 0) (pc' := 13) rfl rfl rfl rfl ?_
    refine mr_call (t := [(3, 0)]) (pc' := 16) rfl [.inr (.inl 3)] rfl rfl rfl (mj_recvV rfl) (Nat.le_of_ble_eq_true rfl) (mj_B_mono _ _ _ _ _ _ (fun r σ1 h => ?_) h)
    obtain ⟨v2, rfl, h⟩ := h
    refine mr_if_eq (pc' := 19) rfl rfl (fun c => ?_) (fun c => ?_)
    · replace h := h.1 c
      refine mr_const (pc' := 125) rfl rfl (by unfold mj_r; decide) ?_
      exact mr_iret rfl rfl trivial h
    · replace h := h.2 c
      refine mr_aload (pc' := 20) rfl rfl rfl ?_
      refine mr_getr (ci := 0) (pc' := 23) rfl rfl rfl rfl ?_
      refine mr_call (t := [(2, 0)]) (pc' := 26) rfl [.inr (.inl 2)] rfl rfl rfl (mj_recvV rfl) (Nat.le_of_ble_eq_true rfl) (s_c16  ?_)
      refine mr_istore (pc' := 27) rfl rfl trivial (Nat.le_of_ble_eq_true rfl) rfl ?_
      refine mr_aload (pc' := 28) rfl rfl rfl ?_
      refine mr_getr (ci := 0) (pc' := 31) rfl rfl rfl rfl ?_
      refine mr_call (t := [(4, 0)]) (pc' := 34) rfl [.inr (.inl 4)] rfl rfl rfl (mj_recvV rfl) (Nat.le_of_ble_eq_true rfl) (s_c54  ?_)
      refine mr_istore (pc' := 35) rfl rfl trivial (Nat.le_of_ble_eq_true rfl) rfl ?_
      refine mr_aload (pc' := 36) rfl rfl rfl ?_
      refine mr_getr (ci := 0) (pc' := 39) rfl rfl rfl rfl ?_
      refine mr_call (t := [(6, 0)]) (pc' := 42) rfl [.inr (.inl 6)] rfl rfl rfl (mj_recvV rfl) (Nat.le_of_ble_eq_true rfl) (s_c81  ?_)
      refine mr_istore (pc' := 44) rfl rfl trivial (Nat.le_of_ble_eq_true rfl) rfl ?_
      refine mr_aload (pc' := 45) rfl rfl rfl ?_
      refine mr_getr (ci := 0) (pc' := 48) rfl rfl rfl rfl ?_
      refine mr_call (t := [(3, 0)]) (pc' := 51) rfl [.inr (.inl 3)] rfl rfl rfl (mj_recvV rfl) (Nat.le_of_ble_eq_true rfl) (mj_B_mono _ _ _ _ _ _ (fun r σ3 h => ?_) h)
      obtain ⟨v4, rfl, h⟩ := h
      refine mr_istore (pc' := 53) rfl rfl trivial (Nat.le_of_ble_eq_true rfl) rfl ?_
      refine mr_iload (pc' := 55) rfl rfl rfl ?_
      refine mr_if_ge (pc' := 58) rfl rfl (fun c => ?_) (fun c => ?_)
      · replace h := h.1 c
        refine mr_aload (pc' := 65) rfl rfl rfl ?_
        refine mr_iload (pc' := 67) rfl rfl rfl ?_
        refine mr_call (t := [(0, 0)]) (pc' := 70) rfl [.inr (.inl 0), .inl v4] rfl rfl rfl (mj_recvV rfl) (Nat.le_of_ble_eq_true rfl) (mj_B_mono _ _ _ _ _ _ (fun r σ5 h => ?_) h)
        obtain ⟨v6, rfl, h⟩ := h
        refine mr_istore (pc' := 72) rfl rfl trivial (Nat.le_of_ble_eq_true rfl) rfl ?_
        refine mr_aload (pc' := 73) rfl rfl rfl ?_
        refine mr_getr (ci := 0) (pc' := 76) rfl rfl rfl rfl ?_
        refine mr_call (t := [(6, 0)]) (pc' := 79) rfl [.inr (.inl 6)] rfl rfl rfl (mj_recvV rfl) (Nat.le_of_ble_eq_true rfl) (s_c81  ?_)
        refine mr_iload (pc' := 81) rfl rfl rfl ?_
        refine mr_ic_ne (pc' := 84) rfl rfl (fun c => ?_) (fun c => ?_)
        · replace h := h.1 c
          refine mr_iload (pc' := 102) rfl rfl rfl ?_
          refine mr_if_eq (pc' := 105) rfl rfl (fun c => ?_) (fun c => ?_)
          · replace h := h.1 c
            refine mr_aload (pc' := 109) rfl rfl rfl ?_
            refine mr_dup (pc' := 110) rfl rfl trivial ?_
            refine mr_get (ci := 0) (pc' := 113) rfl rfl rfl rfl ?_
            refine mr_const (pc' := 114) rfl rfl (by unfold mj_r; decide) ?_
            obtain ⟨h0, h⟩ := h
            refine mr_iadd (pc' := 115) rfl rfl h0 ?_
            refine mr_put (pc' := 118) rfl rfl rfl rfl (fun σ7 e9 => ?_)
            replace h := h σ7 e9
            obtain ⟨h0, h⟩ := h
            refine mr_iinc (pc' := 121) rfl rfl rfl trivial h0 rfl ?_
            refine mr_goto rfl ?_
            exact mj_W_ls (mj_B_mono _) (mj_lev_of _ _ (by simp [mj_levb])) h
          · replace h := h.2 c
            refine mr_iload (pc' := 107) rfl rfl rfl ?_
            exact mr_iret rfl rfl trivial h
        · replace h := h.2 c
          refine mr_aload (pc' := 85) rfl rfl rfl ?_
          refine mr_getr (ci := 0) (pc' := 88) rfl rfl rfl rfl ?_
          refine mr_iload (pc' := 89) rfl rfl rfl ?_
          refine mr_call (t := [(2, 0)]) (pc' := 92) rfl [.inr (.inl 2), .inl (σ1 2 8)] rfl rfl rfl (mj_recvV rfl) (Nat.le_of_ble_eq_true rfl) (s_c26  (fun σ8 e9 => ?_))
          replace h := h σ8 e9
          refine mr_aload (pc' := 93) rfl rfl rfl ?_
          refine mr_getr (ci := 0) (pc' := 96) rfl rfl rfl rfl ?_
          refine mr_iload (pc' := 97) rfl rfl rfl ?_
          refine mr_call (t := [(4, 0)]) (pc' := 100) rfl [.inr (.inl 4), .inl (σ1 4 3)] rfl rfl rfl (mj_recvV rfl) (Nat.le_of_ble_eq_true rfl) (s_c55  (fun σ9 e9 => ?_))
          replace h := h σ9 e9
          refine mr_iload (pc' := 102) rfl rfl rfl ?_
          refine mr_if_eq (pc' := 105) rfl rfl (fun c => ?_) (fun c => ?_)
          · replace h := h.1 c
            refine mr_aload (pc' := 109) rfl rfl rfl ?_
            refine mr_dup (pc' := 110) rfl rfl trivial ?_
            refine mr_get (ci := 0) (pc' := 113) rfl rfl rfl rfl ?_
            refine mr_const (pc' := 114) rfl rfl (by unfold mj_r; decide) ?_
            obtain ⟨h0, h⟩ := h
            refine mr_iadd (pc' := 115) rfl rfl h0 ?_
            refine mr_put (pc' := 118) rfl rfl rfl rfl (fun σ10 e9 => ?_)
            replace h := h σ10 e9
            obtain ⟨h0, h⟩ := h
            refine mr_iinc (pc' := 121) rfl rfl rfl trivial h0 rfl ?_
            refine mr_goto rfl ?_
            exact mj_W_ls (mj_B_mono _) (mj_lev_of _ _ (by simp [mj_levb])) h
          · replace h := h.2 c
            refine mr_iload (pc' := 107) rfl rfl rfl ?_
            exact mr_iret rfl rfl trivial h
      · replace h := h.2 c
        refine mr_iload (pc' := 60) rfl rfl rfl ?_
        obtain ⟨h0, h⟩ := h
        refine mr_ineg (pc' := 61) rfl rfl h0 ?_
        refine mr_goto rfl ?_
        refine mr_istore (pc' := 72) rfl rfl trivial (Nat.le_of_ble_eq_true rfl) rfl ?_
        refine mr_aload (pc' := 73) rfl rfl rfl ?_
        refine mr_getr (ci := 0) (pc' := 76) rfl rfl rfl rfl ?_
        refine mr_call (t := [(6, 0)]) (pc' := 79) rfl [.inr (.inl 6)] rfl rfl rfl (mj_recvV rfl) (Nat.le_of_ble_eq_true rfl) (s_c81  ?_)
        refine mr_iload (pc' := 81) rfl rfl rfl ?_
        refine mr_ic_ne (pc' := 84) rfl rfl (fun c => ?_) (fun c => ?_)
        · replace h := h.1 c
          refine mr_iload (pc' := 102) rfl rfl rfl ?_
          refine mr_if_eq (pc' := 105) rfl rfl (fun c => ?_) (fun c => ?_)
          · replace h := h.1 c
            refine mr_aload (pc' := 109) rfl rfl rfl ?_
            refine mr_dup (pc' := 110) rfl rfl trivial ?_
            refine mr_get (ci := 0) (pc' := 113) rfl rfl rfl rfl ?_
            refine mr_const (pc' := 114) rfl rfl (by unfold mj_r; decide) ?_
            obtain ⟨h0, h⟩ := h
            refine mr_iadd (pc' := 115) rfl rfl h0 ?_
            refine mr_put (pc' := 118) rfl rfl rfl rfl (fun σ11 e9 => ?_)
            replace h := h σ11 e9
            obtain ⟨h0, h⟩ := h
            refine mr_iinc (pc' := 121) rfl rfl rfl trivial h0 rfl ?_
            refine mr_goto rfl ?_
            exact mj_W_ls (mj_B_mono _) (mj_lev_of _ _ (by simp [mj_levb])) h
          · replace h := h.2 c
            refine mr_iload (pc' := 107) rfl rfl rfl ?_
            exact mr_iret rfl rfl trivial h
        · replace h := h.2 c
          refine mr_aload (pc' := 85) rfl rfl rfl ?_
          refine mr_getr (ci := 0) (pc' := 88) rfl rfl rfl rfl ?_
          refine mr_iload (pc' := 89) rfl rfl rfl ?_
          refine mr_call (t := [(2, 0)]) (pc' := 92) rfl [.inr (.inl 2), .inl (σ1 2 8)] rfl rfl rfl (mj_recvV rfl) (Nat.le_of_ble_eq_true rfl) (s_c26  (fun σ12 e9 => ?_))
          replace h := h σ12 e9
          refine mr_aload (pc' := 93) rfl rfl rfl ?_
          refine mr_getr (ci := 0) (pc' := 96) rfl rfl rfl rfl ?_
          refine mr_iload (pc' := 97) rfl rfl rfl ?_
          refine mr_call (t := [(4, 0)]) (pc' := 100) rfl [.inr (.inl 4), .inl (σ1 4 3)] rfl rfl rfl (mj_recvV rfl) (Nat.le_of_ble_eq_true rfl) (s_c55  (fun σ13 e9 => ?_))
          replace h := h σ13 e9
          refine mr_iload (pc' := 102) rfl rfl rfl ?_
          refine mr_if_eq (pc' := 105) rfl rfl (fun c => ?_) (fun c => ?_)
          · replace h := h.1 c
            refine mr_aload (pc' := 109) rfl rfl rfl ?_
            refine mr_dup (pc' := 110) rfl rfl trivial ?_
            refine mr_get (ci := 0) (pc' := 113) rfl rfl rfl rfl ?_
            refine mr_const (pc' := 114) rfl rfl (by unfold mj_r; decide) ?_
            obtain ⟨h0, h⟩ := h
            refine mr_iadd (pc' := 115) rfl rfl h0 ?_
            refine mr_put (pc' := 118) rfl rfl rfl rfl (fun σ14 e9 => ?_)
            replace h := h σ14 e9
            obtain ⟨h0, h⟩ := h
            refine mr_iinc (pc' := 121) rfl rfl rfl trivial h0 rfl ?_
            refine mr_goto rfl ?_
            exact mj_W_ls (mj_B_mono _) (mj_lev_of _ _ (by simp [mj_levb])) h
          · replace h := h.2 c
            refine mr_iload (pc' := 107) rfl rfl rfl ?_
            exact mr_iret rfl rfl trivial h
set_option maxRecDepth 20000 in
/-- ListSpeaker.carryOutForms_ -/
theorem wq_c5 {d : Nat} {σ : mj_S} {Q : mj_Q} (h : qh_c5_2 (d + 1) Q 0 σ) : mj_B mjc_L mjc_Ms (d + 2) 5 [.inr (.inl 0)] σ Q := by
  refine mj_B_of (M := mjcM5) (ls := [some (.inr (.inl 0)), none, none, none, none, none, none]) rfl (mj_c1_all rfl) (Nat.le_of_ble_eq_true rfl) rfl ?_
  refine mr_const (pc' := 1) rfl rfl (by unfold mj_r; decide) ?_
  refine mr_istore (pc' := 2) rfl rfl trivial (Nat.le_of_ble_eq_true rfl) rfl ?_
  exact mj_W_ls (mj_B_mono _) (mj_lev_of _ _ (by simp [mj_levb])) h
set_option maxRecDepth 20000 in
/-- ListSpeaker.carryOut_ -/
theorem wq_c6 {d : Nat} {σ : mj_S} {Q : mj_Q} {x1 : Int} (h : z_dr x1 ∧ (¬ (z_cd (σ 11) x1) = 268435465 → mj_B mjc_L mjc_Ms (d + 2) 62 [.inr (.inl 5), .inl x1] σ (fun r σ1 => ∃ v2, r = some (.inl v2) ∧ (¬ v2 = 0 → (¬ v2 = 0 → Q (some (.inl v2)) σ1) ∧ (v2 = 0 → mj_r (σ1 7 7 - 1) ∧ mj_B mjc_L mjc_Ms (d + 2) 115 [.inr (.inl 8), .inl (z_bl σ1 0)] σ1 (fun r σ3 => r = none ∧ Q (some (.inl v2)) σ3))) ∧ (v2 = 0 → mj_B mjc_L mjc_Ms (d + 2) 90 [.inr (.inl 7), .inl (σ 4 3)] σ1 (fun r σ4 => ∃ v5, r = some (.inl v5) ∧ (¬ v5 = 0 → Q (some (.inl v5)) σ4) ∧ (v5 = 0 → mj_r (σ4 7 7 - 1) ∧ mj_B mjc_L mjc_Ms (d + 2) 115 [.inr (.inl 8), .inl (z_bl σ4 0)] σ4 (fun r σ6 => r = none ∧ Q (some (.inl v5)) σ6)))))) ∧ ((z_cd (σ 11) x1) = 268435465 → mj_B mjc_L mjc_Ms (d + 2) 63 [.inr (.inl 5), .inl x1] σ (fun r σ7 => ∃ v8, r = some (.inl v8) ∧ (¬ v8 = 0 → (¬ v8 = 0 → Q (some (.inl v8)) σ7) ∧ (v8 = 0 → mj_B mjc_L mjc_Ms (d + 2) 22 [.inr (.inl 2), .inl x1, .inl 1] σ7 (fun r σ9 => ∃ v10, r = some (.inl v10) ∧ mj_B mjc_L mjc_Ms (d + 2) 115 [.inr (.inl 8), .inl v10] σ9 (fun r σ11 => r = none ∧ Q (some (.inl v8)) σ11)))) ∧ (v8 = 0 → mj_B mjc_L mjc_Ms (d + 2) 82 [.inr (.inl 6), .inl x1, .inl (σ 4 3)] σ7 (fun r σ12 => ∃ v13, r = some (.inl v13) ∧ (¬ v13 = 0 → Q (some (.inl v13)) σ12) ∧ (v13 = 0 → mj_B mjc_L mjc_Ms (d + 2) 22 [.inr (.inl 2), .inl x1, .inl 1] σ12 (fun r σ14 => ∃ v15, r = some (.inl v15) ∧ mj_B mjc_L mjc_Ms (d + 2) 115 [.inr (.inl 8), .inl v15] σ14 (fun r σ16 => r = none ∧ Q (some (.inl v13)) σ16)))))))) : mj_B mjc_L mjc_Ms (d + 3) 6 [.inr (.inl 0), .inl x1] σ Q := by
  refine mj_B_of (M := mjcM6) (ls := [some (.inr (.inl 0)), some (.inl x1), none, none, none]) rfl (mj_c1_all rfl) (Nat.le_of_ble_eq_true rfl) rfl ?_
  refine mr_aload (pc' := 1) rfl rfl rfl ?_
  refine mr_getr (ci := 0) (pc' := 4) rfl rfl rfl rfl ?_
  refine mr_iload (pc' := 5) rfl rfl rfl ?_
  obtain ⟨h0, h⟩ := h
  refine mr_call (t := [(2, 0)]) (pc' := 8) rfl [.inr (.inl 2), .inl x1] rfl rfl rfl (mj_recvV rfl) (Nat.le_of_ble_eq_true rfl) (s_c20 h0 ?_)
  refine mr_const (pc' := 10) rfl rfl (by unfold mj_r; decide) ?_
  refine mr_ic_ne (pc' := 13) rfl rfl (fun c => ?_) (fun c => ?_)
  · replace h := h.1 c
    refine mr_const (pc' := 18) rfl rfl (by unfold mj_r; decide) ?_
    refine mr_istore (pc' := 19) rfl rfl trivial (Nat.le_of_ble_eq_true rfl) rfl ?_
    refine mr_aload (pc' := 20) rfl rfl rfl ?_
    refine mr_getr (ci := 0) (pc' := 23) rfl rfl rfl rfl ?_
    refine mr_call (t := [(4, 0)]) (pc' := 26) rfl [.inr (.inl 4)] rfl rfl rfl (mj_recvV rfl) (Nat.le_of_ble_eq_true rfl) (s_c54  ?_)
    refine mr_istore (pc' := 27) rfl rfl trivial (Nat.le_of_ble_eq_true rfl) rfl ?_
    refine mr_iload (pc' := 28) rfl rfl rfl ?_
    refine mr_if_eq (pc' := 31) rfl rfl (fun _ => ?_) (fun c => absurd c (by decide))
    refine mr_aload (pc' := 43) rfl rfl rfl ?_
    refine mr_getr (ci := 0) (pc' := 46) rfl rfl rfl rfl ?_
    refine mr_iload (pc' := 47) rfl rfl rfl ?_
    refine mr_call (t := [(5, 0)]) (pc' := 50) rfl [.inr (.inl 5), .inl x1] rfl rfl rfl (mj_recvV rfl) (Nat.le_of_ble_eq_true rfl) (mj_B_mono _ _ _ _ _ _ (fun r σ1 h => ?_) h)
    obtain ⟨v2, rfl, h⟩ := h
    refine mr_istore (pc' := 52) rfl rfl trivial (Nat.le_of_ble_eq_true rfl) rfl ?_
    refine mr_iload (pc' := 54) rfl rfl rfl ?_
    refine mr_if_ne (pc' := 57) rfl rfl (fun c => ?_) (fun c => ?_)
    · replace h := h.1 c
      refine mr_iload (pc' := 85) rfl rfl rfl ?_
      refine mr_if_ne (pc' := 88) rfl rfl (fun c => ?_) (fun c => ?_)
      · replace h := h.1 c
        refine mr_iload (pc' := 120) rfl rfl rfl ?_
        exact mr_iret rfl rfl trivial h
      · replace h := h.2 c
        refine mr_aload (pc' := 89) rfl rfl rfl ?_
        refine mr_getr (ci := 0) (pc' := 92) rfl rfl rfl rfl ?_
        refine mr_iload (pc' := 93) rfl rfl rfl ?_
        refine mr_if_eq (pc' := 96) rfl rfl (fun _ => ?_) (fun c => absurd c (by decide))
        refine mr_aload (pc' := 109) rfl rfl rfl ?_
        refine mr_getr (ci := 0) (pc' := 112) rfl rfl rfl rfl ?_
        obtain ⟨h0, h⟩ := h
        refine mr_call (t := [(7, 0)]) (pc' := 115) rfl [.inr (.inl 7)] rfl rfl rfl (mj_recvV rfl) (Nat.le_of_ble_eq_true rfl) (s_c88 h0 ?_)
        refine mr_call (t := [(8, 0)]) (pc' := 118) rfl [.inr (.inl 8), .inl (z_bl σ1 0)] rfl rfl rfl (mj_recvV rfl) (Nat.le_of_ble_eq_true rfl) (mj_B_mono _ _ _ _ _ _ (fun r σ3 h => ?_) h)
        obtain ⟨rfl, h⟩ := h
        refine mr_iload (pc' := 120) rfl rfl rfl ?_
        exact mr_iret rfl rfl trivial h
    · replace h := h.2 c
      refine mr_iload (pc' := 58) rfl rfl rfl ?_
      refine mr_if_eq (pc' := 61) rfl rfl (fun _ => ?_) (fun c => absurd c (by decide))
      refine mr_aload (pc' := 74) rfl rfl rfl ?_
      refine mr_getr (ci := 0) (pc' := 77) rfl rfl rfl rfl ?_
      refine mr_iload (pc' := 78) rfl rfl rfl ?_
      refine mr_call (t := [(7, 0)]) (pc' := 81) rfl [.inr (.inl 7), .inl (σ 4 3)] rfl rfl rfl (mj_recvV rfl) (Nat.le_of_ble_eq_true rfl) (mj_B_mono _ _ _ _ _ _ (fun r σ4 h => ?_) h)
      obtain ⟨v5, rfl, h⟩ := h
      refine mr_istore (pc' := 83) rfl rfl trivial (Nat.le_of_ble_eq_true rfl) rfl ?_
      refine mr_iload (pc' := 85) rfl rfl rfl ?_
      refine mr_if_ne (pc' := 88) rfl rfl (fun c => ?_) (fun c => ?_)
      · replace h := h.1 c
        refine mr_iload (pc' := 120) rfl rfl rfl ?_
        exact mr_iret rfl rfl trivial h
      · replace h := h.2 c
        refine mr_aload (pc' := 89) rfl rfl rfl ?_
        refine mr_getr (ci := 0) (pc' := 92) rfl rfl rfl rfl ?_
        refine mr_iload (pc' := 93) rfl rfl rfl ?_
        refine mr_if_eq (pc' := 96) rfl rfl (fun _ => ?_) (fun c => absurd c (by decide))
        refine mr_aload (pc' := 109) rfl rfl rfl ?_
        refine mr_getr (ci := 0) (pc' := 112) rfl rfl rfl rfl ?_
        obtain ⟨h0, h⟩ := h
        refine mr_call (t := [(7, 0)]) (pc' := 115) rfl [.inr (.inl 7)] rfl rfl rfl (mj_recvV rfl) (Nat.le_of_ble_eq_true rfl) (s_c88 h0 ?_)
        refine mr_call (t := [(8, 0)]) (pc' := 118) rfl [.inr (.inl 8), .inl (z_bl σ4 0)] rfl rfl rfl (mj_recvV rfl) (Nat.le_of_ble_eq_true rfl) (mj_B_mono _ _ _ _ _ _ (fun r σ6 h => ?_) h)
        obtain ⟨rfl, h⟩ := h
        refine mr_iload (pc' := 120) rfl rfl rfl ?_
        exact mr_iret rfl rfl trivial h
  · replace h := h.2 c
    refine mr_const (pc' := 14) rfl rfl (by unfold mj_r; decide) ?_
    refine mr_goto rfl ?_
    refine mr_istore (pc' := 19) rfl rfl trivial (Nat.le_of_ble_eq_true rfl) rfl ?_
    refine mr_aload (pc' := 20) rfl rfl rfl ?_
    refine mr_getr (ci := 0) (pc' := 23) rfl rfl rfl rfl ?_
    refine mr_call (t := [(4, 0)]) (pc' := 26) rfl [.inr (.inl 4)] rfl rfl rfl (mj_recvV rfl) (Nat.le_of_ble_eq_true rfl) (s_c54  ?_)
    refine mr_istore (pc' := 27) rfl rfl trivial (Nat.le_of_ble_eq_true rfl) rfl ?_
    refine mr_iload (pc' := 28) rfl rfl rfl ?_
    refine mr_if_eq (pc' := 31) rfl rfl (fun c => absurd c (by decide)) (fun _ => ?_)
    refine mr_aload (pc' := 32) rfl rfl rfl ?_
    refine mr_getr (ci := 0) (pc' := 35) rfl rfl rfl rfl ?_
    refine mr_iload (pc' := 36) rfl rfl rfl ?_
    refine mr_call (t := [(5, 0)]) (pc' := 39) rfl [.inr (.inl 5), .inl x1] rfl rfl rfl (mj_recvV rfl) (Nat.le_of_ble_eq_true rfl) (mj_B_mono _ _ _ _ _ _ (fun r σ7 h => ?_) h)
    obtain ⟨v8, rfl, h⟩ := h
    refine mr_goto rfl ?_
    refine mr_istore (pc' := 52) rfl rfl trivial (Nat.le_of_ble_eq_true rfl) rfl ?_
    refine mr_iload (pc' := 54) rfl rfl rfl ?_
    refine mr_if_ne (pc' := 57) rfl rfl (fun c => ?_) (fun c => ?_)
    · replace h := h.1 c
      refine mr_iload (pc' := 85) rfl rfl rfl ?_
      refine mr_if_ne (pc' := 88) rfl rfl (fun c => ?_) (fun c => ?_)
      · replace h := h.1 c
        refine mr_iload (pc' := 120) rfl rfl rfl ?_
        exact mr_iret rfl rfl trivial h
      · replace h := h.2 c
        refine mr_aload (pc' := 89) rfl rfl rfl ?_
        refine mr_getr (ci := 0) (pc' := 92) rfl rfl rfl rfl ?_
        refine mr_iload (pc' := 93) rfl rfl rfl ?_
        refine mr_if_eq (pc' := 96) rfl rfl (fun c => absurd c (by decide)) (fun _ => ?_)
        refine mr_aload (pc' := 97) rfl rfl rfl ?_
        refine mr_getr (ci := 0) (pc' := 100) rfl rfl rfl rfl ?_
        refine mr_iload (pc' := 101) rfl rfl rfl ?_
        refine mr_const (pc' := 102) rfl rfl (by unfold mj_r; decide) ?_
        refine mr_call (t := [(2, 0)]) (pc' := 105) rfl [.inr (.inl 2), .inl x1, .inl 1] rfl rfl rfl (mj_recvV rfl) (Nat.le_of_ble_eq_true rfl) (mj_B_mono _ _ _ _ _ _ (fun r σ9 h => ?_) h)
        obtain ⟨v10, rfl, h⟩ := h
        refine mr_goto rfl ?_
        refine mr_call (t := [(8, 0)]) (pc' := 118) rfl [.inr (.inl 8), .inl v10] rfl rfl rfl (mj_recvV rfl) (Nat.le_of_ble_eq_true rfl) (mj_B_mono _ _ _ _ _ _ (fun r σ11 h => ?_) h)
        obtain ⟨rfl, h⟩ := h
        refine mr_iload (pc' := 120) rfl rfl rfl ?_
        exact mr_iret rfl rfl trivial h
    · replace h := h.2 c
      refine mr_iload (pc' := 58) rfl rfl rfl ?_
      refine mr_if_eq (pc' := 61) rfl rfl (fun c => absurd c (by decide)) (fun _ => ?_)
      refine mr_aload (pc' := 62) rfl rfl rfl ?_
      refine mr_getr (ci := 0) (pc' := 65) rfl rfl rfl rfl ?_
      refine mr_iload (pc' := 66) rfl rfl rfl ?_
      refine mr_iload (pc' := 67) rfl rfl rfl ?_
      refine mr_call (t := [(6, 0)]) (pc' := 70) rfl [.inr (.inl 6), .inl x1, .inl (σ 4 3)] rfl rfl rfl (mj_recvV rfl) (Nat.le_of_ble_eq_true rfl) (mj_B_mono _ _ _ _ _ _ (fun r σ12 h => ?_) h)
      obtain ⟨v13, rfl, h⟩ := h
      refine mr_goto rfl ?_
      refine mr_istore (pc' := 83) rfl rfl trivial (Nat.le_of_ble_eq_true rfl) rfl ?_
      refine mr_iload (pc' := 85) rfl rfl rfl ?_
      refine mr_if_ne (pc' := 88) rfl rfl (fun c => ?_) (fun c => ?_)
      · replace h := h.1 c
        refine mr_iload (pc' := 120) rfl rfl rfl ?_
        exact mr_iret rfl rfl trivial h
      · replace h := h.2 c
        refine mr_aload (pc' := 89) rfl rfl rfl ?_
        refine mr_getr (ci := 0) (pc' := 92) rfl rfl rfl rfl ?_
        refine mr_iload (pc' := 93) rfl rfl rfl ?_
        refine mr_if_eq (pc' := 96) rfl rfl (fun c => absurd c (by decide)) (fun _ => ?_)
        refine mr_aload (pc' := 97) rfl rfl rfl ?_
        refine mr_getr (ci := 0) (pc' := 100) rfl rfl rfl rfl ?_
        refine mr_iload (pc' := 101) rfl rfl rfl ?_
        refine mr_const (pc' := 102) rfl rfl (by unfold mj_r; decide) ?_
        refine mr_call (t := [(2, 0)]) (pc' := 105) rfl [.inr (.inl 2), .inl x1, .inl 1] rfl rfl rfl (mj_recvV rfl) (Nat.le_of_ble_eq_true rfl) (mj_B_mono _ _ _ _ _ _ (fun r σ14 h => ?_) h)
        obtain ⟨v15, rfl, h⟩ := h
        refine mr_goto rfl ?_
        refine mr_call (t := [(8, 0)]) (pc' := 118) rfl [.inr (.inl 8), .inl v15] rfl rfl rfl (mj_recvV rfl) (Nat.le_of_ble_eq_true rfl) (mj_B_mono _ _ _ _ _ _ (fun r σ16 h => ?_) h)
        obtain ⟨rfl, h⟩ := h
        refine mr_iload (pc' := 120) rfl rfl rfl ?_
        exact mr_iret rfl rfl trivial h
set_option maxRecDepth 20000 in
/-- ListSpeaker$Symbols.letter_ -/
theorem wq_c12 {d : Nat} {σ : mj_S} {Q : mj_Q} {x1 x2 : Int} (h : mj_r (x1 - 268435456) ∧ ((x1 - 268435456) < 0 → mj_fit .char 32 ∧ Q (some (.inl 32)) σ) ∧ (0 ≤ (x1 - 268435456) → ((σ 1 2) ≤ (x1 - 268435456) → mj_fit .char 32 ∧ Q (some (.inl 32)) σ) ∧ ((x1 - 268435456) < (σ 1 2) → (x2 < 0 → mj_fit .char 32 ∧ Q (some (.inl 32)) σ) ∧ (0 ≤ x2 → (8 ≤ x2 → mj_fit .char 32 ∧ Q (some (.inl 32)) σ) ∧ (x2 < 8 → mj_r ((x1 - 268435456) * 8) ∧ mj_r (((x1 - 268435456) * 8) + x2) ∧ 0 ≤ (((x1 - 268435456) * 8) + x2) ∧ (((x1 - 268435456) * 8) + x2) < 480 ∧ mj_fit .char (σ 9 (((x1 - 268435456) * 8) + x2).toNat) ∧ Q (some (.inl (σ 9 (((x1 - 268435456) * 8) + x2).toNat))) σ))))) : mj_B mjc_L mjc_Ms (d + 1) 12 [.inr (.inl 1), .inl x1, .inl x2] σ Q := by
  refine mj_B_of (M := mjcM12) (ls := [some (.inr (.inl 1)), some (.inl x1), some (.inl x2), none, none]) rfl (mj_c1_all rfl) (Nat.le_of_ble_eq_true rfl) rfl ?_
  refine mr_iload (pc' := 1) rfl rfl rfl ?_
  refine mr_const (pc' := 3) rfl rfl (by unfold mj_r; decide) ?_
  obtain ⟨h0, h⟩ := h
  refine mr_isub (pc' := 4) rfl rfl h0 ?_
  refine mr_istore (pc' := 5) rfl rfl trivial (Nat.le_of_ble_eq_true rfl) rfl ?_
  refine mr_iload (pc' := 6) rfl rfl rfl ?_
  refine mr_if_lt (pc' := 9) rfl rfl (fun c => ?_) (fun c => ?_)
  · replace h := h.1 c
    refine mr_const (pc' := 32) rfl rfl (by unfold mj_r; decide) ?_
    refine mr_istore (pc' := 34) rfl rfl trivial (Nat.le_of_ble_eq_true rfl) rfl ?_
    refine mr_iload (pc' := 36) rfl rfl rfl ?_
    refine mr_if_eq (pc' := 39) rfl rfl (fun _ => ?_) (fun c => absurd c (by decide))
    refine mr_const (pc' := 55) rfl rfl (by unfold mj_r; decide) ?_
    exact mr_iret rfl rfl h.1 h.2
  · replace h := h.2 c
    refine mr_iload (pc' := 10) rfl rfl rfl ?_
    refine mr_aload (pc' := 11) rfl rfl rfl ?_
    refine mr_get (ci := 0) (pc' := 14) rfl rfl rfl rfl ?_
    refine mr_ic_ge (pc' := 17) rfl rfl (fun c => ?_) (fun c => ?_)
    · replace h := h.1 c
      refine mr_const (pc' := 32) rfl rfl (by unfold mj_r; decide) ?_
      refine mr_istore (pc' := 34) rfl rfl trivial (Nat.le_of_ble_eq_true rfl) rfl ?_
      refine mr_iload (pc' := 36) rfl rfl rfl ?_
      refine mr_if_eq (pc' := 39) rfl rfl (fun _ => ?_) (fun c => absurd c (by decide))
      refine mr_const (pc' := 55) rfl rfl (by unfold mj_r; decide) ?_
      exact mr_iret rfl rfl h.1 h.2
    · replace h := h.2 c
      refine mr_iload (pc' := 18) rfl rfl rfl ?_
      refine mr_if_lt (pc' := 21) rfl rfl (fun c => ?_) (fun c => ?_)
      · replace h := h.1 c
        refine mr_const (pc' := 32) rfl rfl (by unfold mj_r; decide) ?_
        refine mr_istore (pc' := 34) rfl rfl trivial (Nat.le_of_ble_eq_true rfl) rfl ?_
        refine mr_iload (pc' := 36) rfl rfl rfl ?_
        refine mr_if_eq (pc' := 39) rfl rfl (fun _ => ?_) (fun c => absurd c (by decide))
        refine mr_const (pc' := 55) rfl rfl (by unfold mj_r; decide) ?_
        exact mr_iret rfl rfl h.1 h.2
      · replace h := h.2 c
        refine mr_iload (pc' := 22) rfl rfl rfl ?_
        refine mr_const (pc' := 24) rfl rfl (by unfold mj_r; decide) ?_
        refine mr_ic_ge (pc' := 27) rfl rfl (fun c => ?_) (fun c => ?_)
        · replace h := h.1 c
          refine mr_const (pc' := 32) rfl rfl (by unfold mj_r; decide) ?_
          refine mr_istore (pc' := 34) rfl rfl trivial (Nat.le_of_ble_eq_true rfl) rfl ?_
          refine mr_iload (pc' := 36) rfl rfl rfl ?_
          refine mr_if_eq (pc' := 39) rfl rfl (fun _ => ?_) (fun c => absurd c (by decide))
          refine mr_const (pc' := 55) rfl rfl (by unfold mj_r; decide) ?_
          exact mr_iret rfl rfl h.1 h.2
        · replace h := h.2 c
          refine mr_const (pc' := 28) rfl rfl (by unfold mj_r; decide) ?_
          refine mr_goto rfl ?_
          refine mr_istore (pc' := 34) rfl rfl trivial (Nat.le_of_ble_eq_true rfl) rfl ?_
          refine mr_iload (pc' := 36) rfl rfl rfl ?_
          refine mr_if_eq (pc' := 39) rfl rfl (fun c => absurd c (by decide)) (fun _ => ?_)
          refine mr_aload (pc' := 40) rfl rfl rfl ?_
          refine mr_getr (ci := 0) (pc' := 43) rfl rfl rfl rfl ?_
          refine mr_iload (pc' := 44) rfl rfl rfl ?_
          refine mr_const (pc' := 46) rfl rfl (by unfold mj_r; decide) ?_
          obtain ⟨h0, h⟩ := h
          refine mr_imul (pc' := 47) rfl rfl h0 ?_
          refine mr_iload (pc' := 48) rfl rfl rfl ?_
          obtain ⟨h0, h⟩ := h
          refine mr_iadd (pc' := 49) rfl rfl h0 ?_
          obtain ⟨h0, h1, h⟩ := h
          refine mr_cald (pc' := 50) rfl rfl rfl h0 h1 ?_
          refine mr_goto rfl ?_
          exact mr_iret rfl rfl h.1 h.2
def qh_c13_3 (d : Nat) (Q : mj_Q) (y2 y3 y4 : Int) (σ : mj_S) : Prop := mj_P mjc_L mjc_Ms d mjco13 ((Option.some Jvm.ClassFile.FieldType.int)) Q 3 [some (.inr (.inl 1)), some (.inr (.inl 18)), some (.inl y2), some (.inl y3), some (.inl y4)] [] σ
set_option maxRecDepth 20000 in
theorem qw_c13_3 {d : Nat} {Q : mj_Q} {y2 y3 y4 : Int} {σ : mj_S} (h : ((σ 1 2) ≤ y4 → mj_B mjc_L mjc_Ms d 15 [.inr (.inl 1), .inr (.inl 18), .inl y2, .inl y3] σ (fun r σ1 => ∃ v2, r = some (.inl v2) ∧ Q (some (.inl v2)) σ1)) ∧ (y4 < (σ 1 2) → mj_B mjc_L mjc_Ms d 14 [.inr (.inl 1), .inl y4, .inr (.inl 18), .inl y2, .inl y3] σ (fun r σ3 => ∃ v4, r = some (.inl v4) ∧ (v4 = 0 → mj_r (y4 + 1) ∧ qh_c13_3 d Q y2 y3 (y4 + 1) σ3) ∧ (¬ v4 = 0 → mj_r (268435456 + y4) ∧ Q (some (.inl (268435456 + y4))) σ3)))) : qh_c13_3 d Q y2 y3 y4 σ := by
  show mj_P mjc_L mjc_Ms d mjco13 ((Option.some Jvm.ClassFile.FieldType.int)) Q 3 [some (.inr (.inl 1)), some (.inr (.inl 18)), some (.inl y2), some (.inl y3), some (.inl y4)] [] σ
  refine mr_iload (pc' := 5) rfl rfl rfl ?_
  refine mr_aload (pc' := 6) rfl rfl rfl ?_
  refine mr_get (ci := 0) (pc' := 9) rfl rfl rfl rfl ?_
  refine mr_ic_ge (pc' := 12) rfl rfl (fun c => ?_) (fun c => ?_)
  · replace h := h.1 c
    refine mr_aload (pc' := 37) rfl rfl rfl ?_
    refine mr_aload (pc' := 38) rfl rfl rfl ?_
    refine mr_iload (pc' := 39) rfl rfl rfl ?_
    refine mr_iload (pc' := 40) rfl rfl rfl ?_
    refine mr_call (t := [(1, 0)]) (pc' := 43) rfl [.inr (.inl 1), .inr (.inl 18), .inl y2, .inl y3] rfl rfl rfl (mj_recvV rfl) (Nat.le_of_ble_eq_true rfl) (mj_B_mono _ _ _ _ _ _ (fun r σ1 h => ?_) h)
    obtain ⟨v2, rfl, h⟩ := h
    exact mr_iret rfl rfl trivial h
  · replace h := h.2 c
    refine mr_aload (pc' := 13) rfl rfl rfl ?_
    refine mr_iload (pc' := 15) rfl rfl rfl ?_
    refine mr_aload (pc' := 16) rfl rfl rfl ?_
    refine mr_iload (pc' := 17) rfl rfl rfl ?_
    refine mr_iload (pc' := 18) rfl rfl rfl ?_
    refine mr_call (t := [(1, 0)]) (pc' := 21) rfl [.inr (.inl 1), .inl y4, .inr (.inl 18), .inl y2, .inl y3] rfl rfl rfl (mj_recvV rfl) (Nat.le_of_ble_eq_true rfl) (mj_B_mono _ _ _ _ _ _ (fun r σ3 h => ?_) h)
    obtain ⟨v4, rfl, h⟩ := h
    refine mr_if_eq (pc' := 24) rfl rfl (fun c => ?_) (fun c => ?_)
    · replace h := h.1 c
      obtain ⟨h0, h⟩ := h
      refine mr_iinc (pc' := 33) rfl rfl rfl trivial h0 rfl ?_
      refine mr_goto rfl ?_
      exact mj_W_ls (mj_B_mono _) (mj_lev_of _ _ (by simp [mj_levb])) h
    · replace h := h.2 c
      refine mr_const (pc' := 26) rfl rfl (by unfold mj_r; decide) ?_
      refine mr_iload (pc' := 28) rfl rfl rfl ?_
      obtain ⟨h0, h⟩ := h
      refine mr_iadd (pc' := 29) rfl rfl h0 ?_
      exact mr_iret rfl rfl trivial h
set_option maxRecDepth 20000 in
/-- ListSpeaker$Symbols.find_ -/
theorem wq_c13 {d : Nat} {σ : mj_S} {Q : mj_Q} {x2 x3 : Int} (h : qh_c13_3 d Q x2 x3 0 σ) : mj_B mjc_L mjc_Ms (d + 1) 13 [.inr (.inl 1), .inr (.inl 18), .inl x2, .inl x3] σ Q := by
  refine mj_B_of (M := mjcM13) (ls := [some (.inr (.inl 1)), some (.inr (.inl 18)), some (.inl x2), some (.inl x3), none]) rfl (mj_c1_all rfl) (Nat.le_of_ble_eq_true rfl) rfl ?_
  refine mr_const (pc' := 1) rfl rfl (by unfold mj_r; decide) ?_
  refine mr_istore (pc' := 3) rfl rfl trivial (Nat.le_of_ble_eq_true rfl) rfl ?_
  exact mj_W_ls (mj_B_mono _) (mj_lev_of _ _ (by simp [mj_levb])) h
def qh_c14_29 (d : Nat) (Q : mj_Q) (y1 y3 y4 y5 : Int) (σ : mj_S) : Prop := mj_P mjc_L mjc_Ms d mjco14 ((Option.some Jvm.ClassFile.FieldType.boolean)) Q 29 [some (.inr (.inl 1)), some (.inl y1), some (.inr (.inl 18)), some (.inl y3), some (.inl y4), some (.inl y5)] [] σ
set_option maxRecDepth 20000 in
theorem qw_c14_29 {d : Nat} {Q : mj_Q} {y1 y3 y4 y5 : Int} {σ : mj_S} (h : (y4 ≤ y5 → Q (some (.inl 1)) σ) ∧ (y5 < y4 → mj_r (y1 * 8) ∧ mj_r ((y1 * 8) + y5) ∧ 0 ≤ ((y1 * 8) + y5) ∧ ((y1 * 8) + y5) < 480 ∧ mj_r (y3 + y5) ∧ 0 ≤ (y3 + y5) ∧ (y3 + y5) < 300 ∧ ((σ 9 ((y1 * 8) + y5).toNat) = (σ 18 (y3 + y5).toNat) → mj_r (y5 + 1) ∧ qh_c14_29 d Q y1 y3 y4 (y5 + 1) σ) ∧ (¬ (σ 9 ((y1 * 8) + y5).toNat) = (σ 18 (y3 + y5).toNat) → Q (some (.inl 0)) σ))) : qh_c14_29 d Q y1 y3 y4 y5 σ := by
  show mj_P mjc_L mjc_Ms d mjco14 ((Option.some Jvm.ClassFile.FieldType.boolean)) Q 29 [some (.inr (.inl 1)), some (.inl y1), some (.inr (.inl 18)), some (.inl y3), some (.inl y4), some (.inl y5)] [] σ
  refine mr_iload (pc' := 31) rfl rfl rfl ?_
  refine mr_iload (pc' := 33) rfl rfl rfl ?_
  refine mr_ic_ge (pc' := 36) rfl rfl (fun c => ?_) (fun c => ?_)
  · replace h := h.1 c
    refine mr_const (pc' := 66) rfl rfl (by unfold mj_r; decide) ?_
    exact mr_iret rfl rfl (by simp [mj_fit]) h
  · replace h := h.2 c
    refine mr_aload (pc' := 37) rfl rfl rfl ?_
    refine mr_getr (ci := 0) (pc' := 40) rfl rfl rfl rfl ?_
    refine mr_iload (pc' := 41) rfl rfl rfl ?_
    refine mr_const (pc' := 43) rfl rfl (by unfold mj_r; decide) ?_
    obtain ⟨h0, h⟩ := h
    refine mr_imul (pc' := 44) rfl rfl h0 ?_
    refine mr_iload (pc' := 46) rfl rfl rfl ?_
    obtain ⟨h0, h⟩ := h
    refine mr_iadd (pc' := 47) rfl rfl h0 ?_
    obtain ⟨h0, h1, h⟩ := h
    refine mr_cald (pc' := 48) rfl rfl rfl h0 h1 ?_
    refine mr_aload (pc' := 49) rfl rfl rfl ?_
    refine mr_iload (pc' := 50) rfl rfl rfl ?_
    refine mr_iload (pc' := 52) rfl rfl rfl ?_
    obtain ⟨h0, h⟩ := h
    refine mr_iadd (pc' := 53) rfl rfl h0 ?_
    obtain ⟨h0, h1, h⟩ := h
    refine mr_cald (pc' := 54) rfl rfl rfl h0 h1 ?_
    refine mr_ic_eq (pc' := 57) rfl rfl (fun c => ?_) (fun c => ?_)
    · replace h := h.1 c
      obtain ⟨h0, h⟩ := h
      refine mr_iinc (pc' := 62) rfl rfl rfl trivial h0 rfl ?_
      refine mr_goto rfl ?_
      exact mj_W_ls (mj_B_mono _) (mj_lev_of _ _ (by simp [mj_levb])) h
    · replace h := h.2 c
      refine mr_const (pc' := 58) rfl rfl (by unfold mj_r; decide) ?_
      exact mr_iret rfl rfl (by simp [mj_fit]) h
set_option maxRecDepth 20000 in
/-- ListSpeaker$Symbols.isNamed_ -/
theorem wq_c14 {d : Nat} {σ : mj_S} {Q : mj_Q} {x1 x3 x4 : Int} (h : 0 ≤ x1 ∧ x1 < 60 ∧ (¬ (σ 10 x1.toNat) = x4 → Q (some (.inl 0)) σ) ∧ ((σ 10 x1.toNat) = x4 → (x3 < 0 → Q (some (.inl 0)) σ) ∧ (0 ≤ x3 → mj_r (x3 + x4) ∧ ((x3 + x4) ≤ 300 → qh_c14_29 d Q x1 x3 x4 0 σ) ∧ (300 < (x3 + x4) → Q (some (.inl 0)) σ)))) : mj_B mjc_L mjc_Ms (d + 1) 14 [.inr (.inl 1), .inl x1, .inr (.inl 18), .inl x3, .inl x4] σ Q := by
  refine mj_B_of (M := mjcM14) (ls := [some (.inr (.inl 1)), some (.inl x1), some (.inr (.inl 18)), some (.inl x3), some (.inl x4), none]) rfl (mj_c1_all rfl) (Nat.le_of_ble_eq_true rfl) rfl ?_
  refine mr_aload (pc' := 1) rfl rfl rfl ?_
  refine mr_getr (ci := 0) (pc' := 4) rfl rfl rfl rfl ?_
  refine mr_iload (pc' := 5) rfl rfl rfl ?_
  obtain ⟨h0, h1, h⟩ := h
  refine mr_iald (pc' := 6) rfl rfl rfl h0 h1 ?_
  refine mr_iload (pc' := 8) rfl rfl rfl ?_
  refine mr_ic_ne (pc' := 11) rfl rfl (fun c => ?_) (fun c => ?_)
  · replace h := h.1 c
    refine mr_const (pc' := 25) rfl rfl (by unfold mj_r; decide) ?_
    exact mr_iret rfl rfl (by simp [mj_fit]) h
  · replace h := h.2 c
    refine mr_iload (pc' := 12) rfl rfl rfl ?_
    refine mr_if_lt (pc' := 15) rfl rfl (fun c => ?_) (fun c => ?_)
    · replace h := h.1 c
      refine mr_const (pc' := 25) rfl rfl (by unfold mj_r; decide) ?_
      exact mr_iret rfl rfl (by simp [mj_fit]) h
    · replace h := h.2 c
      refine mr_iload (pc' := 16) rfl rfl rfl ?_
      refine mr_iload (pc' := 18) rfl rfl rfl ?_
      obtain ⟨h0, h⟩ := h
      refine mr_iadd (pc' := 19) rfl rfl h0 ?_
      refine mr_aload (pc' := 20) rfl rfl rfl ?_
      refine mr_alen (n := 300) (pc' := 21) rfl rfl rfl (by unfold mj_pt; simp) (by unfold mj_r; decide) ?_
      refine mr_ic_le (pc' := 24) rfl rfl (fun c => ?_) (fun c => ?_)
      · replace h := h.1 c
        refine mr_const (pc' := 27) rfl rfl (by unfold mj_r; decide) ?_
        refine mr_istore (pc' := 29) rfl rfl trivial (Nat.le_of_ble_eq_true rfl) rfl ?_
        exact mj_W_ls (mj_B_mono _) (mj_lev_of _ _ (by simp [mj_levb])) h
      · replace h := h.2 c
        refine mr_const (pc' := 25) rfl rfl (by unfold mj_r; decide) ?_
        exact mr_iret rfl rfl (by simp [mj_fit]) h
set_option maxRecDepth 20000 in
/-- ListSpeaker$Symbols.add_ -/
theorem wq_c15 {d : Nat} {σ : mj_S} {Q : mj_Q} {x2 x3 : Int} (h : (x3 < 1 → Q (some (.inl (-1))) σ) ∧ (1 ≤ x3 → (8 < x3 → Q (some (.inl (-1))) σ) ∧ (x3 ≤ 8 → (x2 < 0 → Q (some (.inl (-1))) σ) ∧ (0 ≤ x2 → mj_r (x2 + x3) ∧ ((x2 + x3) ≤ 300 → ((σ 1 2) < 60 → mj_r ((σ 1 2) * 8) ∧ 0 ≤ x3 ∧ 0 ≤ ((σ 1 2) * 8) ∧ 0 ≤ x2 ∧ x2 + x3 ≤ 300 ∧ ((σ 1 2) * 8) + x3 ≤ 480 ∧ (∀ i : Nat, i < x3.toNat → mj_fit .char (σ 18 (x2.toNat + i))) ∧ ∀ σ1, σ1 = mj_cp σ 9 18 x2.toNat ((σ 1 2) * 8).toNat x3.toNat → 0 ≤ (σ1 1 2) ∧ (σ1 1 2) < 60 ∧ ∀ σ2, σ2 = mj_up σ1 10 (σ1 1 2).toNat x3 → mj_r ((σ2 1 2) + 1) ∧ ∀ σ3, σ3 = mj_up σ2 1 2 ((σ2 1 2) + 1) → mj_r (268435456 + (σ3 1 2)) ∧ mj_r ((268435456 + (σ3 1 2)) - 1) ∧ Q (some (.inl ((268435456 + (σ3 1 2)) - 1))) σ3) ∧ (60 ≤ (σ 1 2) → Q (some (.inl (-11))) σ)) ∧ (300 < (x2 + x3) → Q (some (.inl (-1))) σ))))) : mj_B mjc_L mjc_Ms (d + 1) 15 [.inr (.inl 1), .inr (.inl 18), .inl x2, .inl x3] σ Q := by
  refine mj_B_of (M := mjcM15) (ls := [some (.inr (.inl 1)), some (.inr (.inl 18)), some (.inl x2), some (.inl x3)]) rfl (mj_c1_all rfl) (Nat.le_of_ble_eq_true rfl) rfl ?_
  refine mr_iload (pc' := 1) rfl rfl rfl ?_
  refine mr_const (pc' := 2) rfl rfl (by unfold mj_r; decide) ?_
  refine mr_ic_lt (pc' := 5) rfl rfl (fun c => ?_) (fun c => ?_)
  · replace h := h.1 c
    refine mr_const (pc' := 24) rfl rfl (by unfold mj_r; decide) ?_
    exact mr_iret rfl rfl trivial h
  · replace h := h.2 c
    refine mr_iload (pc' := 6) rfl rfl rfl ?_
    refine mr_const (pc' := 8) rfl rfl (by unfold mj_r; decide) ?_
    refine mr_ic_gt (pc' := 11) rfl rfl (fun c => ?_) (fun c => ?_)
    · replace h := h.1 c
      refine mr_const (pc' := 24) rfl rfl (by unfold mj_r; decide) ?_
      exact mr_iret rfl rfl trivial h
    · replace h := h.2 c
      refine mr_iload (pc' := 12) rfl rfl rfl ?_
      refine mr_if_lt (pc' := 15) rfl rfl (fun c => ?_) (fun c => ?_)
      · replace h := h.1 c
        refine mr_const (pc' := 24) rfl rfl (by unfold mj_r; decide) ?_
        exact mr_iret rfl rfl trivial h
      · replace h := h.2 c
        refine mr_iload (pc' := 16) rfl rfl rfl ?_
        refine mr_iload (pc' := 17) rfl rfl rfl ?_
        obtain ⟨h0, h⟩ := h
        refine mr_iadd (pc' := 18) rfl rfl h0 ?_
        refine mr_aload (pc' := 19) rfl rfl rfl ?_
        refine mr_alen (n := 300) (pc' := 20) rfl rfl rfl (by unfold mj_pt; simp) (by unfold mj_r; decide) ?_
        refine mr_ic_le (pc' := 23) rfl rfl (fun c => ?_) (fun c => ?_)
        · replace h := h.1 c
          refine mr_aload (pc' := 26) rfl rfl rfl ?_
          refine mr_get (ci := 0) (pc' := 29) rfl rfl rfl rfl ?_
          refine mr_const (pc' := 31) rfl rfl (by unfold mj_r; decide) ?_
          refine mr_ic_lt (pc' := 34) rfl rfl (fun c => ?_) (fun c => ?_)
          · replace h := h.1 c
            refine mr_aload (pc' := 38) rfl rfl rfl ?_
            refine mr_iload (pc' := 39) rfl rfl rfl ?_
            refine mr_aload (pc' := 40) rfl rfl rfl ?_
            refine mr_getr (ci := 0) (pc' := 43) rfl rfl rfl rfl ?_
            refine mr_aload (pc' := 44) rfl rfl rfl ?_
            refine mr_get (ci := 0) (pc' := 47) rfl rfl rfl rfl ?_
            refine mr_const (pc' := 49) rfl rfl (by unfold mj_r; decide) ?_
            obtain ⟨h0, h⟩ := h
            refine mr_imul (pc' := 50) rfl rfl h0 ?_
            refine mr_iload (pc' := 51) rfl rfl rfl ?_
            obtain ⟨h0, h1, h2, h3, h4, h5, h⟩ := h
            refine mr_copy (pc' := 54) rfl rfl rfl rfl (by unfold mj_pt; simp) h0 h1 h2 h3 h4 h5 (Nat.le_of_ble_eq_true rfl) (fun σ1 e9 => ?_)
            replace h := h σ1 e9
            refine mr_aload (pc' := 55) rfl rfl rfl ?_
            refine mr_getr (ci := 0) (pc' := 58) rfl rfl rfl rfl ?_
            refine mr_aload (pc' := 59) rfl rfl rfl ?_
            refine mr_get (ci := 0) (pc' := 62) rfl rfl rfl rfl ?_
            refine mr_iload (pc' := 63) rfl rfl rfl ?_
            obtain ⟨h0, h1, h⟩ := h
            refine mr_iast (pc' := 64) rfl rfl rfl h0 h1 (fun σ2 e9 => ?_)
            replace h := h σ2 e9
            refine mr_aload (pc' := 65) rfl rfl rfl ?_
            refine mr_dup (pc' := 66) rfl rfl trivial ?_
            refine mr_get (ci := 0) (pc' := 69) rfl rfl rfl rfl ?_
            refine mr_const (pc' := 70) rfl rfl (by unfold mj_r; decide) ?_
            obtain ⟨h0, h⟩ := h
            refine mr_iadd (pc' := 71) rfl rfl h0 ?_
            refine mr_put (pc' := 74) rfl rfl rfl rfl (fun σ3 e9 => ?_)
            replace h := h σ3 e9
            refine mr_const (pc' := 76) rfl rfl (by unfold mj_r; decide) ?_
            refine mr_aload (pc' := 77) rfl rfl rfl ?_
            refine mr_get (ci := 0) (pc' := 80) rfl rfl rfl rfl ?_
            obtain ⟨h0, h⟩ := h
            refine mr_iadd (pc' := 81) rfl rfl h0 ?_
            refine mr_const (pc' := 82) rfl rfl (by unfold mj_r; decide) ?_
            obtain ⟨h0, h⟩ := h
            refine mr_isub (pc' := 83) rfl rfl h0 ?_
            exact mr_iret rfl rfl trivial h
          · replace h := h.2 c
            refine mr_const (pc' := 36) rfl rfl (by unfold mj_r; decide) ?_
            exact mr_iret rfl rfl trivial h
        · replace h := h.2 c
          refine mr_const (pc' := 24) rfl rfl (by unfold mj_r; decide) ?_
          exact mr_iret rfl rfl trivial h
def qh_c22_5 (d : Nat) (Q : mj_Q) (y1 y2 y3 y4 : Int) (σ : mj_S) : Prop := mj_P mjc_L mjc_Ms d mjco22 ((Option.some Jvm.ClassFile.FieldType.int)) Q 5 [some (.inr (.inl 2)), some (.inl y1), some (.inl y2), some (.inl y3), some (.inl y4)] [] σ
set_option maxRecDepth 20000 in
theorem qw_c22_5 {d : Nat} {Q : mj_Q} {y1 y2 y3 y4 : Int} {σ : mj_S} (h : (y2 ≤ y4 → z_dr y3 ∧ Q (some (.inl (z_cd (σ 11) y3))) σ) ∧ (y4 < y2 → z_dr y3 ∧ mj_r (y4 + 1) ∧ qh_c22_5 (d + 1) Q y1 y2 (z_cd (σ 12) y3) (y4 + 1) σ)) : qh_c22_5 (d + 1) Q y1 y2 y3 y4 σ := by
  show mj_P mjc_L mjc_Ms (d + 1) mjco22 ((Option.some Jvm.ClassFile.FieldType.int)) Q 5 [some (.inr (.inl 2)), some (.inl y1), some (.inl y2), some (.inl y3), some (.inl y4)] [] σ
  refine mr_iload (pc' := 7) rfl rfl rfl ?_
  refine mr_iload (pc' := 8) rfl rfl rfl ?_
  refine mr_ic_ge (pc' := 11) rfl rfl (fun c => ?_) (fun c => ?_)
  · replace h := h.1 c
    refine mr_aload (pc' := 24) rfl rfl rfl ?_
    refine mr_iload (pc' := 25) rfl rfl rfl ?_
    obtain ⟨h0, h⟩ := h
    refine mr_call (t := [(2, 0)]) (pc' := 28) rfl [.inr (.inl 2), .inl y3] rfl rfl rfl (mj_recvV rfl) (Nat.le_of_ble_eq_true rfl) (s_c20 h0 ?_)
    exact mr_iret rfl rfl trivial h
  · replace h := h.2 c
    refine mr_aload (pc' := 12) rfl rfl rfl ?_
    refine mr_iload (pc' := 13) rfl rfl rfl ?_
    obtain ⟨h0, h⟩ := h
    refine mr_call (t := [(2, 0)]) (pc' := 16) rfl [.inr (.inl 2), .inl y3] rfl rfl rfl (mj_recvV rfl) (Nat.le_of_ble_eq_true rfl) (s_c21 h0 ?_)
    refine mr_istore (pc' := 17) rfl rfl trivial (Nat.le_of_ble_eq_true rfl) rfl ?_
    obtain ⟨h0, h⟩ := h
    refine mr_iinc (pc' := 20) rfl rfl rfl trivial h0 rfl ?_
    refine mr_goto rfl ?_
    exact mj_W_ls (mj_B_mono _) (mj_lev_of _ _ (by simp [mj_levb])) h
set_option maxRecDepth 20000 in
/-- ListSpeaker$Pairs.item_ -/
theorem wq_c22 {d : Nat} {σ : mj_S} {Q : mj_Q} {x1 x2 : Int} (h : qh_c22_5 (d + 1) Q x1 x2 x1 0 σ) : mj_B mjc_L mjc_Ms (d + 2) 22 [.inr (.inl 2), .inl x1, .inl x2] σ Q := by
  refine mj_B_of (M := mjcM22) (ls := [some (.inr (.inl 2)), some (.inl x1), some (.inl x2), none, none]) rfl (mj_c1_all rfl) (Nat.le_of_ble_eq_true rfl) rfl ?_
  refine mr_iload (pc' := 1) rfl rfl rfl ?_
  refine mr_istore (pc' := 2) rfl rfl trivial (Nat.le_of_ble_eq_true rfl) rfl ?_
  refine mr_const (pc' := 3) rfl rfl (by unfold mj_r; decide) ?_
  refine mr_istore (pc' := 5) rfl rfl trivial (Nat.le_of_ble_eq_true rfl) rfl ?_
  exact mj_W_ls (mj_B_mono _) (mj_lev_of _ _ (by simp [mj_levb])) h
def qh_c23_4 (d : Nat) (Q : mj_Q) (y1 y2 y3 : Int) (σ : mj_S) : Prop := mj_P mjc_L mjc_Ms d mjco23 ((Option.some Jvm.ClassFile.FieldType.int)) Q 4 [some (.inr (.inl 2)), some (.inl y1), some (.inl y2), some (.inl y3)] [] σ
set_option maxRecDepth 20000 in
theorem qw_c23_4 {d : Nat} {Q : mj_Q} {y1 y2 y3 : Int} {σ : mj_S} (h : (400 < y3 → Q (some (.inl (-1))) σ) ∧ (y3 ≤ 400 → (536870912 ≤ y2 → z_dr y2 ∧ mj_r (y3 + 1) ∧ qh_c23_4 (d + 1) Q y1 (z_cd (σ 12) y2) (y3 + 1) σ) ∧ (¬ (536870912 ≤ y2) → (¬ y2 = 268435456 → Q (some (.inl (-1))) σ) ∧ (y2 = 268435456 → Q (some (.inl y3)) σ)))) : qh_c23_4 (d + 1) Q y1 y2 y3 σ := by
  show mj_P mjc_L mjc_Ms (d + 1) mjco23 ((Option.some Jvm.ClassFile.FieldType.int)) Q 4 [some (.inr (.inl 2)), some (.inl y1), some (.inl y2), some (.inl y3)] [] σ
  refine mr_iload (pc' := 5) rfl rfl rfl ?_
  refine mr_const (pc' := 8) rfl rfl (by unfold mj_r; decide) ?_
  refine mr_ic_gt (pc' := 11) rfl rfl (fun c => ?_) (fun c => ?_)
  · replace h := h.1 c
    refine mr_const (pc' := 43) rfl rfl (by unfold mj_r; decide) ?_
    exact mr_iret rfl rfl trivial h
  · replace h := h.2 c
    refine mr_iload (pc' := 12) rfl rfl rfl ?_
    refine mr_call (t := []) (pc' := 15) rfl [.inl y2] rfl rfl rfl trivial (Nat.le_of_ble_eq_true rfl) (s_c9  ?_)
    refine mr_if_ne (pc' := 18) rfl rfl (fun c => ?_) (fun c => ?_)
    · replace h := h.1 (bo_1 c)
      refine mr_aload (pc' := 31) rfl rfl rfl ?_
      refine mr_iload (pc' := 32) rfl rfl rfl ?_
      obtain ⟨h0, h⟩ := h
      refine mr_call (t := [(2, 0)]) (pc' := 35) rfl [.inr (.inl 2), .inl y2] rfl rfl rfl (mj_recvV rfl) (Nat.le_of_ble_eq_true rfl) (s_c21 h0 ?_)
      refine mr_istore (pc' := 36) rfl rfl trivial (Nat.le_of_ble_eq_true rfl) rfl ?_
      obtain ⟨h0, h⟩ := h
      refine mr_iinc (pc' := 39) rfl rfl rfl trivial h0 rfl ?_
      refine mr_goto rfl ?_
      exact mj_W_ls (mj_B_mono _) (mj_lev_of _ _ (by simp [mj_levb])) h
    · replace h := h.2 (bo_0 c)
      refine mr_iload (pc' := 19) rfl rfl rfl ?_
      refine mr_const (pc' := 21) rfl rfl (by unfold mj_r; decide) ?_
      refine mr_ic_ne (pc' := 24) rfl rfl (fun c => ?_) (fun c => ?_)
      · replace h := h.1 c
        refine mr_const (pc' := 29) rfl rfl (by unfold mj_r; decide) ?_
        exact mr_iret rfl rfl trivial h
      · replace h := h.2 c
        refine mr_iload (pc' := 25) rfl rfl rfl ?_
        refine mr_goto rfl ?_
        exact mr_iret rfl rfl trivial h
set_option maxRecDepth 20000 in
/-- ListSpeaker$Pairs.lengthOf_ -/
theorem wq_c23 {d : Nat} {σ : mj_S} {Q : mj_Q} {x1 : Int} (h : qh_c23_4 (d + 1) Q x1 x1 0 σ) : mj_B mjc_L mjc_Ms (d + 2) 23 [.inr (.inl 2), .inl x1] σ Q := by
  refine mj_B_of (M := mjcM23) (ls := [some (.inr (.inl 2)), some (.inl x1), none, none]) rfl (mj_c1_all rfl) (Nat.le_of_ble_eq_true rfl) rfl ?_
  refine mr_iload (pc' := 1) rfl rfl rfl ?_
  refine mr_istore (pc' := 2) rfl rfl trivial (Nat.le_of_ble_eq_true rfl) rfl ?_
  refine mr_const (pc' := 3) rfl rfl (by unfold mj_r; decide) ?_
  refine mr_istore (pc' := 4) rfl rfl trivial (Nat.le_of_ble_eq_true rfl) rfl ?_
  exact mj_W_ls (mj_B_mono _) (mj_lev_of _ _ (by simp [mj_levb])) h
set_option maxRecDepth 20000 in
/-- ListSpeaker$Pairs.make_ -/
theorem wq_c28 {d : Nat} {σ : mj_S} {Q : mj_Q} {x1 x2 : Int} (h : (0 < (σ 2 9) → mj_r ((σ 2 9) - 1) ∧ ∀ σ1, σ1 = mj_up σ 2 9 ((σ 2 9) - 1) → 0 ≤ (σ1 2 9) ∧ (σ1 2 9) < 200 ∧ mj_r (400 + (σ1 13 (σ1 2 9).toNat)) ∧ 0 ≤ (400 + (σ1 13 (σ1 2 9).toNat)) ∧ (400 + (σ1 13 (σ1 2 9).toNat)) < 600 ∧ ∀ σ2, σ2 = mj_up σ1 11 (400 + (σ1 13 (σ1 2 9).toNat)).toNat x1 → 0 ≤ (400 + (σ1 13 (σ1 2 9).toNat)) ∧ (400 + (σ1 13 (σ1 2 9).toNat)) < 600 ∧ ∀ σ3, σ3 = mj_up σ2 12 (400 + (σ1 13 (σ1 2 9).toNat)).toNat x2 → mj_r (536870912 + (400 + (σ1 13 (σ1 2 9).toNat))) ∧ Q (some (.inl (536870912 + (400 + (σ1 13 (σ1 2 9).toNat))))) σ3) ∧ ((σ 2 9) ≤ 0 → Q (some (.inl (-6))) σ)) : mj_B mjc_L mjc_Ms (d + 1) 28 [.inr (.inl 2), .inl x1, .inl x2] σ Q := by
  refine mj_B_of (M := mjcM28) (ls := [some (.inr (.inl 2)), some (.inl x1), some (.inl x2), none]) rfl (mj_c1_all rfl) (Nat.le_of_ble_eq_true rfl) rfl ?_
  refine mr_aload (pc' := 1) rfl rfl rfl ?_
  refine mr_get (ci := 0) (pc' := 4) rfl rfl rfl rfl ?_
  refine mr_if_gt (pc' := 7) rfl rfl (fun c => ?_) (fun c => ?_)
  · replace h := h.1 c
    refine mr_aload (pc' := 11) rfl rfl rfl ?_
    refine mr_dup (pc' := 12) rfl rfl trivial ?_
    refine mr_get (ci := 0) (pc' := 15) rfl rfl rfl rfl ?_
    refine mr_const (pc' := 16) rfl rfl (by unfold mj_r; decide) ?_
    obtain ⟨h0, h⟩ := h
    refine mr_isub (pc' := 17) rfl rfl h0 ?_
    refine mr_put (pc' := 20) rfl rfl rfl rfl (fun σ1 e9 => ?_)
    replace h := h σ1 e9
    refine mr_const (pc' := 23) rfl rfl (by unfold mj_r; decide) ?_
    refine mr_aload (pc' := 24) rfl rfl rfl ?_
    refine mr_getr (ci := 0) (pc' := 27) rfl rfl rfl rfl ?_
    refine mr_aload (pc' := 28) rfl rfl rfl ?_
    refine mr_get (ci := 0) (pc' := 31) rfl rfl rfl rfl ?_
    obtain ⟨h0, h1, h⟩ := h
    refine mr_iald (pc' := 32) rfl rfl rfl h0 h1 ?_
    obtain ⟨h0, h⟩ := h
    refine mr_iadd (pc' := 33) rfl rfl h0 ?_
    refine mr_istore (pc' := 34) rfl rfl trivial (Nat.le_of_ble_eq_true rfl) rfl ?_
    refine mr_aload (pc' := 35) rfl rfl rfl ?_
    refine mr_getr (ci := 0) (pc' := 38) rfl rfl rfl rfl ?_
    refine mr_iload (pc' := 39) rfl rfl rfl ?_
    refine mr_iload (pc' := 40) rfl rfl rfl ?_
    obtain ⟨h0, h1, h⟩ := h
    refine mr_iast (pc' := 41) rfl rfl rfl h0 h1 (fun σ2 e9 => ?_)
    replace h := h σ2 e9
    refine mr_aload (pc' := 42) rfl rfl rfl ?_
    refine mr_getr (ci := 0) (pc' := 45) rfl rfl rfl rfl ?_
    refine mr_iload (pc' := 46) rfl rfl rfl ?_
    refine mr_iload (pc' := 47) rfl rfl rfl ?_
    obtain ⟨h0, h1, h⟩ := h
    refine mr_iast (pc' := 48) rfl rfl rfl h0 h1 (fun σ3 e9 => ?_)
    replace h := h σ3 e9
    refine mr_const (pc' := 50) rfl rfl (by unfold mj_r; decide) ?_
    refine mr_iload (pc' := 51) rfl rfl rfl ?_
    obtain ⟨h0, h⟩ := h
    refine mr_iadd (pc' := 52) rfl rfl h0 ?_
    exact mr_iret rfl rfl trivial h
  · replace h := h.2 c
    refine mr_const (pc' := 9) rfl rfl (by unfold mj_r; decide) ?_
    exact mr_iret rfl rfl trivial h
def qh_c29_12 (d : Nat) (Q : mj_Q) (y2 y3 : Int) (σ : mj_S) : Prop := mj_P mjc_L mjc_Ms d mjco29 ((Option.none : Option Jvm.ClassFile.FieldType)) Q 12 [some (.inr (.inl 2)), some (.inr (.inl 29)), some (.inl y2), some (.inl y3), none, none] [] σ
def qh_c29_37 (d : Nat) (Q : mj_Q) (y2 y3 y4 : Int) (σ : mj_S) : Prop := mj_P mjc_L mjc_Ms d mjco29 ((Option.none : Option Jvm.ClassFile.FieldType)) Q 37 [some (.inr (.inl 2)), some (.inr (.inl 29)), some (.inl y2), some (.inl y3), some (.inl y4), none] [] σ
def qh_c29_69 (d : Nat) (Q : mj_Q) (y2 y3 y4 : Int) (σ : mj_S) : Prop := mj_P mjc_L mjc_Ms d mjco29 ((Option.none : Option Jvm.ClassFile.FieldType)) Q 69 [some (.inr (.inl 2)), some (.inr (.inl 29)), some (.inl y2), some (.inl y3), some (.inl y4), none] [] σ
set_option maxRecDepth 20000 in
theorem qw_c29_12 {d : Nat} {Q : mj_Q} {y2 y3 : Int} {σ : mj_S} (h : (200 ≤ y3 → qh_c29_37 d Q y2 0 0 σ) ∧ (y3 < 200 → 0 ≤ y3 ∧ y3 < 200 ∧ mj_fit .boolean 0 ∧ ∀ σ1, σ1 = mj_up σ 14 y3.toNat 0 → mj_r (y3 + 1) ∧ qh_c29_12 d Q y2 (y3 + 1) σ1)) : qh_c29_12 d Q y2 y3 σ := by
  show mj_P mjc_L mjc_Ms d mjco29 ((Option.none : Option Jvm.ClassFile.FieldType)) Q 12 [some (.inr (.inl 2)), some (.inr (.inl 29)), some (.inl y2), some (.inl y3), none, none] [] σ
  refine mr_iload (pc' := 13) rfl rfl rfl ?_
  refine mr_const (pc' := 16) rfl rfl (by unfold mj_r; decide) ?_
  refine mr_ic_ge (pc' := 19) rfl rfl (fun c => ?_) (fun c => ?_)
  · replace h := h.1 c
    refine mr_const (pc' := 33) rfl rfl (by unfold mj_r; decide) ?_
    refine mr_istore (pc' := 34) rfl rfl trivial (Nat.le_of_ble_eq_true rfl) rfl ?_
    refine mr_const (pc' := 35) rfl rfl (by unfold mj_r; decide) ?_
    refine mr_istore (pc' := 37) rfl rfl trivial (Nat.le_of_ble_eq_true rfl) rfl ?_
    exact mj_W_ls (mj_B_mono _) (mj_lev_of _ _ (by simp [mj_levb])) h
  · replace h := h.2 c
    refine mr_aload (pc' := 20) rfl rfl rfl ?_
    refine mr_getr (ci := 0) (pc' := 23) rfl rfl rfl rfl ?_
    refine mr_iload (pc' := 24) rfl rfl rfl ?_
    refine mr_const (pc' := 25) rfl rfl (by unfold mj_r; decide) ?_
    obtain ⟨h0, h1, h2, h⟩ := h
    refine mr_zast (pc' := 26) rfl rfl rfl h0 h1 h2 (fun σ1 e9 => ?_)
    replace h := h σ1 e9
    obtain ⟨h0, h⟩ := h
    refine mr_iinc (pc' := 29) rfl rfl rfl trivial h0 rfl ?_
    refine mr_goto rfl ?_
    exact mj_W_ls (mj_B_mono _) (mj_lev_of _ _ (by simp [mj_levb])) h
set_option maxRecDepth 20000 in
theorem qw_c29_37 {d : Nat} {Q : mj_Q} {y2 y3 y4 : Int} {σ : mj_S} (h : (y2 ≤ y4 → qh_c29_69 d Q y2 y3 0 σ) ∧ (y4 < y2 → (100 ≤ y4 → qh_c29_69 d Q y2 y3 0 σ) ∧ (y4 < 100 → 0 ≤ y4 ∧ y4 < 100 ∧ mj_B mjc_L mjc_Ms d 30 [.inr (.inl 2), .inl (σ 29 y4.toNat), .inl y3] σ (fun r σ1 => ∃ v2, r = some (.inl v2) ∧ mj_r (y4 + 1) ∧ qh_c29_37 d Q y2 v2 (y4 + 1) σ1)))) : qh_c29_37 d Q y2 y3 y4 σ := by
  show mj_P mjc_L mjc_Ms d mjco29 ((Option.none : Option Jvm.ClassFile.FieldType)) Q 37 [some (.inr (.inl 2)), some (.inr (.inl 29)), some (.inl y2), some (.inl y3), some (.inl y4), none] [] σ
  refine mr_iload (pc' := 39) rfl rfl rfl ?_
  refine mr_iload (pc' := 40) rfl rfl rfl ?_
  refine mr_ic_ge (pc' := 43) rfl rfl (fun c => ?_) (fun c => ?_)
  · replace h := h.1 c
    refine mr_const (pc' := 67) rfl rfl (by unfold mj_r; decide) ?_
    refine mr_istore (pc' := 69) rfl rfl trivial (Nat.le_of_ble_eq_true rfl) rfl ?_
    exact mj_W_ls (mj_B_mono _) (mj_lev_of _ _ (by simp [mj_levb])) h
  · replace h := h.2 c
    refine mr_iload (pc' := 45) rfl rfl rfl ?_
    refine mr_aload (pc' := 46) rfl rfl rfl ?_
    refine mr_alen (n := 100) (pc' := 47) rfl rfl rfl (by unfold mj_pt; simp) (by unfold mj_r; decide) ?_
    refine mr_ic_ge (pc' := 50) rfl rfl (fun c => ?_) (fun c => ?_)
    · replace h := h.1 c
      refine mr_const (pc' := 67) rfl rfl (by unfold mj_r; decide) ?_
      refine mr_istore (pc' := 69) rfl rfl trivial (Nat.le_of_ble_eq_true rfl) rfl ?_
      exact mj_W_ls (mj_B_mono _) (mj_lev_of _ _ (by simp [mj_levb])) h
    · replace h := h.2 c
      refine mr_aload (pc' := 51) rfl rfl rfl ?_
      refine mr_aload (pc' := 52) rfl rfl rfl ?_
      refine mr_iload (pc' := 54) rfl rfl rfl ?_
      obtain ⟨h0, h1, h⟩ := h
      refine mr_iald (pc' := 55) rfl rfl rfl h0 h1 ?_
      refine mr_iload (pc' := 56) rfl rfl rfl ?_
      refine mr_call (t := [(2, 0)]) (pc' := 59) rfl [.inr (.inl 2), .inl (σ 29 y4.toNat), .inl y3] rfl rfl rfl (mj_recvV rfl) (Nat.le_of_ble_eq_true rfl) (mj_B_mono _ _ _ _ _ _ (fun r σ1 h => ?_) h)
      obtain ⟨v2, rfl, h⟩ := h
      refine mr_istore (pc' := 60) rfl rfl trivial (Nat.le_of_ble_eq_true rfl) rfl ?_
      obtain ⟨h0, h⟩ := h
      refine mr_iinc (pc' := 63) rfl rfl rfl trivial h0 rfl ?_
      refine mr_goto rfl ?_
      exact mj_W_ls (mj_B_mono _) (mj_lev_of _ _ (by simp [mj_levb])) h
set_option maxRecDepth 20000 in
theorem qw_c29_69 {d : Nat} {Q : mj_Q} {y2 y3 y4 : Int} {σ : mj_S} (h : (200 ≤ y4 → mj_B mjc_L mjc_Ms d 31 [.inr (.inl 2)] σ (fun r σ1 => r = none ∧ Q none σ1)) ∧ (y4 < 200 → (y3 ≤ 0 → mj_B mjc_L mjc_Ms d 31 [.inr (.inl 2)] σ (fun r σ2 => r = none ∧ Q none σ2)) ∧ (0 < y3 → mj_r (y3 + (-1)) ∧ 0 ≤ (y3 + (-1)) ∧ (y3 + (-1)) < 200 ∧ mj_r (400 + (σ 15 (y3 + (-1)).toNat)) ∧ 0 ≤ (400 + (σ 15 (y3 + (-1)).toNat)) ∧ (400 + (σ 15 (y3 + (-1)).toNat)) < 600 ∧ mj_B mjc_L mjc_Ms d 30 [.inr (.inl 2), .inl (σ 11 (400 + (σ 15 (y3 + (-1)).toNat)).toNat), .inl (y3 + (-1))] σ (fun r σ3 => ∃ v4, r = some (.inl v4) ∧ 0 ≤ (400 + (σ 15 (y3 + (-1)).toNat)) ∧ (400 + (σ 15 (y3 + (-1)).toNat)) < 600 ∧ mj_B mjc_L mjc_Ms d 30 [.inr (.inl 2), .inl (σ3 12 (400 + (σ 15 (y3 + (-1)).toNat)).toNat), .inl v4] σ3 (fun r σ5 => ∃ v6, r = some (.inl v6) ∧ mj_r (y4 + 1) ∧ qh_c29_69 d Q y2 v6 (y4 + 1) σ5))))) : qh_c29_69 d Q y2 y3 y4 σ := by
  show mj_P mjc_L mjc_Ms d mjco29 ((Option.none : Option Jvm.ClassFile.FieldType)) Q 69 [some (.inr (.inl 2)), some (.inr (.inl 29)), some (.inl y2), some (.inl y3), some (.inl y4), none] [] σ
  refine mr_iload (pc' := 71) rfl rfl rfl ?_
  refine mr_const (pc' := 74) rfl rfl (by unfold mj_r; decide) ?_
  refine mr_ic_ge (pc' := 77) rfl rfl (fun c => ?_) (fun c => ?_)
  · replace h := h.1 c
    refine mr_aload (pc' := 129) rfl rfl rfl ?_
    refine mr_call (t := [(2, 0)]) (pc' := 132) rfl [.inr (.inl 2)] rfl rfl rfl (mj_recvV rfl) (Nat.le_of_ble_eq_true rfl) (mj_B_mono _ _ _ _ _ _ (fun r σ1 h => ?_) h)
    obtain ⟨rfl, h⟩ := h
    exact mr_ret rfl rfl h
  · replace h := h.2 c
    refine mr_iload (pc' := 78) rfl rfl rfl ?_
    refine mr_if_le (pc' := 81) rfl rfl (fun c => ?_) (fun c => ?_)
    · replace h := h.1 c
      refine mr_aload (pc' := 129) rfl rfl rfl ?_
      refine mr_call (t := [(2, 0)]) (pc' := 132) rfl [.inr (.inl 2)] rfl rfl rfl (mj_recvV rfl) (Nat.le_of_ble_eq_true rfl) (mj_B_mono _ _ _ _ _ _ (fun r σ2 h => ?_) h)
      obtain ⟨rfl, h⟩ := h
      exact mr_ret rfl rfl h
    · replace h := h.2 c
      obtain ⟨h0, h⟩ := h
      refine mr_iinc (pc' := 84) rfl rfl rfl trivial h0 rfl ?_
      refine mr_const (pc' := 87) rfl rfl (by unfold mj_r; decide) ?_
      refine mr_aload (pc' := 88) rfl rfl rfl ?_
      refine mr_getr (ci := 0) (pc' := 91) rfl rfl rfl rfl ?_
      refine mr_iload (pc' := 92) rfl rfl rfl ?_
      obtain ⟨h0, h1, h⟩ := h
      refine mr_iald (pc' := 93) rfl rfl rfl h0 h1 ?_
      obtain ⟨h0, h⟩ := h
      refine mr_iadd (pc' := 94) rfl rfl h0 ?_
      refine mr_istore (pc' := 96) rfl rfl trivial (Nat.le_of_ble_eq_true rfl) rfl ?_
      refine mr_aload (pc' := 97) rfl rfl rfl ?_
      refine mr_aload (pc' := 98) rfl rfl rfl ?_
      refine mr_getr (ci := 0) (pc' := 101) rfl rfl rfl rfl ?_
      refine mr_iload (pc' := 103) rfl rfl rfl ?_
      obtain ⟨h0, h1, h⟩ := h
      refine mr_iald (pc' := 104) rfl rfl rfl h0 h1 ?_
      refine mr_iload (pc' := 105) rfl rfl rfl ?_
      refine mr_call (t := [(2, 0)]) (pc' := 108) rfl [.inr (.inl 2), .inl (σ 11 (400 + (σ 15 (y3 + (-1)).toNat)).toNat), .inl (y3 + (-1))] rfl rfl rfl (mj_recvV rfl) (Nat.le_of_ble_eq_true rfl) (mj_B_mono _ _ _ _ _ _ (fun r σ3 h => ?_) h)
      obtain ⟨v4, rfl, h⟩ := h
      refine mr_istore (pc' := 109) rfl rfl trivial (Nat.le_of_ble_eq_true rfl) rfl ?_
      refine mr_aload (pc' := 110) rfl rfl rfl ?_
      refine mr_aload (pc' := 111) rfl rfl rfl ?_
      refine mr_getr (ci := 0) (pc' := 114) rfl rfl rfl rfl ?_
      refine mr_iload (pc' := 116) rfl rfl rfl ?_
      obtain ⟨h0, h1, h⟩ := h
      refine mr_iald (pc' := 117) rfl rfl rfl h0 h1 ?_
      refine mr_iload (pc' := 118) rfl rfl rfl ?_
      refine mr_call (t := [(2, 0)]) (pc' := 121) rfl [.inr (.inl 2), .inl (σ3 12 (400 + (σ 15 (y3 + (-1)).toNat)).toNat), .inl v4] rfl rfl rfl (mj_recvV rfl) (Nat.le_of_ble_eq_true rfl) (mj_B_mono _ _ _ _ _ _ (fun r σ5 h => ?_) h)
      obtain ⟨v6, rfl, h⟩ := h
      refine mr_istore (pc' := 122) rfl rfl trivial (Nat.le_of_ble_eq_true rfl) rfl ?_
      obtain ⟨h0, h⟩ := h
      refine mr_iinc (pc' := 125) rfl rfl rfl trivial h0 rfl ?_
      refine mr_goto rfl ?_
      exact mj_W_ls (mj_B_mono _) (mj_lev_of _ _ (by simp [mj_levb])) h
set_option maxRecDepth 20000 in
/-- ListSpeaker$Pairs.collect_ -/
theorem wq_c29 {d : Nat} {σ : mj_S} {Q : mj_Q} {x2 : Int} (h : mj_r ((σ 2 10) + 1) ∧ ∀ σ1, σ1 = mj_up σ 2 10 ((σ 2 10) + 1) → qh_c29_12 d Q x2 0 σ1) : mj_B mjc_L mjc_Ms (d + 1) 29 [.inr (.inl 2), .inr (.inl 29), .inl x2] σ Q := by
  refine mj_B_of (M := mjcM29) (ls := [some (.inr (.inl 2)), some (.inr (.inl 29)), some (.inl x2), none, none, none]) rfl (mj_c1_all rfl) (Nat.le_of_ble_eq_true rfl) rfl ?_
  refine mr_aload (pc' := 1) rfl rfl rfl ?_
  refine mr_dup (pc' := 2) rfl rfl trivial ?_
  refine mr_get (ci := 0) (pc' := 5) rfl rfl rfl rfl ?_
  refine mr_const (pc' := 6) rfl rfl (by unfold mj_r; decide) ?_
  obtain ⟨h0, h⟩ := h
  refine mr_iadd (pc' := 7) rfl rfl h0 ?_
  refine mr_put (pc' := 10) rfl rfl rfl rfl (fun σ1 e9 => ?_)
  replace h := h σ1 e9
  refine mr_const (pc' := 11) rfl rfl (by unfold mj_r; decide) ?_
  refine mr_istore (pc' := 12) rfl rfl trivial (Nat.le_of_ble_eq_true rfl) rfl ?_
  exact mj_W_ls (mj_B_mono _) (mj_lev_of _ _ (by simp [mj_levb])) h
set_option maxRecDepth 20000 in
/-- ListSpeaker$Pairs.reach_ -/
theorem wq_c30 {d : Nat} {σ : mj_S} {Q : mj_Q} {x1 x2 : Int} (h : mj_r (x1 - 536870912) ∧ mj_r ((x1 - 536870912) - 400) ∧ (((x1 - 536870912) - 400) < 0 → Q (some (.inl x2)) σ) ∧ (0 ≤ ((x1 - 536870912) - 400) → (200 ≤ ((x1 - 536870912) - 400) → Q (some (.inl x2)) σ) ∧ (((x1 - 536870912) - 400) < 200 → 0 ≤ ((x1 - 536870912) - 400) ∧ ((x1 - 536870912) - 400) < 200 ∧ (¬ (σ 14 ((x1 - 536870912) - 400).toNat) = 0 → Q (some (.inl x2)) σ) ∧ ((σ 14 ((x1 - 536870912) - 400).toNat) = 0 → (x2 < 200 → 0 ≤ ((x1 - 536870912) - 400) ∧ ((x1 - 536870912) - 400) < 200 ∧ mj_fit .boolean 1 ∧ ∀ σ1, σ1 = mj_up σ 14 ((x1 - 536870912) - 400).toNat 1 → 0 ≤ x2 ∧ x2 < 200 ∧ ∀ σ2, σ2 = mj_up σ1 15 x2.toNat ((x1 - 536870912) - 400) → mj_r (x2 + 1) ∧ Q (some (.inl (x2 + 1))) σ2) ∧ (200 ≤ x2 → Q (some (.inl x2)) σ))))) : mj_B mjc_L mjc_Ms (d + 1) 30 [.inr (.inl 2), .inl x1, .inl x2] σ Q := by
  refine mj_B_of (M := mjcM30) (ls := [some (.inr (.inl 2)), some (.inl x1), some (.inl x2), none]) rfl (mj_c1_all rfl) (Nat.le_of_ble_eq_true rfl) rfl ?_
  refine mr_iload (pc' := 1) rfl rfl rfl ?_
  refine mr_const (pc' := 3) rfl rfl (by unfold mj_r; decide) ?_
  obtain ⟨h0, h⟩ := h
  refine mr_isub (pc' := 4) rfl rfl h0 ?_
  refine mr_const (pc' := 7) rfl rfl (by unfold mj_r; decide) ?_
  obtain ⟨h0, h⟩ := h
  refine mr_isub (pc' := 8) rfl rfl h0 ?_
  refine mr_istore (pc' := 9) rfl rfl trivial (Nat.le_of_ble_eq_true rfl) rfl ?_
  refine mr_iload (pc' := 10) rfl rfl rfl ?_
  refine mr_if_lt (pc' := 13) rfl rfl (fun c => ?_) (fun c => ?_)
  · replace h := h.1 c
    refine mr_iload (pc' := 37) rfl rfl rfl ?_
    exact mr_iret rfl rfl trivial h
  · replace h := h.2 c
    refine mr_iload (pc' := 14) rfl rfl rfl ?_
    refine mr_const (pc' := 17) rfl rfl (by unfold mj_r; decide) ?_
    refine mr_ic_ge (pc' := 20) rfl rfl (fun c => ?_) (fun c => ?_)
    · replace h := h.1 c
      refine mr_iload (pc' := 37) rfl rfl rfl ?_
      exact mr_iret rfl rfl trivial h
    · replace h := h.2 c
      refine mr_aload (pc' := 21) rfl rfl rfl ?_
      refine mr_getr (ci := 0) (pc' := 24) rfl rfl rfl rfl ?_
      refine mr_iload (pc' := 25) rfl rfl rfl ?_
      obtain ⟨h0, h1, h⟩ := h
      refine mr_zald (pc' := 26) rfl rfl rfl h0 h1 ?_
      refine mr_if_ne (pc' := 29) rfl rfl (fun c => ?_) (fun c => ?_)
      · replace h := h.1 c
        refine mr_iload (pc' := 37) rfl rfl rfl ?_
        exact mr_iret rfl rfl trivial h
      · replace h := h.2 c
        refine mr_iload (pc' := 30) rfl rfl rfl ?_
        refine mr_const (pc' := 33) rfl rfl (by unfold mj_r; decide) ?_
        refine mr_ic_lt (pc' := 36) rfl rfl (fun c => ?_) (fun c => ?_)
        · replace h := h.1 c
          refine mr_aload (pc' := 39) rfl rfl rfl ?_
          refine mr_getr (ci := 0) (pc' := 42) rfl rfl rfl rfl ?_
          refine mr_iload (pc' := 43) rfl rfl rfl ?_
          refine mr_const (pc' := 44) rfl rfl (by unfold mj_r; decide) ?_
          obtain ⟨h0, h1, h2, h⟩ := h
          refine mr_zast (pc' := 45) rfl rfl rfl h0 h1 h2 (fun σ1 e9 => ?_)
          replace h := h σ1 e9
          refine mr_aload (pc' := 46) rfl rfl rfl ?_
          refine mr_getr (ci := 0) (pc' := 49) rfl rfl rfl rfl ?_
          refine mr_iload (pc' := 50) rfl rfl rfl ?_
          refine mr_iload (pc' := 51) rfl rfl rfl ?_
          obtain ⟨h0, h1, h⟩ := h
          refine mr_iast (pc' := 52) rfl rfl rfl h0 h1 (fun σ2 e9 => ?_)
          replace h := h σ2 e9
          refine mr_iload (pc' := 53) rfl rfl rfl ?_
          refine mr_const (pc' := 54) rfl rfl (by unfold mj_r; decide) ?_
          obtain ⟨h0, h⟩ := h
          refine mr_iadd (pc' := 55) rfl rfl h0 ?_
          exact mr_iret rfl rfl trivial h
        · replace h := h.2 c
          refine mr_iload (pc' := 37) rfl rfl rfl ?_
          exact mr_iret rfl rfl trivial h
def qh_c31_7 (d : Nat) (Q : mj_Q) (y1 : Int) (σ : mj_S) : Prop := mj_P mjc_L mjc_Ms d mjco31 ((Option.none : Option Jvm.ClassFile.FieldType)) Q 7 [some (.inr (.inl 2)), some (.inl y1)] [] σ
set_option maxRecDepth 20000 in
theorem qw_c31_7 {d : Nat} {Q : mj_Q} {y1 : Int} {σ : mj_S} (h : ((σ 2 0) ≤ y1 → Q none σ) ∧ (y1 < (σ 2 0) → (200 ≤ y1 → Q none σ) ∧ (y1 < 200 → 0 ≤ y1 ∧ y1 < 200 ∧ (¬ (σ 14 y1.toNat) = 0 → mj_r (y1 + 1) ∧ qh_c31_7 d Q (y1 + 1) σ) ∧ ((σ 14 y1.toNat) = 0 → 0 ≤ (σ 2 9) ∧ (σ 2 9) < 200 ∧ ∀ σ1, σ1 = mj_up σ 13 (σ 2 9).toNat y1 → mj_r ((σ1 2 9) + 1) ∧ ∀ σ2, σ2 = mj_up σ1 2 9 ((σ1 2 9) + 1) → mj_r (y1 + 1) ∧ qh_c31_7 d Q (y1 + 1) σ2)))) : qh_c31_7 d Q y1 σ := by
  show mj_P mjc_L mjc_Ms d mjco31 ((Option.none : Option Jvm.ClassFile.FieldType)) Q 7 [some (.inr (.inl 2)), some (.inl y1)] [] σ
  refine mr_iload (pc' := 8) rfl rfl rfl ?_
  refine mr_aload (pc' := 9) rfl rfl rfl ?_
  refine mr_get (ci := 0) (pc' := 12) rfl rfl rfl rfl ?_
  refine mr_ic_ge (pc' := 15) rfl rfl (fun c => ?_) (fun c => ?_)
  · replace h := h.1 c
    exact mr_ret rfl rfl h
  · replace h := h.2 c
    refine mr_iload (pc' := 16) rfl rfl rfl ?_
    refine mr_const (pc' := 19) rfl rfl (by unfold mj_r; decide) ?_
    refine mr_ic_ge (pc' := 22) rfl rfl (fun c => ?_) (fun c => ?_)
    · replace h := h.1 c
      exact mr_ret rfl rfl h
    · replace h := h.2 c
      refine mr_aload (pc' := 23) rfl rfl rfl ?_
      refine mr_getr (ci := 0) (pc' := 26) rfl rfl rfl rfl ?_
      refine mr_iload (pc' := 27) rfl rfl rfl ?_
      obtain ⟨h0, h1, h⟩ := h
      refine mr_zald (pc' := 28) rfl rfl rfl h0 h1 ?_
      refine mr_if_ne (pc' := 31) rfl rfl (fun c => ?_) (fun c => ?_)
      · replace h := h.1 c
        obtain ⟨h0, h⟩ := h
        refine mr_iinc (pc' := 54) rfl rfl rfl trivial h0 rfl ?_
        refine mr_goto rfl ?_
        exact mj_W_ls (mj_B_mono _) (mj_lev_of _ _ (by simp [mj_levb])) h
      · replace h := h.2 c
        refine mr_aload (pc' := 32) rfl rfl rfl ?_
        refine mr_getr (ci := 0) (pc' := 35) rfl rfl rfl rfl ?_
        refine mr_aload (pc' := 36) rfl rfl rfl ?_
        refine mr_get (ci := 0) (pc' := 39) rfl rfl rfl rfl ?_
        refine mr_iload (pc' := 40) rfl rfl rfl ?_
        obtain ⟨h0, h1, h⟩ := h
        refine mr_iast (pc' := 41) rfl rfl rfl h0 h1 (fun σ1 e9 => ?_)
        replace h := h σ1 e9
        refine mr_aload (pc' := 42) rfl rfl rfl ?_
        refine mr_dup (pc' := 43) rfl rfl trivial ?_
        refine mr_get (ci := 0) (pc' := 46) rfl rfl rfl rfl ?_
        refine mr_const (pc' := 47) rfl rfl (by unfold mj_r; decide) ?_
        obtain ⟨h0, h⟩ := h
        refine mr_iadd (pc' := 48) rfl rfl h0 ?_
        refine mr_put (pc' := 51) rfl rfl rfl rfl (fun σ2 e9 => ?_)
        replace h := h σ2 e9
        obtain ⟨h0, h⟩ := h
        refine mr_iinc (pc' := 54) rfl rfl rfl trivial h0 rfl ?_
        refine mr_goto rfl ?_
        exact mj_W_ls (mj_B_mono _) (mj_lev_of _ _ (by simp [mj_levb])) h
set_option maxRecDepth 20000 in
/-- ListSpeaker$Pairs.gatherFree_ -/
theorem wq_c31 {d : Nat} {σ : mj_S} {Q : mj_Q} (h : ∀ σ1, σ1 = mj_up σ 2 9 0 → qh_c31_7 d Q 0 σ1) : mj_B mjc_L mjc_Ms (d + 1) 31 [.inr (.inl 2)] σ Q := by
  refine mj_B_of (M := mjcM31) (ls := [some (.inr (.inl 2)), none]) rfl (mj_c1_all rfl) (Nat.le_of_ble_eq_true rfl) rfl ?_
  refine mr_aload (pc' := 1) rfl rfl rfl ?_
  refine mr_const (pc' := 2) rfl rfl (by unfold mj_r; decide) ?_
  refine mr_put (pc' := 5) rfl rfl rfl rfl (fun σ1 e9 => ?_)
  replace h := h σ1 e9
  refine mr_const (pc' := 6) rfl rfl (by unfold mj_r; decide) ?_
  refine mr_istore (pc' := 7) rfl rfl trivial (Nat.le_of_ble_eq_true rfl) rfl ?_
  exact mj_W_ls (mj_B_mono _) (mj_lev_of _ _ (by simp [mj_levb])) h
def qh_c32_25 (d : Nat) (Q : mj_Q) (y1 y2 y3 y4 y5 : Int) (σ : mj_S) : Prop := mj_P mjc_L mjc_Ms d mjco32 ((Option.some Jvm.ClassFile.FieldType.int)) Q 25 [some (.inr (.inl 2)), some (.inl y1), some (.inl y2), some (.inl y3), some (.inl y4), some (.inl y5), none, none] [] σ
set_option maxRecDepth 20000 in
theorem qw_c32_25 {d : Nat} {Q : mj_Q} {y1 y2 y3 y4 y5 : Int} {σ : mj_S} (h : (1000000 ≤ y5 → Q (some (.inl 0)) σ) ∧ (y5 < 1000000 → (y4 ≤ 0 → Q (some (.inl 0)) σ) ∧ (0 < y4 → mj_r (y4 + (-1)) ∧ 0 ≤ (y4 + (-1)) ∧ (y4 + (-1)) < 602 ∧ 0 ≤ (y4 + (-1)) ∧ (y4 + (-1)) < 602 ∧ (¬ (536870912 ≤ (σ 16 (y4 + (-1)).toNat)) → ((σ 16 (y4 + (-1)).toNat) = (σ 17 (y4 + (-1)).toNat) → mj_r (y5 + 1) ∧ qh_c32_25 (d + 1) Q y1 y2 y3 (y4 + (-1)) (y5 + 1) σ) ∧ (¬ (σ 16 (y4 + (-1)).toNat) = (σ 17 (y4 + (-1)).toNat) → Q (some (.inl 1)) σ)) ∧ (536870912 ≤ (σ 16 (y4 + (-1)).toNat) → (¬ (536870912 ≤ (σ 17 (y4 + (-1)).toNat)) → ((σ 16 (y4 + (-1)).toNat) = (σ 17 (y4 + (-1)).toNat) → mj_r (y5 + 1) ∧ qh_c32_25 (d + 1) Q y1 y2 y3 (y4 + (-1)) (y5 + 1) σ) ∧ (¬ (σ 16 (y4 + (-1)).toNat) = (σ 17 (y4 + (-1)).toNat) → Q (some (.inl 1)) σ)) ∧ (536870912 ≤ (σ 17 (y4 + (-1)).toNat) → (y3 ≤ (σ 2 11) → Q (some (.inl 2)) σ) ∧ ((σ 2 11) < y3 → mj_r ((y4 + (-1)) + 2) ∧ (((y4 + (-1)) + 2) ≤ 602 → mj_r ((σ 2 11) + 1) ∧ ∀ σ1, σ1 = mj_up σ 2 11 ((σ 2 11) + 1) → z_dr (σ 16 (y4 + (-1)).toNat) ∧ z_dr (σ 17 (y4 + (-1)).toNat) ∧ ∀ σ2, σ2 = z_aw σ1 (y4 + (-1)) (z_cd (σ1 12) (σ 16 (y4 + (-1)).toNat)) (z_cd (σ1 12) (σ 17 (y4 + (-1)).toNat)) → mj_r ((y4 + (-1)) + 1) ∧ z_dr (σ 16 (y4 + (-1)).toNat) ∧ z_dr (σ 17 (y4 + (-1)).toNat) ∧ ∀ σ3, σ3 = z_aw σ2 ((y4 + (-1)) + 1) (z_cd (σ2 11) (σ 16 (y4 + (-1)).toNat)) (z_cd (σ2 11) (σ 17 (y4 + (-1)).toNat)) → mj_r ((y4 + (-1)) + 2) ∧ mj_r (y5 + 1) ∧ qh_c32_25 (d + 1) Q y1 y2 y3 ((y4 + (-1)) + 2) (y5 + 1) σ3) ∧ (602 < ((y4 + (-1)) + 2) → Q (some (.inl 2)) σ))))))) : qh_c32_25 (d + 1) Q y1 y2 y3 y4 y5 σ := by
  show mj_P mjc_L mjc_Ms (d + 1) mjco32 ((Option.some Jvm.ClassFile.FieldType.int)) Q 25 [some (.inr (.inl 2)), some (.inl y1), some (.inl y2), some (.inl y3), some (.inl y4), some (.inl y5), none, none] [] σ
  refine mr_iload (pc' := 27) rfl rfl rfl ?_
  refine mr_const (pc' := 29) rfl rfl (by unfold mj_r; decide) ?_
  refine mr_ic_ge (pc' := 32) rfl rfl (fun c => ?_) (fun c => ?_)
  · replace h := h.1 c
    refine mr_const (pc' := 164) rfl rfl (by unfold mj_r; decide) ?_
    exact mr_iret rfl rfl trivial h
  · replace h := h.2 c
    refine mr_iload (pc' := 34) rfl rfl rfl ?_
    refine mr_if_le (pc' := 37) rfl rfl (fun c => ?_) (fun c => ?_)
    · replace h := h.1 c
      refine mr_const (pc' := 164) rfl rfl (by unfold mj_r; decide) ?_
      exact mr_iret rfl rfl trivial h
    · replace h := h.2 c
      obtain ⟨h0, h⟩ := h
      refine mr_iinc (pc' := 40) rfl rfl rfl trivial h0 rfl ?_
      refine mr_aload (pc' := 41) rfl rfl rfl ?_
      refine mr_getr (ci := 0) (pc' := 44) rfl rfl rfl rfl ?_
      refine mr_iload (pc' := 46) rfl rfl rfl ?_
      obtain ⟨h0, h1, h⟩ := h
      refine mr_iald (pc' := 47) rfl rfl rfl h0 h1 ?_
      refine mr_istore (pc' := 49) rfl rfl trivial (Nat.le_of_ble_eq_true rfl) rfl ?_
      refine mr_aload (pc' := 50) rfl rfl rfl ?_
      refine mr_getr (ci := 0) (pc' := 53) rfl rfl rfl rfl ?_
      refine mr_iload (pc' := 55) rfl rfl rfl ?_
      obtain ⟨h0, h1, h⟩ := h
      refine mr_iald (pc' := 56) rfl rfl rfl h0 h1 ?_
      refine mr_istore (pc' := 58) rfl rfl trivial (Nat.le_of_ble_eq_true rfl) rfl ?_
      refine mr_iload (pc' := 60) rfl rfl rfl ?_
      refine mr_call (t := []) (pc' := 63) rfl [.inl (σ 16 (y4 + (-1)).toNat)] rfl rfl rfl trivial (Nat.le_of_ble_eq_true rfl) (s_c9  ?_)
      refine mr_if_eq (pc' := 66) rfl rfl (fun c => ?_) (fun c => ?_)
      · replace h := h.1 (bo_0 c)
        refine mr_iload (pc' := 150) rfl rfl rfl ?_
        refine mr_iload (pc' := 152) rfl rfl rfl ?_
        refine mr_ic_eq (pc' := 155) rfl rfl (fun c => ?_) (fun c => ?_)
        · replace h := h.1 c
          obtain ⟨h0, h⟩ := h
          refine mr_iinc (pc' := 160) rfl rfl rfl trivial h0 rfl ?_
          refine mr_goto rfl ?_
          exact mj_W_ls (mj_B_mono _) (mj_lev_of _ _ (by simp [mj_levb])) h
        · replace h := h.2 c
          refine mr_const (pc' := 156) rfl rfl (by unfold mj_r; decide) ?_
          exact mr_iret rfl rfl trivial h
      · replace h := h.2 (bo_1 c)
        refine mr_iload (pc' := 68) rfl rfl rfl ?_
        refine mr_call (t := []) (pc' := 71) rfl [.inl (σ 17 (y4 + (-1)).toNat)] rfl rfl rfl trivial (Nat.le_of_ble_eq_true rfl) (s_c9  ?_)
        refine mr_if_eq (pc' := 74) rfl rfl (fun c => ?_) (fun c => ?_)
        · replace h := h.1 (bo_0 c)
          refine mr_iload (pc' := 150) rfl rfl rfl ?_
          refine mr_iload (pc' := 152) rfl rfl rfl ?_
          refine mr_ic_eq (pc' := 155) rfl rfl (fun c => ?_) (fun c => ?_)
          · replace h := h.1 c
            obtain ⟨h0, h⟩ := h
            refine mr_iinc (pc' := 160) rfl rfl rfl trivial h0 rfl ?_
            refine mr_goto rfl ?_
            exact mj_W_ls (mj_B_mono _) (mj_lev_of _ _ (by simp [mj_levb])) h
          · replace h := h.2 c
            refine mr_const (pc' := 156) rfl rfl (by unfold mj_r; decide) ?_
            exact mr_iret rfl rfl trivial h
        · replace h := h.2 (bo_1 c)
          refine mr_aload (pc' := 75) rfl rfl rfl ?_
          refine mr_get (ci := 0) (pc' := 78) rfl rfl rfl rfl ?_
          refine mr_iload (pc' := 79) rfl rfl rfl ?_
          refine mr_ic_ge (pc' := 82) rfl rfl (fun c => ?_) (fun c => ?_)
          · replace h := h.1 c
            refine mr_const (pc' := 93) rfl rfl (by unfold mj_r; decide) ?_
            exact mr_iret rfl rfl trivial h
          · replace h := h.2 c
            refine mr_iload (pc' := 84) rfl rfl rfl ?_
            refine mr_const (pc' := 85) rfl rfl (by unfold mj_r; decide) ?_
            obtain ⟨h0, h⟩ := h
            refine mr_iadd (pc' := 86) rfl rfl h0 ?_
            refine mr_const (pc' := 89) rfl rfl (by unfold mj_r; decide) ?_
            refine mr_ic_le (pc' := 92) rfl rfl (fun c => ?_) (fun c => ?_)
            · replace h := h.1 c
              refine mr_aload (pc' := 95) rfl rfl rfl ?_
              refine mr_dup (pc' := 96) rfl rfl trivial ?_
              refine mr_get (ci := 0) (pc' := 99) rfl rfl rfl rfl ?_
              refine mr_const (pc' := 100) rfl rfl (by unfold mj_r; decide) ?_
              obtain ⟨h0, h⟩ := h
              refine mr_iadd (pc' := 101) rfl rfl h0 ?_
              refine mr_put (pc' := 104) rfl rfl rfl rfl (fun σ1 e9 => ?_)
              replace h := h σ1 e9
              refine mr_aload (pc' := 105) rfl rfl rfl ?_
              refine mr_iload (pc' := 107) rfl rfl rfl ?_
              refine mr_aload (pc' := 108) rfl rfl rfl ?_
              refine mr_iload (pc' := 110) rfl rfl rfl ?_
              obtain ⟨h0, h⟩ := h
              refine mr_call (t := [(2, 0)]) (pc' := 113) rfl [.inr (.inl 2), .inl (σ 16 (y4 + (-1)).toNat)] rfl rfl rfl (mj_recvV rfl) (Nat.le_of_ble_eq_true rfl) (s_c21 h0 ?_)
              refine mr_aload (pc' := 114) rfl rfl rfl ?_
              refine mr_iload (pc' := 116) rfl rfl rfl ?_
              obtain ⟨h0, h⟩ := h
              refine mr_call (t := [(2, 0)]) (pc' := 119) rfl [.inr (.inl 2), .inl (σ 17 (y4 + (-1)).toNat)] rfl rfl rfl (mj_recvV rfl) (Nat.le_of_ble_eq_true rfl) (s_c21 h0 ?_)
              refine mr_call (t := [(2, 0)]) (pc' := 122) rfl [.inr (.inl 2), .inl (y4 + (-1)), .inl (z_cd (σ1 12) (σ 16 (y4 + (-1)).toNat)), .inl (z_cd (σ1 12) (σ 17 (y4 + (-1)).toNat))] rfl rfl rfl (mj_recvV rfl) (Nat.le_of_ble_eq_true rfl) (s_c33  (fun σ2 e9 => ?_))
              replace h := h σ2 e9
              refine mr_aload (pc' := 123) rfl rfl rfl ?_
              refine mr_iload (pc' := 125) rfl rfl rfl ?_
              refine mr_const (pc' := 126) rfl rfl (by unfold mj_r; decide) ?_
              obtain ⟨h0, h⟩ := h
              refine mr_iadd (pc' := 127) rfl rfl h0 ?_
              refine mr_aload (pc' := 128) rfl rfl rfl ?_
              refine mr_iload (pc' := 130) rfl rfl rfl ?_
              obtain ⟨h0, h⟩ := h
              refine mr_call (t := [(2, 0)]) (pc' := 133) rfl [.inr (.inl 2), .inl (σ 16 (y4 + (-1)).toNat)] rfl rfl rfl (mj_recvV rfl) (Nat.le_of_ble_eq_true rfl) (s_c20 h0 ?_)
              refine mr_aload (pc' := 134) rfl rfl rfl ?_
              refine mr_iload (pc' := 136) rfl rfl rfl ?_
              obtain ⟨h0, h⟩ := h
              refine mr_call (t := [(2, 0)]) (pc' := 139) rfl [.inr (.inl 2), .inl (σ 17 (y4 + (-1)).toNat)] rfl rfl rfl (mj_recvV rfl) (Nat.le_of_ble_eq_true rfl) (s_c20 h0 ?_)
              refine mr_call (t := [(2, 0)]) (pc' := 142) rfl [.inr (.inl 2), .inl ((y4 + (-1)) + 1), .inl (z_cd (σ2 11) (σ 16 (y4 + (-1)).toNat)), .inl (z_cd (σ2 11) (σ 17 (y4 + (-1)).toNat))] rfl rfl rfl (mj_recvV rfl) (Nat.le_of_ble_eq_true rfl) (s_c33  (fun σ3 e9 => ?_))
              replace h := h σ3 e9
              obtain ⟨h0, h⟩ := h
              refine mr_iinc (pc' := 145) rfl rfl rfl trivial h0 rfl ?_
              refine mr_goto rfl ?_
              obtain ⟨h0, h⟩ := h
              refine mr_iinc (pc' := 160) rfl rfl rfl trivial h0 rfl ?_
              refine mr_goto rfl ?_
              exact mj_W_ls (mj_B_mono _) (mj_lev_of _ _ (by simp [mj_levb])) h
            · replace h := h.2 c
              refine mr_const (pc' := 93) rfl rfl (by unfold mj_r; decide) ?_
              exact mr_iret rfl rfl trivial h
set_option maxRecDepth 20000 in
/-- ListSpeaker$Pairs.compare_ -/
theorem wq_c32 {d : Nat} {σ : mj_S} {Q : mj_Q} {x1 x2 x3 : Int} (h : ∀ σ1, σ1 = mj_up σ 2 11 0 → 0 ≤ (0 : Int) ∧ (0 : Int) < 602 ∧ ∀ σ2, σ2 = mj_up σ1 16 (0 : Int).toNat x1 → 0 ≤ (0 : Int) ∧ (0 : Int) < 602 ∧ ∀ σ3, σ3 = mj_up σ2 17 (0 : Int).toNat x2 → qh_c32_25 (d + 1) Q x1 x2 x3 1 0 σ3) : mj_B mjc_L mjc_Ms (d + 2) 32 [.inr (.inl 2), .inl x1, .inl x2, .inl x3] σ Q := by
  refine mj_B_of (M := mjcM32) (ls := [some (.inr (.inl 2)), some (.inl x1), some (.inl x2), some (.inl x3), none, none, none, none]) rfl (mj_c1_all rfl) (Nat.le_of_ble_eq_true rfl) rfl ?_
  refine mr_aload (pc' := 1) rfl rfl rfl ?_
  refine mr_const (pc' := 2) rfl rfl (by unfold mj_r; decide) ?_
  refine mr_put (pc' := 5) rfl rfl rfl rfl (fun σ1 e9 => ?_)
  replace h := h σ1 e9
  refine mr_aload (pc' := 6) rfl rfl rfl ?_
  refine mr_getr (ci := 0) (pc' := 9) rfl rfl rfl rfl ?_
  refine mr_const (pc' := 10) rfl rfl (by unfold mj_r; decide) ?_
  refine mr_iload (pc' := 11) rfl rfl rfl ?_
  obtain ⟨h0, h1, h⟩ := h
  refine mr_iast (pc' := 12) rfl rfl rfl h0 h1 (fun σ2 e9 => ?_)
  replace h := h σ2 e9
  refine mr_aload (pc' := 13) rfl rfl rfl ?_
  refine mr_getr (ci := 0) (pc' := 16) rfl rfl rfl rfl ?_
  refine mr_const (pc' := 17) rfl rfl (by unfold mj_r; decide) ?_
  refine mr_iload (pc' := 18) rfl rfl rfl ?_
  obtain ⟨h0, h1, h⟩ := h
  refine mr_iast (pc' := 19) rfl rfl rfl h0 h1 (fun σ3 e9 => ?_)
  replace h := h σ3 e9
  refine mr_const (pc' := 20) rfl rfl (by unfold mj_r; decide) ?_
  refine mr_istore (pc' := 22) rfl rfl trivial (Nat.le_of_ble_eq_true rfl) rfl ?_
  refine mr_const (pc' := 23) rfl rfl (by unfold mj_r; decide) ?_
  refine mr_istore (pc' := 25) rfl rfl trivial (Nat.le_of_ble_eq_true rfl) rfl ?_
  exact mj_W_ls (mj_B_mono _) (mj_lev_of _ _ (by simp [mj_levb])) h
set_option maxRecDepth 20000 in
/-- ListSpeaker$Reader.hasMore_ -/
theorem wq_c37 {d : Nat} {σ : mj_S} {Q : mj_Q} (h : mj_B mjc_L mjc_Ms d 48 [.inr (.inl 3)] σ (fun r σ1 => r = none ∧ ((σ1 3 3) ≤ (σ1 3 4) → Q (some (.inl 0)) σ1) ∧ ((σ1 3 4) < (σ1 3 3) → Q (some (.inl 1)) σ1))) : mj_B mjc_L mjc_Ms (d + 1) 37 [.inr (.inl 3)] σ Q := by
  refine mj_B_of (M := mjcM37) (ls := [some (.inr (.inl 3))]) rfl (mj_c1_all rfl) (Nat.le_of_ble_eq_true rfl) rfl ?_
  refine mr_aload (pc' := 1) rfl rfl rfl ?_
  refine mr_call (t := [(3, 0)]) (pc' := 4) rfl [.inr (.inl 3)] rfl rfl rfl (mj_recvV rfl) (Nat.le_of_ble_eq_true rfl) (mj_B_mono _ _ _ _ _ _ (fun r σ1 h => ?_) h)
  obtain ⟨rfl, h⟩ := h
  refine mr_aload (pc' := 5) rfl rfl rfl ?_
  refine mr_get (ci := 0) (pc' := 8) rfl rfl rfl rfl ?_
  refine mr_aload (pc' := 9) rfl rfl rfl ?_
  refine mr_get (ci := 0) (pc' := 12) rfl rfl rfl rfl ?_
  refine mr_ic_ge (pc' := 15) rfl rfl (fun c => ?_) (fun c => ?_)
  · replace h := h.1 c
    refine mr_const (pc' := 20) rfl rfl (by unfold mj_r; decide) ?_
    exact mr_iret rfl rfl (by simp [mj_fit]) h
  · replace h := h.2 c
    refine mr_const (pc' := 16) rfl rfl (by unfold mj_r; decide) ?_
    refine mr_goto rfl ?_
    exact mr_iret rfl rfl (by simp [mj_fit]) h
set_option maxRecDepth 20000 in
/-- ListSpeaker$Reader.next_ -/
theorem wq_c38 {d : Nat} {σ : mj_S} {Q : mj_Q} (h : mj_B mjc_L mjc_Ms d 39 [.inr (.inl 3), .inl 0] σ (fun r σ1 => ∃ v2, r = some (.inl v2) ∧ Q (some (.inl v2)) σ1)) : mj_B mjc_L mjc_Ms (d + 1) 38 [.inr (.inl 3)] σ Q := by
  refine mj_B_of (M := mjcM38) (ls := [some (.inr (.inl 3))]) rfl (mj_c1_all rfl) (Nat.le_of_ble_eq_true rfl) rfl ?_
  refine mr_aload (pc' := 1) rfl rfl rfl ?_
  refine mr_const (pc' := 2) rfl rfl (by unfold mj_r; decide) ?_
  refine mr_call (t := [(3, 0)]) (pc' := 5) rfl [.inr (.inl 3), .inl 0] rfl rfl rfl (mj_recvV rfl) (Nat.le_of_ble_eq_true rfl) (mj_B_mono _ _ _ _ _ _ (fun r σ1 h => ?_) h)
  obtain ⟨v2, rfl, h⟩ := h
  exact mr_iret rfl rfl trivial h
set_option maxRecDepth 20000 in
/-- ListSpeaker$Reader.datum_ -/
theorem wq_c39 {d : Nat} {σ : mj_S} {Q : mj_Q} {x1 : Int} (h : (x1 ≤ 12 → mj_B mjc_L mjc_Ms (d + 1) 48 [.inr (.inl 3)] σ (fun r σ1 => r = none ∧ 0 ≤ σ1 3 4 ∧ σ1 3 3 ≤ 300 ∧ (¬ (σ1 3 4 < σ1 3 3 ∧ σ1 18 (σ1 3 4).toNat = 40) → 0 ≤ σ1 3 4 ∧ σ1 3 3 ≤ 300 ∧ (¬ (σ1 3 4 < σ1 3 3 ∧ σ1 18 (σ1 3 4).toNat = 39) → mj_B mjc_L mjc_Ms (d + 1) 44 [.inr (.inl 3)] σ1 (fun r σ2 => ∃ v3, r = some (.inl v3) ∧ Q (some (.inl v3)) σ2)) ∧ (σ1 3 4 < σ1 3 3 ∧ σ1 18 (σ1 3 4).toNat = 39 → mj_r ((σ1 3 4) + 1) ∧ ∀ σ4, σ4 = mj_up σ1 3 4 ((σ1 3 4) + 1) → mj_r (x1 + 1) ∧ mj_B mjc_L mjc_Ms (d + 1) 43 [.inr (.inl 3), .inl (x1 + 1)] σ4 (fun r σ5 => ∃ v6, r = some (.inl v6) ∧ Q (some (.inl v6)) σ5))) ∧ (σ1 3 4 < σ1 3 3 ∧ σ1 18 (σ1 3 4).toNat = 40 → mj_r ((σ1 3 4) + 1) ∧ ∀ σ7, σ7 = mj_up σ1 3 4 ((σ1 3 4) + 1) → mj_r (x1 + 1) ∧ mj_B mjc_L mjc_Ms (d + 1) 40 [.inr (.inl 3), .inl (x1 + 1)] σ7 (fun r σ8 => ∃ v9, r = some (.inl v9) ∧ Q (some (.inl v9)) σ8)))) ∧ (12 < x1 → Q (some (.inl (-1))) σ)) : mj_B mjc_L mjc_Ms (d + 2) 39 [.inr (.inl 3), .inl x1] σ Q := by
  refine mj_B_of (M := mjcM39) (ls := [some (.inr (.inl 3)), some (.inl x1)]) rfl (mj_c1_all rfl) (Nat.le_of_ble_eq_true rfl) rfl ?_
  refine mr_iload (pc' := 1) rfl rfl rfl ?_
  refine mr_const (pc' := 3) rfl rfl (by unfold mj_r; decide) ?_
  refine mr_ic_le (pc' := 6) rfl rfl (fun c => ?_) (fun c => ?_)
  · replace h := h.1 c
    refine mr_aload (pc' := 9) rfl rfl rfl ?_
    refine mr_call (t := [(3, 0)]) (pc' := 12) rfl [.inr (.inl 3)] rfl rfl rfl (mj_recvV rfl) (Nat.le_of_ble_eq_true rfl) (mj_B_mono _ _ _ _ _ _ (fun r σ1 h => ?_) h)
    obtain ⟨rfl, h⟩ := h
    refine mr_aload (pc' := 13) rfl rfl rfl ?_
    refine mr_const (pc' := 15) rfl rfl (by unfold mj_r; decide) ?_
    obtain ⟨h0, h1, h⟩ := h
    refine mr_call (t := [(3, 0)]) (pc' := 18) rfl [.inr (.inl 3), .inl 40] rfl rfl rfl (mj_recvV rfl) (Nat.le_of_ble_eq_true rfl) (s_c49 h0 h1 ?_)
    refine mr_if_eq (pc' := 21) rfl rfl (fun c => ?_) (fun c => ?_)
    · replace h := h.1 (bo_0 c)
      refine mr_aload (pc' := 40) rfl rfl rfl ?_
      refine mr_const (pc' := 42) rfl rfl (by unfold mj_r; decide) ?_
      obtain ⟨h0, h1, h⟩ := h
      refine mr_call (t := [(3, 0)]) (pc' := 45) rfl [.inr (.inl 3), .inl 39] rfl rfl rfl (mj_recvV rfl) (Nat.le_of_ble_eq_true rfl) (s_c49 h0 h1 ?_)
      refine mr_if_eq (pc' := 48) rfl rfl (fun c => ?_) (fun c => ?_)
      · replace h := h.1 (bo_0 c)
        refine mr_aload (pc' := 67) rfl rfl rfl ?_
        refine mr_call (t := [(3, 0)]) (pc' := 70) rfl [.inr (.inl 3)] rfl rfl rfl (mj_recvV rfl) (Nat.le_of_ble_eq_true rfl) (mj_B_mono _ _ _ _ _ _ (fun r σ2 h => ?_) h)
        obtain ⟨v3, rfl, h⟩ := h
        exact mr_iret rfl rfl trivial h
      · replace h := h.2 (bo_1 c)
        refine mr_aload (pc' := 49) rfl rfl rfl ?_
        refine mr_dup (pc' := 50) rfl rfl trivial ?_
        refine mr_get (ci := 0) (pc' := 53) rfl rfl rfl rfl ?_
        refine mr_const (pc' := 54) rfl rfl (by unfold mj_r; decide) ?_
        obtain ⟨h0, h⟩ := h
        refine mr_iadd (pc' := 55) rfl rfl h0 ?_
        refine mr_put (pc' := 58) rfl rfl rfl rfl (fun σ4 e9 => ?_)
        replace h := h σ4 e9
        refine mr_aload (pc' := 59) rfl rfl rfl ?_
        refine mr_iload (pc' := 60) rfl rfl rfl ?_
        refine mr_const (pc' := 61) rfl rfl (by unfold mj_r; decide) ?_
        obtain ⟨h0, h⟩ := h
        refine mr_iadd (pc' := 62) rfl rfl h0 ?_
        refine mr_call (t := [(3, 0)]) (pc' := 65) rfl [.inr (.inl 3), .inl (x1 + 1)] rfl rfl rfl (mj_recvV rfl) (Nat.le_of_ble_eq_true rfl) (mj_B_mono _ _ _ _ _ _ (fun r σ5 h => ?_) h)
        obtain ⟨v6, rfl, h⟩ := h
        exact mr_iret rfl rfl trivial h
    · replace h := h.2 (bo_1 c)
      refine mr_aload (pc' := 22) rfl rfl rfl ?_
      refine mr_dup (pc' := 23) rfl rfl trivial ?_
      refine mr_get (ci := 0) (pc' := 26) rfl rfl rfl rfl ?_
      refine mr_const (pc' := 27) rfl rfl (by unfold mj_r; decide) ?_
      obtain ⟨h0, h⟩ := h
      refine mr_iadd (pc' := 28) rfl rfl h0 ?_
      refine mr_put (pc' := 31) rfl rfl rfl rfl (fun σ7 e9 => ?_)
      replace h := h σ7 e9
      refine mr_aload (pc' := 32) rfl rfl rfl ?_
      refine mr_iload (pc' := 33) rfl rfl rfl ?_
      refine mr_const (pc' := 34) rfl rfl (by unfold mj_r; decide) ?_
      obtain ⟨h0, h⟩ := h
      refine mr_iadd (pc' := 35) rfl rfl h0 ?_
      refine mr_call (t := [(3, 0)]) (pc' := 38) rfl [.inr (.inl 3), .inl (x1 + 1)] rfl rfl rfl (mj_recvV rfl) (Nat.le_of_ble_eq_true rfl) (mj_B_mono _ _ _ _ _ _ (fun r σ8 h => ?_) h)
      obtain ⟨v9, rfl, h⟩ := h
      exact mr_iret rfl rfl trivial h
  · replace h := h.2 c
    refine mr_const (pc' := 7) rfl rfl (by unfold mj_r; decide) ?_
    exact mr_iret rfl rfl trivial h
def qh_c40_8 (d : Nat) (Q : mj_Q) (y1 y2 y3 y4 : Int) (σ : mj_S) : Prop := mj_P mjc_L mjc_Ms d mjco40 ((Option.some Jvm.ClassFile.FieldType.int)) Q 8 [some (.inr (.inl 3)), some (.inl y1), some (.inl y2), some (.inl y3), some (.inl y4), none] [] σ
set_option maxRecDepth 20000 in
theorem qw_c40_8 {d : Nat} {Q : mj_Q} {y1 y2 y3 y4 : Int} {σ : mj_S} (h : (300 < y4 → Q (some (.inl (-1))) σ) ∧ (y4 ≤ 300 → mj_B mjc_L mjc_Ms (d + 1) 48 [.inr (.inl 3)] σ (fun r σ1 => r = none ∧ 0 ≤ σ1 3 4 ∧ σ1 3 3 ≤ 300 ∧ (¬ (σ1 3 4 < σ1 3 3 ∧ σ1 18 (σ1 3 4).toNat = 41) → mj_B mjc_L mjc_Ms (d + 1) 50 [.inr (.inl 3)] σ1 (fun r σ2 => ∃ v3, r = some (.inl v3) ∧ (v3 = 0 → mj_B mjc_L mjc_Ms (d + 1) 41 [.inr (.inl 3), .inl y1] σ2 (fun r σ4 => ∃ v5, r = some (.inl v5) ∧ (0 ≤ v5 → (¬ y3 = (-1) → z_dr y3 ∧ σ4 2 8 ≤ 400 ∧ ∀ σ6, σ6 = z_ew σ4 y3 v5 → mj_r (y4 + 1) ∧ qh_c40_8 (d + 1) Q y1 y2 v5 (y4 + 1) σ6) ∧ (y3 = (-1) → z_dr y3 ∧ σ4 2 8 ≤ 400 ∧ ∀ σ7, σ7 = z_ew σ4 y3 v5 → mj_r (y4 + 1) ∧ qh_c40_8 (d + 1) Q y1 v5 v5 (y4 + 1) σ7)) ∧ (v5 < 0 → Q (some (.inl v5)) σ4))) ∧ (¬ v3 = 0 → (¬ y3 = (-1) → mj_B mjc_L mjc_Ms (d + 1) 42 [.inr (.inl 3), .inl y2, .inl y3, .inl y1] σ2 (fun r σ8 => ∃ v9, r = some (.inl v9) ∧ Q (some (.inl v9)) σ8)) ∧ (y3 = (-1) → Q (some (.inl (-1))) σ2)))) ∧ (σ1 3 4 < σ1 3 3 ∧ σ1 18 (σ1 3 4).toNat = 41 → mj_r ((σ1 3 4) + 1) ∧ ∀ σ10, σ10 = mj_up σ1 3 4 ((σ1 3 4) + 1) → Q (some (.inl y2)) σ10)))) : qh_c40_8 (d + 1) Q y1 y2 y3 y4 σ := by
  show mj_P mjc_L mjc_Ms (d + 1) mjco40 ((Option.some Jvm.ClassFile.FieldType.int)) Q 8 [some (.inr (.inl 3)), some (.inl y1), some (.inl y2), some (.inl y3), some (.inl y4), none] [] σ
  refine mr_iload (pc' := 10) rfl rfl rfl ?_
  refine mr_const (pc' := 13) rfl rfl (by unfold mj_r; decide) ?_
  refine mr_ic_gt (pc' := 16) rfl rfl (fun c => ?_) (fun c => ?_)
  · replace h := h.1 c
    refine mr_const (pc' := 108) rfl rfl (by unfold mj_r; decide) ?_
    exact mr_iret rfl rfl trivial h
  · replace h := h.2 c
    refine mr_aload (pc' := 17) rfl rfl rfl ?_
    refine mr_call (t := [(3, 0)]) (pc' := 20) rfl [.inr (.inl 3)] rfl rfl rfl (mj_recvV rfl) (Nat.le_of_ble_eq_true rfl) (mj_B_mono _ _ _ _ _ _ (fun r σ1 h => ?_) h)
    obtain ⟨rfl, h⟩ := h
    refine mr_aload (pc' := 21) rfl rfl rfl ?_
    refine mr_const (pc' := 23) rfl rfl (by unfold mj_r; decide) ?_
    obtain ⟨h0, h1, h⟩ := h
    refine mr_call (t := [(3, 0)]) (pc' := 26) rfl [.inr (.inl 3), .inl 41] rfl rfl rfl (mj_recvV rfl) (Nat.le_of_ble_eq_true rfl) (s_c49 h0 h1 ?_)
    refine mr_if_eq (pc' := 29) rfl rfl (fun c => ?_) (fun c => ?_)
    · replace h := h.1 (bo_0 c)
      refine mr_aload (pc' := 42) rfl rfl rfl ?_
      refine mr_call (t := [(3, 0)]) (pc' := 45) rfl [.inr (.inl 3)] rfl rfl rfl (mj_recvV rfl) (Nat.le_of_ble_eq_true rfl) (mj_B_mono _ _ _ _ _ _ (fun r σ2 h => ?_) h)
      obtain ⟨v3, rfl, h⟩ := h
      refine mr_if_eq (pc' := 48) rfl rfl (fun c => ?_) (fun c => ?_)
      · replace h := h.1 c
        refine mr_aload (pc' := 66) rfl rfl rfl ?_
        refine mr_iload (pc' := 67) rfl rfl rfl ?_
        refine mr_call (t := [(3, 0)]) (pc' := 70) rfl [.inr (.inl 3), .inl y1] rfl rfl rfl (mj_recvV rfl) (Nat.le_of_ble_eq_true rfl) (mj_B_mono _ _ _ _ _ _ (fun r σ4 h => ?_) h)
        obtain ⟨v5, rfl, h⟩ := h
        refine mr_istore (pc' := 72) rfl rfl trivial (Nat.le_of_ble_eq_true rfl) rfl ?_
        refine mr_iload (pc' := 74) rfl rfl rfl ?_
        refine mr_if_ge (pc' := 77) rfl rfl (fun c => ?_) (fun c => ?_)
        · replace h := h.1 c
          refine mr_iload (pc' := 81) rfl rfl rfl ?_
          refine mr_const (pc' := 82) rfl rfl (by unfold mj_r; decide) ?_
          refine mr_ic_ne (pc' := 85) rfl rfl (fun c => ?_) (fun c => ?_)
          · replace h := h.1 c
            refine mr_aload (pc' := 89) rfl rfl rfl ?_
            refine mr_getr (ci := 0) (pc' := 92) rfl rfl rfl rfl ?_
            refine mr_iload (pc' := 93) rfl rfl rfl ?_
            refine mr_iload (pc' := 95) rfl rfl rfl ?_
            obtain ⟨h0, h1, h⟩ := h
            refine mr_call (t := [(2, 0)]) (pc' := 98) rfl [.inr (.inl 2), .inl y3, .inl v5] rfl rfl rfl (mj_recvV rfl) (Nat.le_of_ble_eq_true rfl) (s_c25 h0 h1 (fun σ6 e9 => ?_))
            replace h := h σ6 e9
            refine mr_iload (pc' := 100) rfl rfl rfl ?_
            refine mr_istore (pc' := 101) rfl rfl trivial (Nat.le_of_ble_eq_true rfl) rfl ?_
            obtain ⟨h0, h⟩ := h
            refine mr_iinc (pc' := 104) rfl rfl rfl trivial h0 rfl ?_
            refine mr_goto rfl ?_
            exact mj_W_ls (mj_B_mono _) (mj_lev_of _ _ (by simp [mj_levb])) h
          · replace h := h.2 c
            refine mr_iload (pc' := 87) rfl rfl rfl ?_
            refine mr_istore (pc' := 88) rfl rfl trivial (Nat.le_of_ble_eq_true rfl) rfl ?_
            refine mr_aload (pc' := 89) rfl rfl rfl ?_
            refine mr_getr (ci := 0) (pc' := 92) rfl rfl rfl rfl ?_
            refine mr_iload (pc' := 93) rfl rfl rfl ?_
            refine mr_iload (pc' := 95) rfl rfl rfl ?_
            obtain ⟨h0, h1, h⟩ := h
            refine mr_call (t := [(2, 0)]) (pc' := 98) rfl [.inr (.inl 2), .inl y3, .inl v5] rfl rfl rfl (mj_recvV rfl) (Nat.le_of_ble_eq_true rfl) (s_c25 h0 h1 (fun σ7 e9 => ?_))
            replace h := h σ7 e9
            refine mr_iload (pc' := 100) rfl rfl rfl ?_
            refine mr_istore (pc' := 101) rfl rfl trivial (Nat.le_of_ble_eq_true rfl) rfl ?_
            obtain ⟨h0, h⟩ := h
            refine mr_iinc (pc' := 104) rfl rfl rfl trivial h0 rfl ?_
            refine mr_goto rfl ?_
            exact mj_W_ls (mj_B_mono _) (mj_lev_of _ _ (by simp [mj_levb])) h
        · replace h := h.2 c
          refine mr_iload (pc' := 79) rfl rfl rfl ?_
          exact mr_iret rfl rfl trivial h
      · replace h := h.2 c
        refine mr_iload (pc' := 49) rfl rfl rfl ?_
        refine mr_const (pc' := 50) rfl rfl (by unfold mj_r; decide) ?_
        refine mr_ic_ne (pc' := 53) rfl rfl (fun c => ?_) (fun c => ?_)
        · replace h := h.1 c
          refine mr_aload (pc' := 58) rfl rfl rfl ?_
          refine mr_iload (pc' := 59) rfl rfl rfl ?_
          refine mr_iload (pc' := 60) rfl rfl rfl ?_
          refine mr_iload (pc' := 61) rfl rfl rfl ?_
          refine mr_call (t := [(3, 0)]) (pc' := 64) rfl [.inr (.inl 3), .inl y2, .inl y3, .inl y1] rfl rfl rfl (mj_recvV rfl) (Nat.le_of_ble_eq_true rfl) (mj_B_mono _ _ _ _ _ _ (fun r σ8 h => ?_) h)
          obtain ⟨v9, rfl, h⟩ := h
          exact mr_iret rfl rfl trivial h
        · replace h := h.2 c
          refine mr_const (pc' := 54) rfl rfl (by unfold mj_r; decide) ?_
          refine mr_goto rfl ?_
          exact mr_iret rfl rfl trivial h
    · replace h := h.2 (bo_1 c)
      refine mr_aload (pc' := 30) rfl rfl rfl ?_
      refine mr_dup (pc' := 31) rfl rfl trivial ?_
      refine mr_get (ci := 0) (pc' := 34) rfl rfl rfl rfl ?_
      refine mr_const (pc' := 35) rfl rfl (by unfold mj_r; decide) ?_
      obtain ⟨h0, h⟩ := h
      refine mr_iadd (pc' := 36) rfl rfl h0 ?_
      refine mr_put (pc' := 39) rfl rfl rfl rfl (fun σ10 e9 => ?_)
      replace h := h σ10 e9
      refine mr_iload (pc' := 40) rfl rfl rfl ?_
      exact mr_iret rfl rfl trivial h
set_option maxRecDepth 20000 in
/-- ListSpeaker$Reader.list_ -/
theorem wq_c40 {d : Nat} {σ : mj_S} {Q : mj_Q} {x1 : Int} (h : qh_c40_8 (d + 1) Q x1 268435456 (-1) 0 σ) : mj_B mjc_L mjc_Ms (d + 2) 40 [.inr (.inl 3), .inl x1] σ Q := by
  refine mj_B_of (M := mjcM40) (ls := [some (.inr (.inl 3)), some (.inl x1), none, none, none, none]) rfl (mj_c1_all rfl) (Nat.le_of_ble_eq_true rfl) rfl ?_
  refine mr_const (pc' := 2) rfl rfl (by unfold mj_r; decide) ?_
  refine mr_istore (pc' := 3) rfl rfl trivial (Nat.le_of_ble_eq_true rfl) rfl ?_
  refine mr_const (pc' := 4) rfl rfl (by unfold mj_r; decide) ?_
  refine mr_istore (pc' := 5) rfl rfl trivial (Nat.le_of_ble_eq_true rfl) rfl ?_
  refine mr_const (pc' := 6) rfl rfl (by unfold mj_r; decide) ?_
  refine mr_istore (pc' := 8) rfl rfl trivial (Nat.le_of_ble_eq_true rfl) rfl ?_
  exact mj_W_ls (mj_B_mono _) (mj_lev_of _ _ (by simp [mj_levb])) h
set_option maxRecDepth 20000 in
/-- ListSpeaker$Reader.member_ -/
theorem wq_c41 {d : Nat} {σ : mj_S} {Q : mj_Q} {x1 : Int} (h : mj_B mjc_L mjc_Ms (d + 1) 39 [.inr (.inl 3), .inl x1] σ (fun r σ1 => ∃ v2, r = some (.inl v2) ∧ (0 ≤ v2 → 0 ≤ σ1 2 8 ∧ ∀ σ3, σ3 = z_sto σ1 v2 268435456 → Q (some (.inl (if σ1 2 8 < 400 then 536870912 + σ1 2 8 else -11))) σ3) ∧ (v2 < 0 → Q (some (.inl v2)) σ1))) : mj_B mjc_L mjc_Ms (d + 2) 41 [.inr (.inl 3), .inl x1] σ Q := by
  refine mj_B_of (M := mjcM41) (ls := [some (.inr (.inl 3)), some (.inl x1), none]) rfl (mj_c1_all rfl) (Nat.le_of_ble_eq_true rfl) rfl ?_
  refine mr_aload (pc' := 1) rfl rfl rfl ?_
  refine mr_iload (pc' := 2) rfl rfl rfl ?_
  refine mr_call (t := [(3, 0)]) (pc' := 5) rfl [.inr (.inl 3), .inl x1] rfl rfl rfl (mj_recvV rfl) (Nat.le_of_ble_eq_true rfl) (mj_B_mono _ _ _ _ _ _ (fun r σ1 h => ?_) h)
  obtain ⟨v2, rfl, h⟩ := h
  refine mr_istore (pc' := 6) rfl rfl trivial (Nat.le_of_ble_eq_true rfl) rfl ?_
  refine mr_iload (pc' := 7) rfl rfl rfl ?_
  refine mr_if_ge (pc' := 10) rfl rfl (fun c => ?_) (fun c => ?_)
  · replace h := h.1 c
    refine mr_aload (pc' := 15) rfl rfl rfl ?_
    refine mr_getr (ci := 0) (pc' := 18) rfl rfl rfl rfl ?_
    refine mr_iload (pc' := 19) rfl rfl rfl ?_
    refine mr_const (pc' := 21) rfl rfl (by unfold mj_r; decide) ?_
    obtain ⟨h0, h⟩ := h
    refine mr_call (t := [(2, 0)]) (pc' := 24) rfl [.inr (.inl 2), .inl v2, .inl 268435456] rfl rfl rfl (mj_recvV rfl) (Nat.le_of_ble_eq_true rfl) (s_c24 h0 (fun σ3 e9 => ?_))
    replace h := h σ3 e9
    exact mr_iret rfl rfl trivial h
  · replace h := h.2 c
    refine mr_iload (pc' := 11) rfl rfl rfl ?_
    refine mr_goto rfl ?_
    exact mr_iret rfl rfl trivial h
set_option maxRecDepth 20000 in
/-- ListSpeaker$Reader.dotted_ -/
theorem wq_c42 {d : Nat} {σ : mj_S} {Q : mj_Q} {x1 x2 x3 : Int} (h : mj_r ((σ 3 4) + 1) ∧ ∀ σ1, σ1 = mj_up σ 3 4 ((σ 3 4) + 1) → mj_B mjc_L mjc_Ms (d + 1) 39 [.inr (.inl 3), .inl x3] σ1 (fun r σ2 => ∃ v3, r = some (.inl v3) ∧ (0 ≤ v3 → mj_B mjc_L mjc_Ms (d + 1) 48 [.inr (.inl 3)] σ2 (fun r σ4 => r = none ∧ 0 ≤ σ4 3 4 ∧ σ4 3 3 ≤ 300 ∧ (σ4 3 4 < σ4 3 3 ∧ σ4 18 (σ4 3 4).toNat = 41 → mj_r ((σ4 3 4) + 1) ∧ ∀ σ5, σ5 = mj_up σ4 3 4 ((σ4 3 4) + 1) → z_dr x2 ∧ σ5 2 8 ≤ 400 ∧ ∀ σ6, σ6 = z_ew σ5 x2 v3 → Q (some (.inl x1)) σ6) ∧ (¬ (σ4 3 4 < σ4 3 3 ∧ σ4 18 (σ4 3 4).toNat = 41) → Q (some (.inl (-1))) σ4))) ∧ (v3 < 0 → Q (some (.inl v3)) σ2))) : mj_B mjc_L mjc_Ms (d + 2) 42 [.inr (.inl 3), .inl x1, .inl x2, .inl x3] σ Q := by
  refine mj_B_of (M := mjcM42) (ls := [some (.inr (.inl 3)), some (.inl x1), some (.inl x2), some (.inl x3), none]) rfl (mj_c1_all rfl) (Nat.le_of_ble_eq_true rfl) rfl ?_
  refine mr_aload (pc' := 1) rfl rfl rfl ?_
  refine mr_dup (pc' := 2) rfl rfl trivial ?_
  refine mr_get (ci := 0) (pc' := 5) rfl rfl rfl rfl ?_
  refine mr_const (pc' := 6) rfl rfl (by unfold mj_r; decide) ?_
  obtain ⟨h0, h⟩ := h
  refine mr_iadd (pc' := 7) rfl rfl h0 ?_
  refine mr_put (pc' := 10) rfl rfl rfl rfl (fun σ1 e9 => ?_)
  replace h := h σ1 e9
  refine mr_aload (pc' := 11) rfl rfl rfl ?_
  refine mr_iload (pc' := 12) rfl rfl rfl ?_
  refine mr_call (t := [(3, 0)]) (pc' := 15) rfl [.inr (.inl 3), .inl x3] rfl rfl rfl (mj_recvV rfl) (Nat.le_of_ble_eq_true rfl) (mj_B_mono _ _ _ _ _ _ (fun r σ2 h => ?_) h)
  obtain ⟨v3, rfl, h⟩ := h
  refine mr_istore (pc' := 17) rfl rfl trivial (Nat.le_of_ble_eq_true rfl) rfl ?_
  refine mr_iload (pc' := 19) rfl rfl rfl ?_
  refine mr_if_ge (pc' := 22) rfl rfl (fun c => ?_) (fun c => ?_)
  · replace h := h.1 c
    refine mr_aload (pc' := 26) rfl rfl rfl ?_
    refine mr_call (t := [(3, 0)]) (pc' := 29) rfl [.inr (.inl 3)] rfl rfl rfl (mj_recvV rfl) (Nat.le_of_ble_eq_true rfl) (mj_B_mono _ _ _ _ _ _ (fun r σ4 h => ?_) h)
    obtain ⟨rfl, h⟩ := h
    refine mr_aload (pc' := 30) rfl rfl rfl ?_
    refine mr_const (pc' := 32) rfl rfl (by unfold mj_r; decide) ?_
    obtain ⟨h0, h1, h⟩ := h
    refine mr_call (t := [(3, 0)]) (pc' := 35) rfl [.inr (.inl 3), .inl 41] rfl rfl rfl (mj_recvV rfl) (Nat.le_of_ble_eq_true rfl) (s_c49 h0 h1 ?_)
    refine mr_if_ne (pc' := 38) rfl rfl (fun c => ?_) (fun c => ?_)
    · replace h := h.1 (bo_1 c)
      refine mr_aload (pc' := 41) rfl rfl rfl ?_
      refine mr_dup (pc' := 42) rfl rfl trivial ?_
      refine mr_get (ci := 0) (pc' := 45) rfl rfl rfl rfl ?_
      refine mr_const (pc' := 46) rfl rfl (by unfold mj_r; decide) ?_
      obtain ⟨h0, h⟩ := h
      refine mr_iadd (pc' := 47) rfl rfl h0 ?_
      refine mr_put (pc' := 50) rfl rfl rfl rfl (fun σ5 e9 => ?_)
      replace h := h σ5 e9
      refine mr_aload (pc' := 51) rfl rfl rfl ?_
      refine mr_getr (ci := 0) (pc' := 54) rfl rfl rfl rfl ?_
      refine mr_iload (pc' := 55) rfl rfl rfl ?_
      refine mr_iload (pc' := 57) rfl rfl rfl ?_
      obtain ⟨h0, h1, h⟩ := h
      refine mr_call (t := [(2, 0)]) (pc' := 60) rfl [.inr (.inl 2), .inl x2, .inl v3] rfl rfl rfl (mj_recvV rfl) (Nat.le_of_ble_eq_true rfl) (s_c25 h0 h1 (fun σ6 e9 => ?_))
      replace h := h σ6 e9
      refine mr_iload (pc' := 61) rfl rfl rfl ?_
      exact mr_iret rfl rfl trivial h
    · replace h := h.2 (bo_0 c)
      refine mr_const (pc' := 39) rfl rfl (by unfold mj_r; decide) ?_
      exact mr_iret rfl rfl trivial h
  · replace h := h.2 c
    refine mr_iload (pc' := 24) rfl rfl rfl ?_
    exact mr_iret rfl rfl trivial h
set_option maxRecDepth 20000 in
/-- ListSpeaker$Reader.quoted_ -/
theorem wq_c43 {d : Nat} {σ : mj_S} {Q : mj_Q} {x1 : Int} (h : mj_B mjc_L mjc_Ms (d + 1) 41 [.inr (.inl 3), .inl x1] σ (fun r σ1 => ∃ v2, r = some (.inl v2) ∧ (0 ≤ v2 → 0 ≤ σ1 2 8 ∧ ∀ σ3, σ3 = z_sto σ1 268435458 v2 → Q (some (.inl (if σ1 2 8 < 400 then 536870912 + σ1 2 8 else -11))) σ3) ∧ (v2 < 0 → Q (some (.inl v2)) σ1))) : mj_B mjc_L mjc_Ms (d + 2) 43 [.inr (.inl 3), .inl x1] σ Q := by
  refine mj_B_of (M := mjcM43) (ls := [some (.inr (.inl 3)), some (.inl x1), none]) rfl (mj_c1_all rfl) (Nat.le_of_ble_eq_true rfl) rfl ?_
  refine mr_aload (pc' := 1) rfl rfl rfl ?_
  refine mr_iload (pc' := 2) rfl rfl rfl ?_
  refine mr_call (t := [(3, 0)]) (pc' := 5) rfl [.inr (.inl 3), .inl x1] rfl rfl rfl (mj_recvV rfl) (Nat.le_of_ble_eq_true rfl) (mj_B_mono _ _ _ _ _ _ (fun r σ1 h => ?_) h)
  obtain ⟨v2, rfl, h⟩ := h
  refine mr_istore (pc' := 6) rfl rfl trivial (Nat.le_of_ble_eq_true rfl) rfl ?_
  refine mr_iload (pc' := 7) rfl rfl rfl ?_
  refine mr_if_ge (pc' := 10) rfl rfl (fun c => ?_) (fun c => ?_)
  · replace h := h.1 c
    refine mr_aload (pc' := 15) rfl rfl rfl ?_
    refine mr_getr (ci := 0) (pc' := 18) rfl rfl rfl rfl ?_
    refine mr_const (pc' := 20) rfl rfl (by unfold mj_r; decide) ?_
    refine mr_iload (pc' := 21) rfl rfl rfl ?_
    obtain ⟨h0, h⟩ := h
    refine mr_call (t := [(2, 0)]) (pc' := 24) rfl [.inr (.inl 2), .inl 268435458, .inl v2] rfl rfl rfl (mj_recvV rfl) (Nat.le_of_ble_eq_true rfl) (s_c24 h0 (fun σ3 e9 => ?_))
    replace h := h σ3 e9
    exact mr_iret rfl rfl trivial h
  · replace h := h.2 c
    refine mr_iload (pc' := 11) rfl rfl rfl ?_
    refine mr_goto rfl ?_
    exact mr_iret rfl rfl trivial h
set_option maxRecDepth 20000 in
/-- ListSpeaker$Reader.row_ -/
theorem wq_c44 {d : Nat} {σ : mj_S} {Q : mj_Q} (h : mj_B mjc_L mjc_Ms (d + 1) 47 [.inr (.inl 3)] σ (fun r σ1 => ∃ v2, r = some (.inl v2) ∧ (¬ v2 = (σ 3 4) → ∀ σ3, σ3 = mj_up σ1 3 4 v2 → 0 ≤ (σ 3 4) ∧ (σ 3 4) < 300 ∧ (¬ (z_dg (σ3 18 (σ 3 4).toNat)) → mj_B mjc_L mjc_Ms (d + 1) 46 [.inr (.inl 3), .inl (σ 3 4), .inl v2] σ3 (fun r σ4 => ∃ v5, r = some (.inl v5) ∧ Q (some (.inl v5)) σ4)) ∧ (z_dg (σ3 18 (σ 3 4).toNat) → mj_B mjc_L mjc_Ms (d + 1) 45 [.inr (.inl 3), .inl (σ 3 4), .inl v2] σ3 (fun r σ6 => ∃ v7, r = some (.inl v7) ∧ Q (some (.inl v7)) σ6))) ∧ (v2 = (σ 3 4) → Q (some (.inl (-1))) σ1))) : mj_B mjc_L mjc_Ms (d + 2) 44 [.inr (.inl 3)] σ Q := by
  refine mj_B_of (M := mjcM44) (ls := [some (.inr (.inl 3)), none, none]) rfl (mj_c1_all rfl) (Nat.le_of_ble_eq_true rfl) rfl ?_
  refine mr_aload (pc' := 1) rfl rfl rfl ?_
  refine mr_get (ci := 0) (pc' := 4) rfl rfl rfl rfl ?_
  refine mr_istore (pc' := 5) rfl rfl trivial (Nat.le_of_ble_eq_true rfl) rfl ?_
  refine mr_aload (pc' := 6) rfl rfl rfl ?_
  refine mr_call (t := [(3, 0)]) (pc' := 9) rfl [.inr (.inl 3)] rfl rfl rfl (mj_recvV rfl) (Nat.le_of_ble_eq_true rfl) (mj_B_mono _ _ _ _ _ _ (fun r σ1 h => ?_) h)
  obtain ⟨v2, rfl, h⟩ := h
  refine mr_istore (pc' := 10) rfl rfl trivial (Nat.le_of_ble_eq_true rfl) rfl ?_
  refine mr_iload (pc' := 11) rfl rfl rfl ?_
  refine mr_iload (pc' := 12) rfl rfl rfl ?_
  refine mr_ic_ne (pc' := 15) rfl rfl (fun c => ?_) (fun c => ?_)
  · replace h := h.1 c
    refine mr_aload (pc' := 18) rfl rfl rfl ?_
    refine mr_iload (pc' := 19) rfl rfl rfl ?_
    refine mr_put (pc' := 22) rfl rfl rfl rfl (fun σ3 e9 => ?_)
    replace h := h σ3 e9
    refine mr_aload (pc' := 23) rfl rfl rfl ?_
    refine mr_getr (ci := 0) (pc' := 26) rfl rfl rfl rfl ?_
    refine mr_iload (pc' := 27) rfl rfl rfl ?_
    obtain ⟨h0, h1, h⟩ := h
    refine mr_cald (pc' := 28) rfl rfl rfl h0 h1 ?_
    refine mr_call (t := []) (pc' := 31) rfl [.inl (σ3 18 (σ 3 4).toNat)] rfl rfl rfl trivial (Nat.le_of_ble_eq_true rfl) (s_c52  ?_)
    refine mr_if_eq (pc' := 34) rfl rfl (fun c => ?_) (fun c => ?_)
    · replace h := h.1 (bo_0 c)
      refine mr_aload (pc' := 44) rfl rfl rfl ?_
      refine mr_iload (pc' := 45) rfl rfl rfl ?_
      refine mr_iload (pc' := 46) rfl rfl rfl ?_
      refine mr_call (t := [(3, 0)]) (pc' := 49) rfl [.inr (.inl 3), .inl (σ 3 4), .inl v2] rfl rfl rfl (mj_recvV rfl) (Nat.le_of_ble_eq_true rfl) (mj_B_mono _ _ _ _ _ _ (fun r σ4 h => ?_) h)
      obtain ⟨v5, rfl, h⟩ := h
      exact mr_iret rfl rfl trivial h
    · replace h := h.2 (bo_1 c)
      refine mr_aload (pc' := 35) rfl rfl rfl ?_
      refine mr_iload (pc' := 36) rfl rfl rfl ?_
      refine mr_iload (pc' := 37) rfl rfl rfl ?_
      refine mr_call (t := [(3, 0)]) (pc' := 40) rfl [.inr (.inl 3), .inl (σ 3 4), .inl v2] rfl rfl rfl (mj_recvV rfl) (Nat.le_of_ble_eq_true rfl) (mj_B_mono _ _ _ _ _ _ (fun r σ6 h => ?_) h)
      obtain ⟨v7, rfl, h⟩ := h
      refine mr_goto rfl ?_
      exact mr_iret rfl rfl trivial h
  · replace h := h.2 c
    refine mr_const (pc' := 16) rfl rfl (by unfold mj_r; decide) ?_
    exact mr_iret rfl rfl trivial h
def qh_c45_5 (d : Nat) (Q : mj_Q) (y1 y2 y3 y5 : Int) (σ : mj_S) : Prop := mj_P mjc_L mjc_Ms d mjco45 ((Option.some Jvm.ClassFile.FieldType.int)) Q 5 [some (.inr (.inl 3)), some (.inl y1), some (.inl y2), some (.inr (.inr y3)), none, some (.inl y5)] [] σ
set_option maxRecDepth 20000 in
theorem qw_c45_5 {d : Nat} {Q : mj_Q} {y1 y2 y3 y5 : Int} {σ : mj_S} (h : (y2 ≤ y5 → mj_r y3 ∧ Q (some (.inl y3)) σ) ∧ (y5 < y2 → 0 ≤ y5 ∧ y5 < 300 ∧ (z_dg (σ 18 y5.toNat) → mj_rl (y3 * 10) ∧ 0 ≤ y5 ∧ y5 < 300 ∧ mj_rl ((y3 * 10) + (σ 18 y5.toNat)) ∧ mj_rl (((y3 * 10) + (σ 18 y5.toNat)) - 48) ∧ ((if 268435455 < (((y3 * 10) + (σ 18 y5.toNat)) - 48) then 1 else if (((y3 * 10) + (σ 18 y5.toNat)) - 48) = 268435455 then 0 else -1) ≤ 0 → mj_r (y5 + 1) ∧ qh_c45_5 (d + 1) Q y1 y2 (((y3 * 10) + (σ 18 y5.toNat)) - 48) (y5 + 1) σ) ∧ (0 < (if 268435455 < (((y3 * 10) + (σ 18 y5.toNat)) - 48) then 1 else if (((y3 * 10) + (σ 18 y5.toNat)) - 48) = 268435455 then 0 else -1) → Q (some (.inl (-1))) σ)) ∧ (¬ (z_dg (σ 18 y5.toNat)) → Q (some (.inl (-1))) σ))) : qh_c45_5 (d + 1) Q y1 y2 y3 y5 σ := by
  show mj_P mjc_L mjc_Ms (d + 1) mjco45 ((Option.some Jvm.ClassFile.FieldType.int)) Q 5 [some (.inr (.inl 3)), some (.inl y1), some (.inl y2), some (.inr (.inr y3)), none, some (.inl y5)] [] σ
  refine mr_iload (pc' := 7) rfl rfl rfl ?_
  refine mr_iload (pc' := 8) rfl rfl rfl ?_
  refine mr_ic_ge (pc' := 11) rfl rfl (fun c => ?_) (fun c => ?_)
  · replace h := h.1 c
    refine mr_lload (pc' := 62) rfl rfl rfl ?_
    obtain ⟨h0, h⟩ := h
    refine mr_l2i (pc' := 63) rfl rfl h0 ?_
    exact mr_iret rfl rfl trivial h
  · replace h := h.2 c
    refine mr_aload (pc' := 12) rfl rfl rfl ?_
    refine mr_getr (ci := 0) (pc' := 15) rfl rfl rfl rfl ?_
    refine mr_iload (pc' := 17) rfl rfl rfl ?_
    obtain ⟨h0, h1, h⟩ := h
    refine mr_cald (pc' := 18) rfl rfl rfl h0 h1 ?_
    refine mr_call (t := []) (pc' := 21) rfl [.inl (σ 18 y5.toNat)] rfl rfl rfl trivial (Nat.le_of_ble_eq_true rfl) (s_c52  ?_)
    refine mr_if_ne (pc' := 24) rfl rfl (fun c => ?_) (fun c => ?_)
    · replace h := h.1 (bo_1 c)
      refine mr_lload (pc' := 27) rfl rfl rfl ?_
      refine mr_lconst (pc' := 30) rfl rfl (by unfold mj_rl; decide) ?_
      obtain ⟨h0, h⟩ := h
      refine mr_lmul (pc' := 31) rfl rfl h0 ?_
      refine mr_aload (pc' := 32) rfl rfl rfl ?_
      refine mr_getr (ci := 0) (pc' := 35) rfl rfl rfl rfl ?_
      refine mr_iload (pc' := 37) rfl rfl rfl ?_
      obtain ⟨h0, h1, h⟩ := h
      refine mr_cald (pc' := 38) rfl rfl rfl h0 h1 ?_
      refine mr_i2l (pc' := 39) rfl rfl ?_
      obtain ⟨h0, h⟩ := h
      refine mr_ladd (pc' := 40) rfl rfl h0 ?_
      refine mr_lconst (pc' := 43) rfl rfl (by unfold mj_rl; decide) ?_
      obtain ⟨h0, h⟩ := h
      refine mr_lsub (pc' := 44) rfl rfl h0 ?_
      refine mr_lstore (pc' := 45) rfl rfl trivial (Nat.le_of_ble_eq_true rfl) rfl ?_
      refine mr_lload (pc' := 46) rfl rfl rfl ?_
      refine mr_lconst (pc' := 49) rfl rfl (by unfold mj_rl; decide) ?_
      refine mr_lcmp (pc' := 50) rfl rfl ?_
      refine mr_if_le (pc' := 53) rfl rfl (fun c => ?_) (fun c => ?_)
      · replace h := h.1 c
        obtain ⟨h0, h⟩ := h
        refine mr_iinc (pc' := 58) rfl rfl rfl trivial h0 rfl ?_
        refine mr_goto rfl ?_
        exact mj_W_ls (mj_B_mono _) (mj_lev_of _ _ (by simp [mj_levb])) h
      · replace h := h.2 c
        refine mr_const (pc' := 54) rfl rfl (by unfold mj_r; decide) ?_
        exact mr_iret rfl rfl trivial h
    · replace h := h.2 (bo_0 c)
      refine mr_const (pc' := 25) rfl rfl (by unfold mj_r; decide) ?_
      exact mr_iret rfl rfl trivial h
set_option maxRecDepth 20000 in
/-- ListSpeaker$Reader.number_ -/
theorem wq_c45 {d : Nat} {σ : mj_S} {Q : mj_Q} {x1 x2 : Int} (h : qh_c45_5 (d + 1) Q x1 x2 0 x1 σ) : mj_B mjc_L mjc_Ms (d + 2) 45 [.inr (.inl 3), .inl x1, .inl x2] σ Q := by
  refine mj_B_of (M := mjcM45) (ls := [some (.inr (.inl 3)), some (.inl x1), some (.inl x2), none, none, none]) rfl (mj_c1_all rfl) (Nat.le_of_ble_eq_true rfl) rfl ?_
  refine mr_lconst (pc' := 1) rfl rfl (by unfold mj_rl; decide) ?_
  refine mr_lstore (pc' := 2) rfl rfl trivial (Nat.le_of_ble_eq_true rfl) rfl ?_
  refine mr_iload (pc' := 3) rfl rfl rfl ?_
  refine mr_istore (pc' := 5) rfl rfl trivial (Nat.le_of_ble_eq_true rfl) rfl ?_
  exact mj_W_ls (mj_B_mono _) (mj_lev_of _ _ (by simp [mj_levb])) h
def qh_c46_12 (d : Nat) (Q : mj_Q) (y1 y2 y3 : Int) (σ : mj_S) : Prop := mj_P mjc_L mjc_Ms d mjco46 ((Option.some Jvm.ClassFile.FieldType.int)) Q 12 [some (.inr (.inl 3)), some (.inl y1), some (.inl y2), some (.inl y3)] [] σ
set_option maxRecDepth 20000 in
theorem qw_c46_12 {d : Nat} {Q : mj_Q} {y1 y2 y3 : Int} {σ : mj_S} (h : (y2 ≤ y3 → mj_r (y2 - y1) ∧ mj_B mjc_L mjc_Ms (d + 1) 13 [.inr (.inl 1), .inr (.inl 18), .inl y1, .inl (y2 - y1)] σ (fun r σ1 => ∃ v2, r = some (.inl v2) ∧ Q (some (.inl v2)) σ1)) ∧ (y3 < y2 → 0 ≤ y3 ∧ y3 < 300 ∧ (z_le (σ 18 y3.toNat) → mj_r (y3 + 1) ∧ qh_c46_12 (d + 1) Q y1 y2 (y3 + 1) σ) ∧ (¬ (z_le (σ 18 y3.toNat)) → 0 ≤ y3 ∧ y3 < 300 ∧ (z_dg (σ 18 y3.toNat) → mj_r (y3 + 1) ∧ qh_c46_12 (d + 1) Q y1 y2 (y3 + 1) σ) ∧ (¬ (z_dg (σ 18 y3.toNat)) → Q (some (.inl (-1))) σ)))) : qh_c46_12 (d + 1) Q y1 y2 y3 σ := by
  show mj_P mjc_L mjc_Ms (d + 1) mjco46 ((Option.some Jvm.ClassFile.FieldType.int)) Q 12 [some (.inr (.inl 3)), some (.inl y1), some (.inl y2), some (.inl y3)] [] σ
  refine mr_iload (pc' := 13) rfl rfl rfl ?_
  refine mr_iload (pc' := 14) rfl rfl rfl ?_
  refine mr_ic_ge (pc' := 17) rfl rfl (fun c => ?_) (fun c => ?_)
  · replace h := h.1 c
    refine mr_aload (pc' := 50) rfl rfl rfl ?_
    refine mr_getr (ci := 0) (pc' := 53) rfl rfl rfl rfl ?_
    refine mr_aload (pc' := 54) rfl rfl rfl ?_
    refine mr_getr (ci := 0) (pc' := 57) rfl rfl rfl rfl ?_
    refine mr_iload (pc' := 58) rfl rfl rfl ?_
    refine mr_iload (pc' := 59) rfl rfl rfl ?_
    refine mr_iload (pc' := 60) rfl rfl rfl ?_
    obtain ⟨h0, h⟩ := h
    refine mr_isub (pc' := 61) rfl rfl h0 ?_
    refine mr_call (t := [(1, 0)]) (pc' := 64) rfl [.inr (.inl 1), .inr (.inl 18), .inl y1, .inl (y2 - y1)] rfl rfl rfl (mj_recvV rfl) (Nat.le_of_ble_eq_true rfl) (mj_B_mono _ _ _ _ _ _ (fun r σ1 h => ?_) h)
    obtain ⟨v2, rfl, h⟩ := h
    exact mr_iret rfl rfl trivial h
  · replace h := h.2 c
    refine mr_aload (pc' := 18) rfl rfl rfl ?_
    refine mr_getr (ci := 0) (pc' := 21) rfl rfl rfl rfl ?_
    refine mr_iload (pc' := 22) rfl rfl rfl ?_
    obtain ⟨h0, h1, h⟩ := h
    refine mr_cald (pc' := 23) rfl rfl rfl h0 h1 ?_
    refine mr_call (t := []) (pc' := 26) rfl [.inl (σ 18 y3.toNat)] rfl rfl rfl trivial (Nat.le_of_ble_eq_true rfl) (s_c53  ?_)
    refine mr_if_ne (pc' := 29) rfl rfl (fun c => ?_) (fun c => ?_)
    · replace h := h.1 (bo_1 c)
      obtain ⟨h0, h⟩ := h
      refine mr_iinc (pc' := 46) rfl rfl rfl trivial h0 rfl ?_
      refine mr_goto rfl ?_
      exact mj_W_ls (mj_B_mono _) (mj_lev_of _ _ (by simp [mj_levb])) h
    · replace h := h.2 (bo_0 c)
      refine mr_aload (pc' := 30) rfl rfl rfl ?_
      refine mr_getr (ci := 0) (pc' := 33) rfl rfl rfl rfl ?_
      refine mr_iload (pc' := 34) rfl rfl rfl ?_
      obtain ⟨h0, h1, h⟩ := h
      refine mr_cald (pc' := 35) rfl rfl rfl h0 h1 ?_
      refine mr_call (t := []) (pc' := 38) rfl [.inl (σ 18 y3.toNat)] rfl rfl rfl trivial (Nat.le_of_ble_eq_true rfl) (s_c52  ?_)
      refine mr_if_ne (pc' := 41) rfl rfl (fun c => ?_) (fun c => ?_)
      · replace h := h.1 (bo_1 c)
        obtain ⟨h0, h⟩ := h
        refine mr_iinc (pc' := 46) rfl rfl rfl trivial h0 rfl ?_
        refine mr_goto rfl ?_
        exact mj_W_ls (mj_B_mono _) (mj_lev_of _ _ (by simp [mj_levb])) h
      · replace h := h.2 (bo_0 c)
        refine mr_const (pc' := 42) rfl rfl (by unfold mj_r; decide) ?_
        exact mr_iret rfl rfl trivial h
set_option maxRecDepth 20000 in
/-- ListSpeaker$Reader.symbol_ -/
theorem wq_c46 {d : Nat} {σ : mj_S} {Q : mj_Q} {x1 x2 : Int} (h : mj_r (x2 - x1) ∧ ((x2 - x1) ≤ 8 → qh_c46_12 (d + 1) Q x1 x2 x1 σ) ∧ (8 < (x2 - x1) → Q (some (.inl (-1))) σ)) : mj_B mjc_L mjc_Ms (d + 2) 46 [.inr (.inl 3), .inl x1, .inl x2] σ Q := by
  refine mj_B_of (M := mjcM46) (ls := [some (.inr (.inl 3)), some (.inl x1), some (.inl x2), none]) rfl (mj_c1_all rfl) (Nat.le_of_ble_eq_true rfl) rfl ?_
  refine mr_iload (pc' := 1) rfl rfl rfl ?_
  refine mr_iload (pc' := 2) rfl rfl rfl ?_
  obtain ⟨h0, h⟩ := h
  refine mr_isub (pc' := 3) rfl rfl h0 ?_
  refine mr_const (pc' := 5) rfl rfl (by unfold mj_r; decide) ?_
  refine mr_ic_le (pc' := 8) rfl rfl (fun c => ?_) (fun c => ?_)
  · replace h := h.1 c
    refine mr_iload (pc' := 11) rfl rfl rfl ?_
    refine mr_istore (pc' := 12) rfl rfl trivial (Nat.le_of_ble_eq_true rfl) rfl ?_
    exact mj_W_ls (mj_B_mono _) (mj_lev_of _ _ (by simp [mj_levb])) h
  · replace h := h.2 c
    refine mr_const (pc' := 9) rfl rfl (by unfold mj_r; decide) ?_
    exact mr_iret rfl rfl trivial h
def qh_c47_5 (d : Nat) (Q : mj_Q) (y1 : Int) (σ : mj_S) : Prop := mj_P mjc_L mjc_Ms d mjco47 ((Option.some Jvm.ClassFile.FieldType.int)) Q 5 [some (.inr (.inl 3)), some (.inl y1)] [] σ
set_option maxRecDepth 20000 in
theorem qw_c47_5 {d : Nat} {Q : mj_Q} {y1 : Int} {σ : mj_S} (h : ((σ 3 3) ≤ y1 → Q (some (.inl y1)) σ) ∧ (y1 < (σ 3 3) → 0 ≤ y1 ∧ y1 < 300 ∧ (z_er (σ 18 y1.toNat) → Q (some (.inl y1)) σ) ∧ (¬ (z_er (σ 18 y1.toNat)) → mj_r (y1 + 1) ∧ qh_c47_5 (d + 1) Q (y1 + 1) σ))) : qh_c47_5 (d + 1) Q y1 σ := by
  show mj_P mjc_L mjc_Ms (d + 1) mjco47 ((Option.some Jvm.ClassFile.FieldType.int)) Q 5 [some (.inr (.inl 3)), some (.inl y1)] [] σ
  refine mr_iload (pc' := 6) rfl rfl rfl ?_
  refine mr_aload (pc' := 7) rfl rfl rfl ?_
  refine mr_get (ci := 0) (pc' := 10) rfl rfl rfl rfl ?_
  refine mr_ic_ge (pc' := 13) rfl rfl (fun c => ?_) (fun c => ?_)
  · replace h := h.1 c
    refine mr_iload (pc' := 32) rfl rfl rfl ?_
    exact mr_iret rfl rfl trivial h
  · replace h := h.2 c
    refine mr_aload (pc' := 14) rfl rfl rfl ?_
    refine mr_getr (ci := 0) (pc' := 17) rfl rfl rfl rfl ?_
    refine mr_iload (pc' := 18) rfl rfl rfl ?_
    obtain ⟨h0, h1, h⟩ := h
    refine mr_cald (pc' := 19) rfl rfl rfl h0 h1 ?_
    refine mr_call (t := []) (pc' := 22) rfl [.inl (σ 18 y1.toNat)] rfl rfl rfl trivial (Nat.le_of_ble_eq_true rfl) (s_c51  ?_)
    refine mr_if_ne (pc' := 25) rfl rfl (fun c => ?_) (fun c => ?_)
    · replace h := h.1 (bo_1 c)
      refine mr_iload (pc' := 32) rfl rfl rfl ?_
      exact mr_iret rfl rfl trivial h
    · replace h := h.2 (bo_0 c)
      obtain ⟨h0, h⟩ := h
      refine mr_iinc (pc' := 28) rfl rfl rfl trivial h0 rfl ?_
      refine mr_goto rfl ?_
      exact mj_W_ls (mj_B_mono _) (mj_lev_of _ _ (by simp [mj_levb])) h
set_option maxRecDepth 20000 in
/-- ListSpeaker$Reader.rowEnd_ -/
theorem wq_c47 {d : Nat} {σ : mj_S} {Q : mj_Q} (h : qh_c47_5 (d + 1) Q (σ 3 4) σ) : mj_B mjc_L mjc_Ms (d + 2) 47 [.inr (.inl 3)] σ Q := by
  refine mj_B_of (M := mjcM47) (ls := [some (.inr (.inl 3)), none]) rfl (mj_c1_all rfl) (Nat.le_of_ble_eq_true rfl) rfl ?_
  refine mr_aload (pc' := 1) rfl rfl rfl ?_
  refine mr_get (ci := 0) (pc' := 4) rfl rfl rfl rfl ?_
  refine mr_istore (pc' := 5) rfl rfl trivial (Nat.le_of_ble_eq_true rfl) rfl ?_
  exact mj_W_ls (mj_B_mono _) (mj_lev_of _ _ (by simp [mj_levb])) h
def qh_c48_2 (d : Nat) (Q : mj_Q) (y1 : Int) (σ : mj_S) : Prop := mj_P mjc_L mjc_Ms d mjco48 ((Option.none : Option Jvm.ClassFile.FieldType)) Q 2 [some (.inr (.inl 3)), some (.inl y1), none] [] σ
set_option maxRecDepth 20000 in
theorem qw_c48_2 {d : Nat} {Q : mj_Q} {y1 : Int} {σ : mj_S} (h : ((σ 3 3) ≤ (σ 3 4) → Q none σ) ∧ ((σ 3 4) < (σ 3 3) → 0 ≤ (σ 3 4) ∧ (σ 3 4) < 300 ∧ (y1 = 0 → (¬ (σ 18 (σ 3 4).toNat) = 59 → ((σ 18 (σ 3 4).toNat) = 32 → mj_r ((σ 3 4) + 1) ∧ ∀ σ1, σ1 = mj_up σ 3 4 ((σ 3 4) + 1) → qh_c48_2 d Q y1 σ1) ∧ (¬ (σ 18 (σ 3 4).toNat) = 32 → ((σ 18 (σ 3 4).toNat) = 10 → mj_r ((σ 3 4) + 1) ∧ ∀ σ2, σ2 = mj_up σ 3 4 ((σ 3 4) + 1) → qh_c48_2 d Q y1 σ2) ∧ (¬ (σ 18 (σ 3 4).toNat) = 10 → Q none σ))) ∧ ((σ 18 (σ 3 4).toNat) = 59 → mj_r ((σ 3 4) + 1) ∧ ∀ σ3, σ3 = mj_up σ 3 4 ((σ 3 4) + 1) → qh_c48_2 d Q 1 σ3)) ∧ (¬ y1 = 0 → ((σ 18 (σ 3 4).toNat) = 10 → mj_r ((σ 3 4) + 1) ∧ ∀ σ4, σ4 = mj_up σ 3 4 ((σ 3 4) + 1) → qh_c48_2 d Q 0 σ4) ∧ (¬ (σ 18 (σ 3 4).toNat) = 10 → mj_r ((σ 3 4) + 1) ∧ ∀ σ5, σ5 = mj_up σ 3 4 ((σ 3 4) + 1) → qh_c48_2 d Q 1 σ5)))) : qh_c48_2 d Q y1 σ := by
  show mj_P mjc_L mjc_Ms d mjco48 ((Option.none : Option Jvm.ClassFile.FieldType)) Q 2 [some (.inr (.inl 3)), some (.inl y1), none] [] σ
  refine mr_aload (pc' := 3) rfl rfl rfl ?_
  refine mr_get (ci := 0) (pc' := 6) rfl rfl rfl rfl ?_
  refine mr_aload (pc' := 7) rfl rfl rfl ?_
  refine mr_get (ci := 0) (pc' := 10) rfl rfl rfl rfl ?_
  refine mr_ic_ge (pc' := 13) rfl rfl (fun c => ?_) (fun c => ?_)
  · replace h := h.1 c
    exact mr_ret rfl rfl h
  · replace h := h.2 c
    refine mr_aload (pc' := 14) rfl rfl rfl ?_
    refine mr_getr (ci := 0) (pc' := 17) rfl rfl rfl rfl ?_
    refine mr_aload (pc' := 18) rfl rfl rfl ?_
    refine mr_get (ci := 0) (pc' := 21) rfl rfl rfl rfl ?_
    obtain ⟨h0, h1, h⟩ := h
    refine mr_cald (pc' := 22) rfl rfl rfl h0 h1 ?_
    refine mr_istore (pc' := 23) rfl rfl trivial (Nat.le_of_ble_eq_true rfl) rfl ?_
    refine mr_iload (pc' := 24) rfl rfl rfl ?_
    refine mr_if_eq (pc' := 27) rfl rfl (fun c => ?_) (fun c => ?_)
    · replace h := h.1 c
      refine mr_iload (pc' := 43) rfl rfl rfl ?_
      refine mr_const (pc' := 45) rfl rfl (by unfold mj_r; decide) ?_
      refine mr_ic_ne (pc' := 48) rfl rfl (fun c => ?_) (fun c => ?_)
      · replace h := h.1 c
        refine mr_iload (pc' := 54) rfl rfl rfl ?_
        refine mr_const (pc' := 56) rfl rfl (by unfold mj_r; decide) ?_
        refine mr_ic_eq (pc' := 59) rfl rfl (fun c => ?_) (fun c => ?_)
        · replace h := h.1 c
          refine mr_aload (pc' := 67) rfl rfl rfl ?_
          refine mr_dup (pc' := 68) rfl rfl trivial ?_
          refine mr_get (ci := 0) (pc' := 71) rfl rfl rfl rfl ?_
          refine mr_const (pc' := 72) rfl rfl (by unfold mj_r; decide) ?_
          obtain ⟨h0, h⟩ := h
          refine mr_iadd (pc' := 73) rfl rfl h0 ?_
          refine mr_put (pc' := 76) rfl rfl rfl rfl (fun σ1 e9 => ?_)
          replace h := h σ1 e9
          refine mr_goto rfl ?_
          exact mj_W_ls (mj_B_mono _) (mj_lev_of _ _ (by simp [mj_levb])) h
        · replace h := h.2 c
          refine mr_iload (pc' := 60) rfl rfl rfl ?_
          refine mr_const (pc' := 62) rfl rfl (by unfold mj_r; decide) ?_
          refine mr_ic_eq (pc' := 65) rfl rfl (fun c => ?_) (fun c => ?_)
          · replace h := h.1 c
            refine mr_aload (pc' := 67) rfl rfl rfl ?_
            refine mr_dup (pc' := 68) rfl rfl trivial ?_
            refine mr_get (ci := 0) (pc' := 71) rfl rfl rfl rfl ?_
            refine mr_const (pc' := 72) rfl rfl (by unfold mj_r; decide) ?_
            obtain ⟨h0, h⟩ := h
            refine mr_iadd (pc' := 73) rfl rfl h0 ?_
            refine mr_put (pc' := 76) rfl rfl rfl rfl (fun σ2 e9 => ?_)
            replace h := h σ2 e9
            refine mr_goto rfl ?_
            exact mj_W_ls (mj_B_mono _) (mj_lev_of _ _ (by simp [mj_levb])) h
          · replace h := h.2 c
            exact mr_ret rfl rfl h
      · replace h := h.2 c
        refine mr_const (pc' := 49) rfl rfl (by unfold mj_r; decide) ?_
        refine mr_istore (pc' := 50) rfl rfl trivial (Nat.le_of_ble_eq_true rfl) rfl ?_
        refine mr_goto rfl ?_
        refine mr_aload (pc' := 67) rfl rfl rfl ?_
        refine mr_dup (pc' := 68) rfl rfl trivial ?_
        refine mr_get (ci := 0) (pc' := 71) rfl rfl rfl rfl ?_
        refine mr_const (pc' := 72) rfl rfl (by unfold mj_r; decide) ?_
        obtain ⟨h0, h⟩ := h
        refine mr_iadd (pc' := 73) rfl rfl h0 ?_
        refine mr_put (pc' := 76) rfl rfl rfl rfl (fun σ3 e9 => ?_)
        replace h := h σ3 e9
        refine mr_goto rfl ?_
        exact mj_W_ls (mj_B_mono _) (mj_lev_of _ _ (by simp [mj_levb])) h
    · replace h := h.2 c
      refine mr_iload (pc' := 28) rfl rfl rfl ?_
      refine mr_const (pc' := 30) rfl rfl (by unfold mj_r; decide) ?_
      refine mr_ic_eq (pc' := 33) rfl rfl (fun c => ?_) (fun c => ?_)
      · replace h := h.1 c
        refine mr_const (pc' := 38) rfl rfl (by unfold mj_r; decide) ?_
        refine mr_istore (pc' := 39) rfl rfl trivial (Nat.le_of_ble_eq_true rfl) rfl ?_
        refine mr_goto rfl ?_
        refine mr_aload (pc' := 67) rfl rfl rfl ?_
        refine mr_dup (pc' := 68) rfl rfl trivial ?_
        refine mr_get (ci := 0) (pc' := 71) rfl rfl rfl rfl ?_
        refine mr_const (pc' := 72) rfl rfl (by unfold mj_r; decide) ?_
        obtain ⟨h0, h⟩ := h
        refine mr_iadd (pc' := 73) rfl rfl h0 ?_
        refine mr_put (pc' := 76) rfl rfl rfl rfl (fun σ4 e9 => ?_)
        replace h := h σ4 e9
        refine mr_goto rfl ?_
        exact mj_W_ls (mj_B_mono _) (mj_lev_of _ _ (by simp [mj_levb])) h
      · replace h := h.2 c
        refine mr_const (pc' := 34) rfl rfl (by unfold mj_r; decide) ?_
        refine mr_goto rfl ?_
        refine mr_istore (pc' := 39) rfl rfl trivial (Nat.le_of_ble_eq_true rfl) rfl ?_
        refine mr_goto rfl ?_
        refine mr_aload (pc' := 67) rfl rfl rfl ?_
        refine mr_dup (pc' := 68) rfl rfl trivial ?_
        refine mr_get (ci := 0) (pc' := 71) rfl rfl rfl rfl ?_
        refine mr_const (pc' := 72) rfl rfl (by unfold mj_r; decide) ?_
        obtain ⟨h0, h⟩ := h
        refine mr_iadd (pc' := 73) rfl rfl h0 ?_
        refine mr_put (pc' := 76) rfl rfl rfl rfl (fun σ5 e9 => ?_)
        replace h := h σ5 e9
        refine mr_goto rfl ?_
        exact mj_W_ls (mj_B_mono _) (mj_lev_of _ _ (by simp [mj_levb])) h
set_option maxRecDepth 20000 in
/-- ListSpeaker$Reader.skipBlanks_ -/
theorem wq_c48 {d : Nat} {σ : mj_S} {Q : mj_Q} (h : qh_c48_2 d Q 0 σ) : mj_B mjc_L mjc_Ms (d + 1) 48 [.inr (.inl 3)] σ Q := by
  refine mj_B_of (M := mjcM48) (ls := [some (.inr (.inl 3)), none, none]) rfl (mj_c1_all rfl) (Nat.le_of_ble_eq_true rfl) rfl ?_
  refine mr_const (pc' := 1) rfl rfl (by unfold mj_r; decide) ?_
  refine mr_istore (pc' := 2) rfl rfl trivial (Nat.le_of_ble_eq_true rfl) rfl ?_
  exact mj_W_ls (mj_B_mono _) (mj_lev_of _ _ (by simp [mj_levb])) h
set_option maxRecDepth 20000 in
/-- ListSpeaker$Reader.isAtDot_ -/
theorem wq_c50 {d : Nat} {σ : mj_S} {Q : mj_Q} (h : 0 ≤ σ 3 4 ∧ σ 3 3 ≤ 300 ∧ (¬ (σ 3 4 < σ 3 3 ∧ σ 18 (σ 3 4).toNat = 46) → Q (some (.inl 0)) σ) ∧ (σ 3 4 < σ 3 3 ∧ σ 18 (σ 3 4).toNat = 46 → mj_B mjc_L mjc_Ms (d + 1) 47 [.inr (.inl 3)] σ (fun r σ1 => ∃ v2, r = some (.inl v2) ∧ mj_r ((σ1 3 4) + 1) ∧ (¬ v2 = ((σ1 3 4) + 1) → Q (some (.inl 0)) σ1) ∧ (v2 = ((σ1 3 4) + 1) → Q (some (.inl 1)) σ1)))) : mj_B mjc_L mjc_Ms (d + 2) 50 [.inr (.inl 3)] σ Q := by
  refine mj_B_of (M := mjcM50) (ls := [some (.inr (.inl 3))]) rfl (mj_c1_all rfl) (Nat.le_of_ble_eq_true rfl) rfl ?_
  refine mr_aload (pc' := 1) rfl rfl rfl ?_
  refine mr_const (pc' := 3) rfl rfl (by unfold mj_r; decide) ?_
  obtain ⟨h0, h1, h⟩ := h
  refine mr_call (t := [(3, 0)]) (pc' := 6) rfl [.inr (.inl 3), .inl 46] rfl rfl rfl (mj_recvV rfl) (Nat.le_of_ble_eq_true rfl) (s_c49 h0 h1 ?_)
  refine mr_if_eq (pc' := 9) rfl rfl (fun c => ?_) (fun c => ?_)
  · replace h := h.1 (bo_0 c)
    refine mr_const (pc' := 27) rfl rfl (by unfold mj_r; decide) ?_
    exact mr_iret rfl rfl (by simp [mj_fit]) h
  · replace h := h.2 (bo_1 c)
    refine mr_aload (pc' := 10) rfl rfl rfl ?_
    refine mr_call (t := [(3, 0)]) (pc' := 13) rfl [.inr (.inl 3)] rfl rfl rfl (mj_recvV rfl) (Nat.le_of_ble_eq_true rfl) (mj_B_mono _ _ _ _ _ _ (fun r σ1 h => ?_) h)
    obtain ⟨v2, rfl, h⟩ := h
    refine mr_aload (pc' := 14) rfl rfl rfl ?_
    refine mr_get (ci := 0) (pc' := 17) rfl rfl rfl rfl ?_
    refine mr_const (pc' := 18) rfl rfl (by unfold mj_r; decide) ?_
    obtain ⟨h0, h⟩ := h
    refine mr_iadd (pc' := 19) rfl rfl h0 ?_
    refine mr_ic_ne (pc' := 22) rfl rfl (fun c => ?_) (fun c => ?_)
    · replace h := h.1 c
      refine mr_const (pc' := 27) rfl rfl (by unfold mj_r; decide) ?_
      exact mr_iret rfl rfl (by simp [mj_fit]) h
    · replace h := h.2 c
      refine mr_const (pc' := 23) rfl rfl (by unfold mj_r; decide) ?_
      refine mr_goto rfl ?_
      exact mr_iret rfl rfl (by simp [mj_fit]) h
def qh_c61_4 (d : Nat) (Q : mj_Q) (y1 y2 y3 : Int) (σ : mj_S) : Prop := mj_P mjc_L mjc_Ms d mjco61 ((Option.none : Option Jvm.ClassFile.FieldType)) Q 4 [some (.inr (.inl 4)), some (.inl y1), some (.inl y2), some (.inl y3), none] [] σ
set_option maxRecDepth 20000 in
theorem qw_c61_4 {d : Nat} {Q : mj_Q} {y1 y2 y3 : Int} {σ : mj_S} (h : (2400 ≤ y3 → Q none σ) ∧ (y3 < 2400 → (y2 < 0 → Q none σ) ∧ (0 ≤ y2 → ((σ 4 3) ≤ y2 → Q none σ) ∧ (y2 < (σ 4 3) → 0 ≤ y2 ∧ y2 < 2400 ∧ 0 ≤ y2 ∧ y2 < 2400 ∧ ∀ σ1, σ1 = mj_up σ 20 y2.toNat (σ 4 3) → mj_r (y3 + 1) ∧ qh_c61_4 d Q y1 (σ 20 y2.toNat) (y3 + 1) σ1)))) : qh_c61_4 d Q y1 y2 y3 σ := by
  show mj_P mjc_L mjc_Ms d mjco61 ((Option.none : Option Jvm.ClassFile.FieldType)) Q 4 [some (.inr (.inl 4)), some (.inl y1), some (.inl y2), some (.inl y3), none] [] σ
  refine mr_iload (pc' := 5) rfl rfl rfl ?_
  refine mr_const (pc' := 8) rfl rfl (by unfold mj_r; decide) ?_
  refine mr_ic_ge (pc' := 11) rfl rfl (fun c => ?_) (fun c => ?_)
  · replace h := h.1 c
    exact mr_ret rfl rfl h
  · replace h := h.2 c
    refine mr_iload (pc' := 12) rfl rfl rfl ?_
    refine mr_if_lt (pc' := 15) rfl rfl (fun c => ?_) (fun c => ?_)
    · replace h := h.1 c
      exact mr_ret rfl rfl h
    · replace h := h.2 c
      refine mr_iload (pc' := 16) rfl rfl rfl ?_
      refine mr_aload (pc' := 17) rfl rfl rfl ?_
      refine mr_get (ci := 0) (pc' := 20) rfl rfl rfl rfl ?_
      refine mr_ic_ge (pc' := 23) rfl rfl (fun c => ?_) (fun c => ?_)
      · replace h := h.1 c
        exact mr_ret rfl rfl h
      · replace h := h.2 c
        refine mr_aload (pc' := 24) rfl rfl rfl ?_
        refine mr_getr (ci := 0) (pc' := 27) rfl rfl rfl rfl ?_
        refine mr_iload (pc' := 28) rfl rfl rfl ?_
        obtain ⟨h0, h1, h⟩ := h
        refine mr_iald (pc' := 29) rfl rfl rfl h0 h1 ?_
        refine mr_istore (pc' := 31) rfl rfl trivial (Nat.le_of_ble_eq_true rfl) rfl ?_
        refine mr_aload (pc' := 32) rfl rfl rfl ?_
        refine mr_getr (ci := 0) (pc' := 35) rfl rfl rfl rfl ?_
        refine mr_iload (pc' := 36) rfl rfl rfl ?_
        refine mr_aload (pc' := 37) rfl rfl rfl ?_
        refine mr_get (ci := 0) (pc' := 40) rfl rfl rfl rfl ?_
        obtain ⟨h0, h1, h⟩ := h
        refine mr_iast (pc' := 41) rfl rfl rfl h0 h1 (fun σ1 e9 => ?_)
        replace h := h σ1 e9
        refine mr_iload (pc' := 43) rfl rfl rfl ?_
        refine mr_istore (pc' := 44) rfl rfl trivial (Nat.le_of_ble_eq_true rfl) rfl ?_
        obtain ⟨h0, h⟩ := h
        refine mr_iinc (pc' := 47) rfl rfl rfl trivial h0 rfl ?_
        refine mr_goto rfl ?_
        exact mj_W_ls (mj_B_mono _) (mj_lev_of _ _ (by simp [mj_levb])) h
set_option maxRecDepth 20000 in
/-- ListSpeaker$Code.aimHere_ -/
theorem wq_c61 {d : Nat} {σ : mj_S} {Q : mj_Q} {x1 : Int} (h : qh_c61_4 d Q x1 x1 0 σ) : mj_B mjc_L mjc_Ms (d + 1) 61 [.inr (.inl 4), .inl x1] σ Q := by
  refine mj_B_of (M := mjcM61) (ls := [some (.inr (.inl 4)), some (.inl x1), none, none, none]) rfl (mj_c1_all rfl) (Nat.le_of_ble_eq_true rfl) rfl ?_
  refine mr_iload (pc' := 1) rfl rfl rfl ?_
  refine mr_istore (pc' := 2) rfl rfl trivial (Nat.le_of_ble_eq_true rfl) rfl ?_
  refine mr_const (pc' := 3) rfl rfl (by unfold mj_r; decide) ?_
  refine mr_istore (pc' := 4) rfl rfl trivial (Nat.le_of_ble_eq_true rfl) rfl ?_
  exact mj_W_ls (mj_B_mono _) (mj_lev_of _ _ (by simp [mj_levb])) h
