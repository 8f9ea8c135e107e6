def qh_c90_22 (d : Nat) (Q : mj_Q) (y1 y2 : Int) (σ : mj_S) : Prop := mj_P mjc_L mjc_Ms d mjco90 ((Option.some Jvm.ClassFile.FieldType.int)) Q 22 [some (.inr (.inl 7)), some (.inl y1), some (.inl y2), none, none] [] σ
set_option maxRecDepth 20000 in
theorem qw_c90_22 {d : Nat} {Q : mj_Q} {y1 y2 : Int} {σ : mj_S} (h : (1000000 ≤ y2 → Q (some (.inl 5)) σ) ∧ (y2 < 1000000 → σ 4 3 ≤ 2400 ∧ (¬ (z_op σ 19 (σ 7 10)) = 0 → σ 4 3 ≤ 2400 ∧ σ 4 3 ≤ 2400 ∧ mj_B mjc_L mjc_Ms (d + 1) 91 [.inr (.inl 7), .inl (z_op σ 19 (σ 7 10)), .inl (z_op σ 20 (σ 7 10)), .inl (z_op σ 21 (σ 7 10))] σ (fun r σ1 => ∃ v2, r = some (.inl v2) ∧ (v2 = 0 → mj_r (y2 + 1) ∧ qh_c90_22 (d + 1) Q y1 (y2 + 1) σ1) ∧ (¬ v2 = 0 → Q (some (.inl v2)) σ1))) ∧ ((z_op σ 19 (σ 7 10)) = 0 → Q (some (.inl 0)) σ))) : qh_c90_22 (d + 1) Q y1 y2 σ := by
  show mj_P mjc_L mjc_Ms (d + 1) mjco90 ((Option.some Jvm.ClassFile.FieldType.int)) Q 22 [some (.inr (.inl 7)), some (.inl y1), some (.inl y2), none, none] [] σ
  refine mr_iload (pc' := 23) rfl rfl rfl ?_
  refine mr_const (pc' := 25) rfl rfl (by unfold mj_r; decide) ?_
  refine mr_ic_ge (pc' := 28) rfl rfl (fun c => ?_) (fun c => ?_)
  · replace h := h.1 c
    refine mr_const (pc' := 90) rfl rfl (by unfold mj_r; decide) ?_
    exact mr_iret rfl rfl trivial h
  · replace h := h.2 c
    refine mr_aload (pc' := 29) rfl rfl rfl ?_
    refine mr_getr (ci := 0) (pc' := 32) rfl rfl rfl rfl ?_
    refine mr_aload (pc' := 33) rfl rfl rfl ?_
    refine mr_get (ci := 0) (pc' := 36) rfl rfl rfl rfl ?_
    obtain ⟨h0, h⟩ := h
    refine mr_call (t := [(4, 0)]) (pc' := 39) rfl [.inr (.inl 4), .inl (σ 7 10)] rfl rfl rfl (mj_recvV rfl) (Nat.le_of_ble_eq_true rfl) (s_c56 h0 ?_)
    refine mr_istore (pc' := 40) rfl rfl trivial (Nat.le_of_ble_eq_true rfl) rfl ?_
    refine mr_iload (pc' := 41) rfl rfl rfl ?_
    refine mr_if_ne (pc' := 44) rfl rfl (fun c => ?_) (fun c => ?_)
    · replace h := h.1 c
      refine mr_aload (pc' := 47) rfl rfl rfl ?_
      refine mr_iload (pc' := 48) rfl rfl rfl ?_
      refine mr_aload (pc' := 49) rfl rfl rfl ?_
      refine mr_getr (ci := 0) (pc' := 52) rfl rfl rfl rfl ?_
      refine mr_aload (pc' := 53) rfl rfl rfl ?_
      refine mr_get (ci := 0) (pc' := 56) rfl rfl rfl rfl ?_
      obtain ⟨h0, h⟩ := h
      refine mr_call (t := [(4, 0)]) (pc' := 59) rfl [.inr (.inl 4), .inl (σ 7 10)] rfl rfl rfl (mj_recvV rfl) (Nat.le_of_ble_eq_true rfl) (s_c57 h0 ?_)
      refine mr_aload (pc' := 60) rfl rfl rfl ?_
      refine mr_getr (ci := 0) (pc' := 63) rfl rfl rfl rfl ?_
      refine mr_aload (pc' := 64) rfl rfl rfl ?_
      refine mr_get (ci := 0) (pc' := 67) rfl rfl rfl rfl ?_
      obtain ⟨h0, h⟩ := h
      refine mr_call (t := [(4, 0)]) (pc' := 70) rfl [.inr (.inl 4), .inl (σ 7 10)] rfl rfl rfl (mj_recvV rfl) (Nat.le_of_ble_eq_true rfl) (s_c58 h0 ?_)
      refine mr_call (t := [(7, 0)]) (pc' := 73) rfl [.inr (.inl 7), .inl (z_op σ 19 (σ 7 10)), .inl (z_op σ 20 (σ 7 10)), .inl (z_op σ 21 (σ 7 10))] rfl rfl rfl (mj_recvV rfl) (Nat.le_of_ble_eq_true rfl) (mj_B_mono _ _ _ _ _ _ (fun r σ1 h => ?_) h)
      obtain ⟨v2, rfl, h⟩ := h
      refine mr_istore (pc' := 75) rfl rfl trivial (Nat.le_of_ble_eq_true rfl) rfl ?_
      refine mr_iload (pc' := 77) rfl rfl rfl ?_
      refine mr_if_eq (pc' := 80) rfl rfl (fun c => ?_) (fun c => ?_)
      · replace h := h.1 c
        obtain ⟨h0, h⟩ := h
        refine mr_iinc (pc' := 86) rfl rfl rfl trivial h0 rfl ?_
        refine mr_goto rfl ?_
        exact mj_W_ls (mj_B_mono _) (mj_lev_of _ _ (by simp [mj_levb])) h
      · replace h := h.2 c
        refine mr_iload (pc' := 82) rfl rfl rfl ?_
        exact mr_iret rfl rfl trivial h
    · replace h := h.2 c
      refine mr_const (pc' := 45) rfl rfl (by unfold mj_r; decide) ?_
      exact mr_iret rfl rfl trivial h
set_option maxRecDepth 20000 in
/-- ListSpeaker$Machine.execute_ -/
theorem wq_c90 {d : Nat} {σ : mj_S} {Q : mj_Q} {x1 : Int} (h : ∀ σ1, σ1 = mj_up σ 7 10 x1 → ∀ σ2, σ2 = mj_up σ1 7 7 0 → ∀ σ3, σ3 = mj_up σ2 7 8 0 → ∀ σ4, σ4 = mj_up σ3 7 9 (-1) → qh_c90_22 (d + 1) Q x1 0 σ4) : mj_B mjc_L mjc_Ms (d + 2) 90 [.inr (.inl 7), .inl x1] σ Q := by
  refine mj_B_of (M := mjcM90) (ls := [some (.inr (.inl 7)), some (.inl x1), none, none, none]) rfl (mj_c1_all rfl) (Nat.le_of_ble_eq_true rfl) rfl ?_
  refine mr_aload (pc' := 1) rfl rfl rfl ?_
  refine mr_iload (pc' := 2) rfl rfl rfl ?_
  refine mr_put (pc' := 5) rfl rfl rfl rfl (fun σ1 e9 => ?_)
  replace h := h σ1 e9
  refine mr_aload (pc' := 6) rfl rfl rfl ?_
  refine mr_const (pc' := 7) rfl rfl (by unfold mj_r; decide) ?_
  refine mr_put (pc' := 10) rfl rfl rfl rfl (fun σ2 e9 => ?_)
  replace h := h σ2 e9
  refine mr_aload (pc' := 11) rfl rfl rfl ?_
  refine mr_const (pc' := 12) rfl rfl (by unfold mj_r; decide) ?_
  refine mr_put (pc' := 15) rfl rfl rfl rfl (fun σ3 e9 => ?_)
  replace h := h σ3 e9
  refine mr_aload (pc' := 16) rfl rfl rfl ?_
  refine mr_const (pc' := 17) rfl rfl (by unfold mj_r; decide) ?_
  refine mr_put (pc' := 20) rfl rfl rfl rfl (fun σ4 e9 => ?_)
  replace h := h σ4 e9
  refine mr_const (pc' := 21) rfl rfl (by unfold mj_r; decide) ?_
  refine mr_istore (pc' := 22) rfl rfl trivial (Nat.le_of_ble_eq_true rfl) rfl ?_
  exact mj_W_ls (mj_B_mono _) (mj_lev_of _ _ (by simp [mj_levb])) h
set_option maxRecDepth 20000 in
/-- ListSpeaker$Machine.perform_ -/
theorem wq_c91 {d : Nat} {σ : mj_S} {Q : mj_Q} {x1 x2 x3 : Int} (h : mj_r ((σ 7 10) + 1) ∧ ∀ σ1, σ1 = mj_up σ 7 10 ((σ 7 10) + 1) → (x1 = 1 → mj_B mjc_L mjc_Ms (d + 1) 92 [.inr (.inl 7)] σ1 (fun r σ2 => ∃ v3, r = some (.inl v3) ∧ Q (some (.inl v3)) σ2)) ∧ (x1 = 2 → mj_B mjc_L mjc_Ms (d + 1) 93 [.inr (.inl 7), .inl x2] σ1 (fun r σ4 => ∃ v5, r = some (.inl v5) ∧ Q (some (.inl v5)) σ4)) ∧ (x1 = 3 → mj_r (σ1 7 8 + x2) ∧ mj_B mjc_L mjc_Ms (d + 1) 93 [.inr (.inl 7), .inl (z_vr σ1 x2)] σ1 (fun r σ6 => ∃ v7, r = some (.inl v7) ∧ Q (some (.inl v7)) σ6)) ∧ (x1 = 4 → ∀ σ8, σ8 = mj_up σ1 7 10 x2 → Q (some (.inl 0)) σ8) ∧ (x1 = 5 → mj_B mjc_L mjc_Ms (d + 1) 98 [.inr (.inl 7), .inl x2] σ1 (fun r σ9 => ∃ v10, r = some (.inl v10) ∧ Q (some (.inl v10)) σ9)) ∧ (x1 = 6 → mj_r (σ1 7 7 - 1) ∧ mj_r (σ1 7 7 - 1 - 0) ∧ (¬ (z_bl σ1 0) = 268435456 → mj_B mjc_L mjc_Ms (d + 1) 99 [.inr (.inl 7), .inl 0, .inl x2] σ1 (fun r σ11 => ∃ v12, r = some (.inl v12) ∧ Q (some (.inl v12)) σ11)) ∧ ((z_bl σ1 0) = 268435456 → mj_B mjc_L mjc_Ms (d + 1) 99 [.inr (.inl 7), .inl 1, .inl x2] σ1 (fun r σ13 => ∃ v14, r = some (.inl v14) ∧ Q (some (.inl v14)) σ13))) ∧ (x1 = 7 → mj_r (σ1 7 7 - 1) ∧ mj_r (σ1 7 7 - 1 - 0) ∧ ((z_bl σ1 0) = 268435456 → mj_B mjc_L mjc_Ms (d + 1) 99 [.inr (.inl 7), .inl 0, .inl x2] σ1 (fun r σ15 => ∃ v16, r = some (.inl v16) ∧ Q (some (.inl v16)) σ15)) ∧ (¬ (z_bl σ1 0) = 268435456 → mj_B mjc_L mjc_Ms (d + 1) 99 [.inr (.inl 7), .inl 1, .inl x2] σ1 (fun r σ17 => ∃ v18, r = some (.inl v18) ∧ Q (some (.inl v18)) σ17))) ∧ (x1 = 8 → mj_r (x2 + 1) ∧ mj_r (σ1 7 7 - 1) ∧ mj_r (σ1 7 7 - 1 - 0) ∧ mj_B mjc_L mjc_Ms (d + 1) 96 [.inr (.inl 7), .inl (x2 + 1), .inl (z_bl σ1 0)] σ1 (fun r σ19 => ∃ v20, r = some (.inl v20) ∧ Q (some (.inl v20)) σ19)) ∧ (x1 = 9 → mj_B mjc_L mjc_Ms (d + 1) 107 [.inr (.inl 7), .inl x2, .inl x3] σ1 (fun r σ21 => ∃ v22, r = some (.inl v22) ∧ Q (some (.inl v22)) σ21)) ∧ (x1 = 10 → mj_B mjc_L mjc_Ms (d + 1) 108 [.inr (.inl 7), .inl x2, .inl x3] σ1 (fun r σ23 => ∃ v24, r = some (.inl v24) ∧ Q (some (.inl v24)) σ23)) ∧ (x1 = 11 → mj_B mjc_L mjc_Ms (d + 1) 110 [.inr (.inl 7)] σ1 (fun r σ25 => ∃ v26, r = some (.inl v26) ∧ Q (some (.inl v26)) σ25)) ∧ (x1 = 268435466 → mj_B mjc_L mjc_Ms (d + 1) 101 [.inr (.inl 7)] σ1 (fun r σ27 => ∃ v28, r = some (.inl v28) ∧ Q (some (.inl v28)) σ27)) ∧ (x1 = 268435472 → mj_B mjc_L mjc_Ms (d + 1) 106 [.inr (.inl 7)] σ1 (fun r σ29 => ∃ v30, r = some (.inl v30) ∧ Q (some (.inl v30)) σ29)) ∧ (x1 = 268435473 → mj_B mjc_L mjc_Ms (d + 1) 105 [.inr (.inl 7)] σ1 (fun r σ31 => ∃ v32, r = some (.inl v32) ∧ Q (some (.inl v32)) σ31)) ∧ (¬ x1 = 1 ∧ ¬ x1 = 2 ∧ ¬ x1 = 3 ∧ ¬ x1 = 4 ∧ ¬ x1 = 5 ∧ ¬ x1 = 6 ∧ ¬ x1 = 7 ∧ ¬ x1 = 8 ∧ ¬ x1 = 9 ∧ ¬ x1 = 10 ∧ ¬ x1 = 11 ∧ ¬ x1 = 268435466 ∧ ¬ x1 = 268435472 ∧ ¬ x1 = 268435473 → mj_B mjc_L mjc_Ms (d + 1) 102 [.inr (.inl 7), .inl x1] σ1 (fun r σ33 => ∃ v34, r = some (.inl v34) ∧ Q (some (.inl v34)) σ33))) : mj_B mjc_L mjc_Ms (d + 2) 91 [.inr (.inl 7), .inl x1, .inl x2, .inl x3] σ Q := by
  refine mj_B_of (M := mjcM91) (ls := [some (.inr (.inl 7)), some (.inl x1), some (.inl x2), some (.inl x3)]) rfl (mj_c1_all rfl) (Nat.le_of_ble_eq_true rfl) rfl ?_
  refine mr_aload (pc' := 1) rfl rfl rfl ?_
  refine mr_dup (pc' := 2) rfl rfl trivial ?_
  refine mr_get (ci := 0) (pc' := 5) rfl rfl rfl rfl ?_
  refine mr_const (pc' := 6) rfl rfl (by unfold mj_r; decide) ?_
  obtain ⟨h0, h⟩ := h
  refine mr_iadd (pc' := 7) rfl rfl h0 ?_
  refine mr_put (pc' := 10) rfl rfl rfl rfl (fun σ1 e9 => ?_)
  replace h := h σ1 e9
  refine mr_iload (pc' := 11) rfl rfl rfl ?_
  refine mr_lsw rfl ?_
  obtain ⟨g0, g1, g2, g3, g4, g5, g6, g7, g8, g9, g10, g11, g12, g13, g14⟩ := h
  by_cases c0 : x1 = 1
  · have h := g0 c0
    rw [show mj_lk 254 x1 [(1, 132), (2, 137), (3, 143), (4, 153), (5, 159), (6, 165), (7, 186), (8, 207), (9, 220), (10, 227), (11, 234), (268435466, 239), (268435472, 244), (268435473, 249)] = 132 by rw [c0] <;> rfl]
    refine mr_aload (pc' := 133) rfl rfl rfl ?_
    refine mr_call (t := [(7, 0)]) (pc' := 136) rfl [.inr (.inl 7)] rfl rfl rfl (mj_recvV rfl) (Nat.le_of_ble_eq_true rfl) (mj_B_mono _ _ _ _ _ _ (fun r σ2 h => ?_) h)
    obtain ⟨v3, rfl, h⟩ := h
    exact mr_iret rfl rfl trivial h
  by_cases c1 : x1 = 2
  · have h := g1 c1
    rw [show mj_lk 254 x1 [(1, 132), (2, 137), (3, 143), (4, 153), (5, 159), (6, 165), (7, 186), (8, 207), (9, 220), (10, 227), (11, 234), (268435466, 239), (268435472, 244), (268435473, 249)] = 137 by rw [c1] <;> rfl]
    refine mr_aload (pc' := 138) rfl rfl rfl ?_
    refine mr_iload (pc' := 139) rfl rfl rfl ?_
    refine mr_call (t := [(7, 0)]) (pc' := 142) rfl [.inr (.inl 7), .inl x2] rfl rfl rfl (mj_recvV rfl) (Nat.le_of_ble_eq_true rfl) (mj_B_mono _ _ _ _ _ _ (fun r σ4 h => ?_) h)
    obtain ⟨v5, rfl, h⟩ := h
    exact mr_iret rfl rfl trivial h
  by_cases c2 : x1 = 3
  · have h := g2 c2
    rw [show mj_lk 254 x1 [(1, 132), (2, 137), (3, 143), (4, 153), (5, 159), (6, 165), (7, 186), (8, 207), (9, 220), (10, 227), (11, 234), (268435466, 239), (268435472, 244), (268435473, 249)] = 143 by rw [c2] <;> rfl]
    refine mr_aload (pc' := 144) rfl rfl rfl ?_
    refine mr_aload (pc' := 145) rfl rfl rfl ?_
    refine mr_iload (pc' := 146) rfl rfl rfl ?_
    obtain ⟨h0, h⟩ := h
    refine mr_call (t := [(7, 0)]) (pc' := 149) rfl [.inr (.inl 7), .inl x2] rfl rfl rfl (mj_recvV rfl) (Nat.le_of_ble_eq_true rfl) (s_c95 h0 ?_)
    refine mr_call (t := [(7, 0)]) (pc' := 152) rfl [.inr (.inl 7), .inl (z_vr σ1 x2)] rfl rfl rfl (mj_recvV rfl) (Nat.le_of_ble_eq_true rfl) (mj_B_mono _ _ _ _ _ _ (fun r σ6 h => ?_) h)
    obtain ⟨v7, rfl, h⟩ := h
    exact mr_iret rfl rfl trivial h
  by_cases c3 : x1 = 4
  · have h := g3 c3
    rw [show mj_lk 254 x1 [(1, 132), (2, 137), (3, 143), (4, 153), (5, 159), (6, 165), (7, 186), (8, 207), (9, 220), (10, 227), (11, 234), (268435466, 239), (268435472, 244), (268435473, 249)] = 153 by rw [c3] <;> rfl]
    refine mr_aload (pc' := 154) rfl rfl rfl ?_
    refine mr_iload (pc' := 155) rfl rfl rfl ?_
    refine mr_call (t := [(7, 0)]) (pc' := 158) rfl [.inr (.inl 7), .inl x2] rfl rfl rfl (mj_recvV rfl) (Nat.le_of_ble_eq_true rfl) (s_c97  (fun σ8 e9 => ?_))
    replace h := h σ8 e9
    exact mr_iret rfl rfl trivial h
  by_cases c4 : x1 = 5
  · have h := g4 c4
    rw [show mj_lk 254 x1 [(1, 132), (2, 137), (3, 143), (4, 153), (5, 159), (6, 165), (7, 186), (8, 207), (9, 220), (10, 227), (11, 234), (268435466, 239), (268435472, 244), (268435473, 249)] = 159 by rw [c4] <;> rfl]
    refine mr_aload (pc' := 160) rfl rfl rfl ?_
    refine mr_iload (pc' := 161) rfl rfl rfl ?_
    refine mr_call (t := [(7, 0)]) (pc' := 164) rfl [.inr (.inl 7), .inl x2] rfl rfl rfl (mj_recvV rfl) (Nat.le_of_ble_eq_true rfl) (mj_B_mono _ _ _ _ _ _ (fun r σ9 h => ?_) h)
    obtain ⟨v10, rfl, h⟩ := h
    exact mr_iret rfl rfl trivial h
  by_cases c5 : x1 = 6
  · have h := g5 c5
    rw [show mj_lk 254 x1 [(1, 132), (2, 137), (3, 143), (4, 153), (5, 159), (6, 165), (7, 186), (8, 207), (9, 220), (10, 227), (11, 234), (268435466, 239), (268435472, 244), (268435473, 249)] = 165 by rw [c5] <;> rfl]
    refine mr_aload (pc' := 166) rfl rfl rfl ?_
    refine mr_aload (pc' := 167) rfl rfl rfl ?_
    refine mr_const (pc' := 168) rfl rfl (by unfold mj_r; decide) ?_
    obtain ⟨h0, h1, h⟩ := h
    refine mr_call (t := [(7, 0)]) (pc' := 171) rfl [.inr (.inl 7), .inl 0] rfl rfl rfl (mj_recvV rfl) (Nat.le_of_ble_eq_true rfl) (s_c94 h0 h1 ?_)
    refine mr_const (pc' := 173) rfl rfl (by unfold mj_r; decide) ?_
    refine mr_ic_ne (pc' := 176) rfl rfl (fun c => ?_) (fun c => ?_)
    · replace h := h.1 c
      refine mr_const (pc' := 181) rfl rfl (by unfold mj_r; decide) ?_
      refine mr_iload (pc' := 182) rfl rfl rfl ?_
      refine mr_call (t := [(7, 0)]) (pc' := 185) rfl [.inr (.inl 7), .inl 0, .inl x2] rfl rfl rfl (mj_recvV rfl) (Nat.le_of_ble_eq_true rfl) (mj_B_mono _ _ _ _ _ _ (fun r σ11 h => ?_) h)
      obtain ⟨v12, rfl, h⟩ := h
      exact mr_iret rfl rfl trivial h
    · replace h := h.2 c
      refine mr_const (pc' := 177) rfl rfl (by unfold mj_r; decide) ?_
      refine mr_goto rfl ?_
      refine mr_iload (pc' := 182) rfl rfl rfl ?_
      refine mr_call (t := [(7, 0)]) (pc' := 185) rfl [.inr (.inl 7), .inl 1, .inl x2] rfl rfl rfl (mj_recvV rfl) (Nat.le_of_ble_eq_true rfl) (mj_B_mono _ _ _ _ _ _ (fun r σ13 h => ?_) h)
      obtain ⟨v14, rfl, h⟩ := h
      exact mr_iret rfl rfl trivial h
  by_cases c6 : x1 = 7
  · have h := g6 c6
    rw [show mj_lk 254 x1 [(1, 132), (2, 137), (3, 143), (4, 153), (5, 159), (6, 165), (7, 186), (8, 207), (9, 220), (10, 227), (11, 234), (268435466, 239), (268435472, 244), (268435473, 249)] = 186 by rw [c6] <;> rfl]
    refine mr_aload (pc' := 187) rfl rfl rfl ?_
    refine mr_aload (pc' := 188) rfl rfl rfl ?_
    refine mr_const (pc' := 189) rfl rfl (by unfold mj_r; decide) ?_
    obtain ⟨h0, h1, h⟩ := h
    refine mr_call (t := [(7, 0)]) (pc' := 192) rfl [.inr (.inl 7), .inl 0] rfl rfl rfl (mj_recvV rfl) (Nat.le_of_ble_eq_true rfl) (s_c94 h0 h1 ?_)
    refine mr_const (pc' := 194) rfl rfl (by unfold mj_r; decide) ?_
    refine mr_ic_eq (pc' := 197) rfl rfl (fun c => ?_) (fun c => ?_)
    · replace h := h.1 c
      refine mr_const (pc' := 202) rfl rfl (by unfold mj_r; decide) ?_
      refine mr_iload (pc' := 203) rfl rfl rfl ?_
      refine mr_call (t := [(7, 0)]) (pc' := 206) rfl [.inr (.inl 7), .inl 0, .inl x2] rfl rfl rfl (mj_recvV rfl) (Nat.le_of_ble_eq_true rfl) (mj_B_mono _ _ _ _ _ _ (fun r σ15 h => ?_) h)
      obtain ⟨v16, rfl, h⟩ := h
      exact mr_iret rfl rfl trivial h
    · replace h := h.2 c
      refine mr_const (pc' := 198) rfl rfl (by unfold mj_r; decide) ?_
      refine mr_goto rfl ?_
      refine mr_iload (pc' := 203) rfl rfl rfl ?_
      refine mr_call (t := [(7, 0)]) (pc' := 206) rfl [.inr (.inl 7), .inl 1, .inl x2] rfl rfl rfl (mj_recvV rfl) (Nat.le_of_ble_eq_true rfl) (mj_B_mono _ _ _ _ _ _ (fun r σ17 h => ?_) h)
      obtain ⟨v18, rfl, h⟩ := h
      exact mr_iret rfl rfl trivial h
  by_cases c7 : x1 = 8
  · have h := g7 c7
    rw [show mj_lk 254 x1 [(1, 132), (2, 137), (3, 143), (4, 153), (5, 159), (6, 165), (7, 186), (8, 207), (9, 220), (10, 227), (11, 234), (268435466, 239), (268435472, 244), (268435473, 249)] = 207 by rw [c7] <;> rfl]
    refine mr_aload (pc' := 208) rfl rfl rfl ?_
    refine mr_iload (pc' := 209) rfl rfl rfl ?_
    refine mr_const (pc' := 210) rfl rfl (by unfold mj_r; decide) ?_
    obtain ⟨h0, h⟩ := h
    refine mr_iadd (pc' := 211) rfl rfl h0 ?_
    refine mr_aload (pc' := 212) rfl rfl rfl ?_
    refine mr_const (pc' := 213) rfl rfl (by unfold mj_r; decide) ?_
    obtain ⟨h0, h1, h⟩ := h
    refine mr_call (t := [(7, 0)]) (pc' := 216) rfl [.inr (.inl 7), .inl 0] rfl rfl rfl (mj_recvV rfl) (Nat.le_of_ble_eq_true rfl) (s_c94 h0 h1 ?_)
    refine mr_call (t := [(7, 0)]) (pc' := 219) rfl [.inr (.inl 7), .inl (x2 + 1), .inl (z_bl σ1 0)] rfl rfl rfl (mj_recvV rfl) (Nat.le_of_ble_eq_true rfl) (mj_B_mono _ _ _ _ _ _ (fun r σ19 h => ?_) h)
    obtain ⟨v20, rfl, h⟩ := h
    exact mr_iret rfl rfl trivial h
  by_cases c8 : x1 = 9
  · have h := g8 c8
    rw [show mj_lk 254 x1 [(1, 132), (2, 137), (3, 143), (4, 153), (5, 159), (6, 165), (7, 186), (8, 207), (9, 220), (10, 227), (11, 234), (268435466, 239), (268435472, 244), (268435473, 249)] = 220 by rw [c8] <;> rfl]
    refine mr_aload (pc' := 221) rfl rfl rfl ?_
    refine mr_iload (pc' := 222) rfl rfl rfl ?_
    refine mr_iload (pc' := 223) rfl rfl rfl ?_
    refine mr_call (t := [(7, 0)]) (pc' := 226) rfl [.inr (.inl 7), .inl x2, .inl x3] rfl rfl rfl (mj_recvV rfl) (Nat.le_of_ble_eq_true rfl) (mj_B_mono _ _ _ _ _ _ (fun r σ21 h => ?_) h)
    obtain ⟨v22, rfl, h⟩ := h
    exact mr_iret rfl rfl trivial h
  by_cases c9 : x1 = 10
  · have h := g9 c9
    rw [show mj_lk 254 x1 [(1, 132), (2, 137), (3, 143), (4, 153), (5, 159), (6, 165), (7, 186), (8, 207), (9, 220), (10, 227), (11, 234), (268435466, 239), (268435472, 244), (268435473, 249)] = 227 by rw [c9] <;> rfl]
    refine mr_aload (pc' := 228) rfl rfl rfl ?_
    refine mr_iload (pc' := 229) rfl rfl rfl ?_
    refine mr_iload (pc' := 230) rfl rfl rfl ?_
    refine mr_call (t := [(7, 0)]) (pc' := 233) rfl [.inr (.inl 7), .inl x2, .inl x3] rfl rfl rfl (mj_recvV rfl) (Nat.le_of_ble_eq_true rfl) (mj_B_mono _ _ _ _ _ _ (fun r σ23 h => ?_) h)
    obtain ⟨v24, rfl, h⟩ := h
    exact mr_iret rfl rfl trivial h
  by_cases c10 : x1 = 11
  · have h := g10 c10
    rw [show mj_lk 254 x1 [(1, 132), (2, 137), (3, 143), (4, 153), (5, 159), (6, 165), (7, 186), (8, 207), (9, 220), (10, 227), (11, 234), (268435466, 239), (268435472, 244), (268435473, 249)] = 234 by rw [c10] <;> rfl]
    refine mr_aload (pc' := 235) rfl rfl rfl ?_
    refine mr_call (t := [(7, 0)]) (pc' := 238) rfl [.inr (.inl 7)] rfl rfl rfl (mj_recvV rfl) (Nat.le_of_ble_eq_true rfl) (mj_B_mono _ _ _ _ _ _ (fun r σ25 h => ?_) h)
    obtain ⟨v26, rfl, h⟩ := h
    exact mr_iret rfl rfl trivial h
  by_cases c11 : x1 = 268435466
  · have h := g11 c11
    rw [show mj_lk 254 x1 [(1, 132), (2, 137), (3, 143), (4, 153), (5, 159), (6, 165), (7, 186), (8, 207), (9, 220), (10, 227), (11, 234), (268435466, 239), (268435472, 244), (268435473, 249)] = 239 by rw [c11] <;> rfl]
    refine mr_aload (pc' := 240) rfl rfl rfl ?_
    refine mr_call (t := [(7, 0)]) (pc' := 243) rfl [.inr (.inl 7)] rfl rfl rfl (mj_recvV rfl) (Nat.le_of_ble_eq_true rfl) (mj_B_mono _ _ _ _ _ _ (fun r σ27 h => ?_) h)
    obtain ⟨v28, rfl, h⟩ := h
    exact mr_iret rfl rfl trivial h
  by_cases c12 : x1 = 268435472
  · have h := g12 c12
    rw [show mj_lk 254 x1 [(1, 132), (2, 137), (3, 143), (4, 153), (5, 159), (6, 165), (7, 186), (8, 207), (9, 220), (10, 227), (11, 234), (268435466, 239), (268435472, 244), (268435473, 249)] = 244 by rw [c12] <;> rfl]
    refine mr_aload (pc' := 245) rfl rfl rfl ?_
    refine mr_call (t := [(7, 0)]) (pc' := 248) rfl [.inr (.inl 7)] rfl rfl rfl (mj_recvV rfl) (Nat.le_of_ble_eq_true rfl) (mj_B_mono _ _ _ _ _ _ (fun r σ29 h => ?_) h)
    obtain ⟨v30, rfl, h⟩ := h
    exact mr_iret rfl rfl trivial h
  by_cases c13 : x1 = 268435473
  · have h := g13 c13
    rw [show mj_lk 254 x1 [(1, 132), (2, 137), (3, 143), (4, 153), (5, 159), (6, 165), (7, 186), (8, 207), (9, 220), (10, 227), (11, 234), (268435466, 239), (268435472, 244), (268435473, 249)] = 249 by rw [c13] <;> rfl]
    refine mr_aload (pc' := 250) rfl rfl rfl ?_
    refine mr_call (t := [(7, 0)]) (pc' := 253) rfl [.inr (.inl 7)] rfl rfl rfl (mj_recvV rfl) (Nat.le_of_ble_eq_true rfl) (mj_B_mono _ _ _ _ _ _ (fun r σ31 h => ?_) h)
    obtain ⟨v32, rfl, h⟩ := h
    exact mr_iret rfl rfl trivial h
  have h := g14 ⟨c0, c1, c2, c3, c4, c5, c6, c7, c8, c9, c10, c11, c12, c13⟩
  rw [show mj_lk 254 x1 [(1, 132), (2, 137), (3, 143), (4, 153), (5, 159), (6, 165), (7, 186), (8, 207), (9, 220), (10, 227), (11, 234), (268435466, 239), (268435472, 244), (268435473, 249)] = 254 by simp [mj_lk, c0, c1, c2, c3, c4, c5, c6, c7, c8, c9, c10, c11, c12, c13]]
  refine mr_aload (pc' := 255) rfl rfl rfl ?_
  refine mr_iload (pc' := 256) rfl rfl rfl ?_
  refine mr_call (t := [(7, 0)]) (pc' := 259) rfl [.inr (.inl 7), .inl x1] rfl rfl rfl (mj_recvV rfl) (Nat.le_of_ble_eq_true rfl) (mj_B_mono _ _ _ _ _ _ (fun r σ33 h => ?_) h)
  obtain ⟨v34, rfl, h⟩ := h
  exact mr_iret rfl rfl trivial h
set_option maxRecDepth 20000 in
/-- ListSpeaker$Machine.takeStep_ -/
theorem wq_c92 {d : Nat} {σ : mj_S} {Q : mj_Q} (h : ((σ 7 12) < (σ 7 11) → mj_r ((σ 7 12) + 1) ∧ ∀ σ1, σ1 = mj_up σ 7 12 ((σ 7 12) + 1) → Q (some (.inl 0)) σ1) ∧ ((σ 7 11) ≤ (σ 7 12) → Q (some (.inl 5)) σ)) : mj_B mjc_L mjc_Ms (d + 1) 92 [.inr (.inl 7)] σ Q := by
  refine mj_B_of (M := mjcM92) (ls := [some (.inr (.inl 7))]) rfl (mj_c1_all rfl) (Nat.le_of_ble_eq_true rfl) rfl ?_
  refine mr_aload (pc' := 1) rfl rfl rfl ?_
  refine mr_get (ci := 0) (pc' := 4) rfl rfl rfl rfl ?_
  refine mr_aload (pc' := 5) rfl rfl rfl ?_
  refine mr_get (ci := 0) (pc' := 8) rfl rfl rfl rfl ?_
  refine mr_ic_lt (pc' := 11) rfl rfl (fun c => ?_) (fun c => ?_)
  · replace h := h.1 c
    refine mr_aload (pc' := 14) rfl rfl rfl ?_
    refine mr_dup (pc' := 15) rfl rfl trivial ?_
    refine mr_get (ci := 0) (pc' := 18) rfl rfl rfl rfl ?_
    refine mr_const (pc' := 19) rfl rfl (by unfold mj_r; decide) ?_
    obtain ⟨h0, h⟩ := h
    refine mr_iadd (pc' := 20) rfl rfl h0 ?_
    refine mr_put (pc' := 23) rfl rfl rfl rfl (fun σ1 e9 => ?_)
    replace h := h σ1 e9
    refine mr_const (pc' := 24) rfl rfl (by unfold mj_r; decide) ?_
    exact mr_iret rfl rfl trivial h
  · replace h := h.2 c
    refine mr_const (pc' := 12) rfl rfl (by unfold mj_r; decide) ?_
    exact mr_iret rfl rfl trivial h
set_option maxRecDepth 20000 in
/-- ListSpeaker$Machine.push_ -/
theorem wq_c93 {d : Nat} {σ : mj_S} {Q : mj_Q} {x1 : Int} (h : ((σ 7 7) < 0 → Q (some (.inl 9)) σ) ∧ (0 ≤ (σ 7 7) → ((σ 7 7) < 100 → 0 ≤ (σ 7 7) ∧ (σ 7 7) < 100 ∧ ∀ σ1, σ1 = mj_up σ 29 (σ 7 7).toNat x1 → mj_r ((σ1 7 7) + 1) ∧ ∀ σ2, σ2 = mj_up σ1 7 7 ((σ1 7 7) + 1) → ((σ2 7 7) ≤ (σ2 7 13) → Q (some (.inl 0)) σ2) ∧ ((σ2 7 13) < (σ2 7 7) → ∀ σ3, σ3 = mj_up σ2 7 13 (σ2 7 7) → Q (some (.inl 0)) σ3)) ∧ (100 ≤ (σ 7 7) → Q (some (.inl 9)) σ))) : mj_B mjc_L mjc_Ms (d + 1) 93 [.inr (.inl 7), .inl x1] σ Q := by
  refine mj_B_of (M := mjcM93) (ls := [some (.inr (.inl 7)), some (.inl x1)]) rfl (mj_c1_all rfl) (Nat.le_of_ble_eq_true rfl) rfl ?_
  refine mr_aload (pc' := 1) rfl rfl rfl ?_
  refine mr_get (ci := 0) (pc' := 4) rfl rfl rfl rfl ?_
  refine mr_if_lt (pc' := 7) rfl rfl (fun c => ?_) (fun c => ?_)
  · replace h := h.1 c
    refine mr_const (pc' := 18) rfl rfl (by unfold mj_r; decide) ?_
    exact mr_iret rfl rfl trivial h
  · replace h := h.2 c
    refine mr_aload (pc' := 8) rfl rfl rfl ?_
    refine mr_get (ci := 0) (pc' := 11) rfl rfl rfl rfl ?_
    refine mr_const (pc' := 13) rfl rfl (by unfold mj_r; decide) ?_
    refine mr_ic_lt (pc' := 16) rfl rfl (fun c => ?_) (fun c => ?_)
    · replace h := h.1 c
      refine mr_aload (pc' := 20) rfl rfl rfl ?_
      refine mr_getr (ci := 0) (pc' := 23) rfl rfl rfl rfl ?_
      refine mr_aload (pc' := 24) rfl rfl rfl ?_
      refine mr_get (ci := 0) (pc' := 27) rfl rfl rfl rfl ?_
      refine mr_iload (pc' := 28) rfl rfl rfl ?_
      obtain ⟨h0, h1, h⟩ := h
      refine mr_iast (pc' := 29) rfl rfl rfl h0 h1 (fun σ1 e9 => ?_)
      replace h := h σ1 e9
      refine mr_aload (pc' := 30) rfl rfl rfl ?_
      refine mr_dup (pc' := 31) rfl rfl trivial ?_
      refine mr_get (ci := 0) (pc' := 34) rfl rfl rfl rfl ?_
      refine mr_const (pc' := 35) rfl rfl (by unfold mj_r; decide) ?_
      obtain ⟨h0, h⟩ := h
      refine mr_iadd (pc' := 36) rfl rfl h0 ?_
      refine mr_put (pc' := 39) rfl rfl rfl rfl (fun σ2 e9 => ?_)
      replace h := h σ2 e9
      refine mr_aload (pc' := 40) rfl rfl rfl ?_
      refine mr_get (ci := 0) (pc' := 43) rfl rfl rfl rfl ?_
      refine mr_aload (pc' := 44) rfl rfl rfl ?_
      refine mr_get (ci := 0) (pc' := 47) rfl rfl rfl rfl ?_
      refine mr_ic_le (pc' := 50) rfl rfl (fun c => ?_) (fun c => ?_)
      · replace h := h.1 c
        refine mr_const (pc' := 59) rfl rfl (by unfold mj_r; decide) ?_
        exact mr_iret rfl rfl trivial h
      · replace h := h.2 c
        refine mr_aload (pc' := 51) rfl rfl rfl ?_
        refine mr_aload (pc' := 52) rfl rfl rfl ?_
        refine mr_get (ci := 0) (pc' := 55) rfl rfl rfl rfl ?_
        refine mr_put (pc' := 58) rfl rfl rfl rfl (fun σ3 e9 => ?_)
        replace h := h σ3 e9
        refine mr_const (pc' := 59) rfl rfl (by unfold mj_r; decide) ?_
        exact mr_iret rfl rfl trivial h
    · replace h := h.2 c
      refine mr_const (pc' := 18) rfl rfl (by unfold mj_r; decide) ?_
      exact mr_iret rfl rfl trivial h
set_option maxRecDepth 20000 in
/-- ListSpeaker$Machine.replace_ -/
theorem wq_c96 {d : Nat} {σ : mj_S} {Q : mj_Q} {x1 x2 : Int} (h : mj_r ((σ 7 7) - x1) ∧ ∀ σ1, σ1 = mj_up σ 7 7 (if 0 < ((σ 7 7) - x1) then ((σ 7 7) - x1) else 0) → mj_B mjc_L mjc_Ms d 93 [.inr (.inl 7), .inl x2] σ1 (fun r σ2 => ∃ v3, r = some (.inl v3) ∧ Q (some (.inl v3)) σ2)) : mj_B mjc_L mjc_Ms (d + 1) 96 [.inr (.inl 7), .inl x1, .inl x2] σ Q := by
  refine mj_B_of (M := mjcM96) (ls := [some (.inr (.inl 7)), some (.inl x1), some (.inl x2)]) rfl (mj_c1_all rfl) (Nat.le_of_ble_eq_true rfl) rfl ?_
  refine mr_aload (pc' := 1) rfl rfl rfl ?_
  refine mr_const (pc' := 2) rfl rfl (by unfold mj_r; decide) ?_
  refine mr_aload (pc' := 3) rfl rfl rfl ?_
  refine mr_get (ci := 0) (pc' := 6) rfl rfl rfl rfl ?_
  refine mr_iload (pc' := 7) rfl rfl rfl ?_
  obtain ⟨h0, h⟩ := h
  refine mr_isub (pc' := 8) rfl rfl h0 ?_
  refine mr_max (pc' := 11) rfl rfl (Nat.le_of_ble_eq_true rfl) ?_
  refine mr_put (pc' := 14) rfl rfl rfl rfl (fun σ1 e9 => ?_)
  replace h := h σ1 e9
  refine mr_aload (pc' := 15) rfl rfl rfl ?_
  refine mr_iload (pc' := 16) rfl rfl rfl ?_
  refine mr_call (t := [(7, 0)]) (pc' := 19) rfl [.inr (.inl 7), .inl x2] rfl rfl rfl (mj_recvV rfl) (Nat.le_of_ble_eq_true rfl) (mj_B_mono _ _ _ _ _ _ (fun r σ2 h => ?_) h)
  obtain ⟨v3, rfl, h⟩ := h
  exact mr_iret rfl rfl trivial h
set_option maxRecDepth 20000 in
/-- ListSpeaker$Machine.jumpIfNil_ -/
theorem wq_c98 {d : Nat} {σ : mj_S} {Q : mj_Q} {x1 : Int} (h : mj_r (σ 7 7 - 1) ∧ mj_r (σ 7 7 - 1 - 0) ∧ (¬ (z_bl σ 0) = 268435456 → mj_B mjc_L mjc_Ms (d + 1) 100 [.inr (.inl 7)] σ (fun r σ1 => r = none ∧ Q (some (.inl 0)) σ1)) ∧ ((z_bl σ 0) = 268435456 → mj_B mjc_L mjc_Ms (d + 1) 100 [.inr (.inl 7)] σ (fun r σ2 => r = none ∧ ∀ σ3, σ3 = mj_up σ2 7 10 x1 → Q (some (.inl 0)) σ3))) : mj_B mjc_L mjc_Ms (d + 2) 98 [.inr (.inl 7), .inl x1] σ Q := by
  refine mj_B_of (M := mjcM98) (ls := [some (.inr (.inl 7)), some (.inl x1), none]) rfl (mj_c1_all rfl) (Nat.le_of_ble_eq_true rfl) rfl ?_
  refine mr_aload (pc' := 1) rfl rfl rfl ?_
  refine mr_const (pc' := 2) rfl rfl (by unfold mj_r; decide) ?_
  obtain ⟨h0, h1, h⟩ := h
  refine mr_call (t := [(7, 0)]) (pc' := 5) rfl [.inr (.inl 7), .inl 0] rfl rfl rfl (mj_recvV rfl) (Nat.le_of_ble_eq_true rfl) (s_c94 h0 h1 ?_)
  refine mr_const (pc' := 7) rfl rfl (by unfold mj_r; decide) ?_
  refine mr_ic_ne (pc' := 10) rfl rfl (fun c => ?_) (fun c => ?_)
  · replace h := h.1 c
    refine mr_const (pc' := 15) rfl rfl (by unfold mj_r; decide) ?_
    refine mr_istore (pc' := 16) rfl rfl trivial (Nat.le_of_ble_eq_true rfl) rfl ?_
    refine mr_aload (pc' := 17) rfl rfl rfl ?_
    refine mr_call (t := [(7, 0)]) (pc' := 20) rfl [.inr (.inl 7)] rfl rfl rfl (mj_recvV rfl) (Nat.le_of_ble_eq_true rfl) (mj_B_mono _ _ _ _ _ _ (fun r σ1 h => ?_) h)
    obtain ⟨rfl, h⟩ := h
    refine mr_iload (pc' := 21) rfl rfl rfl ?_
    refine mr_if_eq (pc' := 24) rfl rfl (fun _ => ?_) (fun c => absurd c (by decide))
    refine mr_const (pc' := 33) rfl rfl (by unfold mj_r; decide) ?_
    exact mr_iret rfl rfl trivial h
  · replace h := h.2 c
    refine mr_const (pc' := 11) rfl rfl (by unfold mj_r; decide) ?_
    refine mr_goto rfl ?_
    refine mr_istore (pc' := 16) rfl rfl trivial (Nat.le_of_ble_eq_true rfl) rfl ?_
    refine mr_aload (pc' := 17) rfl rfl rfl ?_
    refine mr_call (t := [(7, 0)]) (pc' := 20) rfl [.inr (.inl 7)] rfl rfl rfl (mj_recvV rfl) (Nat.le_of_ble_eq_true rfl) (mj_B_mono _ _ _ _ _ _ (fun r σ2 h => ?_) h)
    obtain ⟨rfl, h⟩ := h
    refine mr_iload (pc' := 21) rfl rfl rfl ?_
    refine mr_if_eq (pc' := 24) rfl rfl (fun c => absurd c (by decide)) (fun _ => ?_)
    refine mr_aload (pc' := 25) rfl rfl rfl ?_
    refine mr_iload (pc' := 26) rfl rfl rfl ?_
    refine mr_call (t := [(7, 0)]) (pc' := 29) rfl [.inr (.inl 7), .inl x1] rfl rfl rfl (mj_recvV rfl) (Nat.le_of_ble_eq_true rfl) (s_c97  (fun σ3 e9 => ?_))
    replace h := h σ3 e9
    refine mr_goto rfl ?_
    exact mr_iret rfl rfl trivial h
set_option maxRecDepth 20000 in
/-- ListSpeaker$Machine.keepOrDrop_ -/
theorem wq_c99 {d : Nat} {σ : mj_S} {Q : mj_Q} {x1 x2 : Int} (h : (x1 = 0 → mj_B mjc_L mjc_Ms (d + 1) 100 [.inr (.inl 7)] σ (fun r σ1 => r = none ∧ Q (some (.inl 0)) σ1)) ∧ (¬ x1 = 0 → ∀ σ2, σ2 = mj_up σ 7 10 x2 → Q (some (.inl 0)) σ2)) : mj_B mjc_L mjc_Ms (d + 2) 99 [.inr (.inl 7), .inl x1, .inl x2] σ Q := by
  refine mj_B_of (M := mjcM99) (ls := [some (.inr (.inl 7)), some (.inl x1), some (.inl x2)]) rfl (mj_c1_all rfl) (Nat.le_of_ble_eq_true rfl) rfl ?_
  refine mr_iload (pc' := 1) rfl rfl rfl ?_
  refine mr_if_eq (pc' := 4) rfl rfl (fun c => ?_) (fun c => ?_)
  · replace h := h.1 c
    refine mr_aload (pc' := 11) rfl rfl rfl ?_
    refine mr_call (t := [(7, 0)]) (pc' := 14) rfl [.inr (.inl 7)] rfl rfl rfl (mj_recvV rfl) (Nat.le_of_ble_eq_true rfl) (mj_B_mono _ _ _ _ _ _ (fun r σ1 h => ?_) h)
    obtain ⟨rfl, h⟩ := h
    refine mr_const (pc' := 15) rfl rfl (by unfold mj_r; decide) ?_
    exact mr_iret rfl rfl trivial h
  · replace h := h.2 c
    refine mr_aload (pc' := 5) rfl rfl rfl ?_
    refine mr_iload (pc' := 6) rfl rfl rfl ?_
    refine mr_call (t := [(7, 0)]) (pc' := 9) rfl [.inr (.inl 7), .inl x2] rfl rfl rfl (mj_recvV rfl) (Nat.le_of_ble_eq_true rfl) (s_c97  (fun σ2 e9 => ?_))
    replace h := h σ2 e9
    exact mr_iret rfl rfl trivial h
set_option maxRecDepth 20000 in
/-- ListSpeaker$Machine.drop_ -/
theorem wq_c100 {d : Nat} {σ : mj_S} {Q : mj_Q} (h : mj_r ((σ 7 7) - 1) ∧ ∀ σ1, σ1 = mj_up σ 7 7 (if 0 < ((σ 7 7) - 1) then ((σ 7 7) - 1) else 0) → Q none σ1) : mj_B mjc_L mjc_Ms (d + 1) 100 [.inr (.inl 7)] σ Q := by
  refine mj_B_of (M := mjcM100) (ls := [some (.inr (.inl 7))]) rfl (mj_c1_all rfl) (Nat.le_of_ble_eq_true rfl) rfl ?_
  refine mr_aload (pc' := 1) rfl rfl rfl ?_
  refine mr_const (pc' := 2) rfl rfl (by unfold mj_r; decide) ?_
  refine mr_aload (pc' := 3) rfl rfl rfl ?_
  refine mr_get (ci := 0) (pc' := 6) rfl rfl rfl rfl ?_
  refine mr_const (pc' := 7) rfl rfl (by unfold mj_r; decide) ?_
  obtain ⟨h0, h⟩ := h
  refine mr_isub (pc' := 8) rfl rfl h0 ?_
  refine mr_max (pc' := 11) rfl rfl (Nat.le_of_ble_eq_true rfl) ?_
  refine mr_put (pc' := 14) rfl rfl rfl rfl (fun σ1 e9 => ?_)
  replace h := h σ1 e9
  exact mr_ret rfl rfl h
set_option maxRecDepth 20000 in
/-- ListSpeaker$Machine.makePair_ -/
theorem wq_c101 {d : Nat} {σ : mj_S} {Q : mj_Q} (h : (0 < σ 2 9 → mj_r (σ 7 7 - 1) ∧ mj_r (σ 7 7 - 1 - 1) ∧ mj_r (σ 7 7 - 1) ∧ mj_r (σ 7 7 - 1 - 0) ∧ mj_B mjc_L mjc_Ms (d + 1) 28 [.inr (.inl 2), .inl (z_bl σ 1), .inl (z_bl σ 0)] σ (fun r σ1 => ∃ v2, r = some (.inl v2) ∧ (0 ≤ v2 → mj_B mjc_L mjc_Ms (d + 1) 96 [.inr (.inl 7), .inl 2, .inl v2] σ1 (fun r σ3 => ∃ v4, r = some (.inl v4) ∧ Q (some (.inl v4)) σ3)) ∧ (v2 < 0 → mj_r (-v2) ∧ Q (some (.inl (-v2))) σ1))) ∧ (¬ (0 < σ 2 9) → mj_B mjc_L mjc_Ms (d + 1) 29 [.inr (.inl 2), .inr (.inl 29), .inl (σ 7 7)] σ (fun r σ5 => r = none ∧ mj_r (σ5 7 7 - 1) ∧ mj_r (σ5 7 7 - 1 - 1) ∧ mj_r (σ5 7 7 - 1) ∧ mj_r (σ5 7 7 - 1 - 0) ∧ mj_B mjc_L mjc_Ms (d + 1) 28 [.inr (.inl 2), .inl (z_bl σ5 1), .inl (z_bl σ5 0)] σ5 (fun r σ6 => ∃ v7, r = some (.inl v7) ∧ (0 ≤ v7 → mj_B mjc_L mjc_Ms (d + 1) 96 [.inr (.inl 7), .inl 2, .inl v7] σ6 (fun r σ8 => ∃ v9, r = some (.inl v9) ∧ Q (some (.inl v9)) σ8)) ∧ (v7 < 0 → mj_r (-v7) ∧ Q (some (.inl (-v7))) σ6))))) : mj_B mjc_L mjc_Ms (d + 2) 101 [.inr (.inl 7)] σ Q := by
  refine mj_B_of (M := mjcM101) (ls := [some (.inr (.inl 7)), none]) rfl (mj_c1_all rfl) (Nat.le_of_ble_eq_true rfl) rfl ?_
  refine mr_aload (pc' := 1) rfl rfl rfl ?_
  refine mr_getr (ci := 0) (pc' := 4) rfl rfl rfl rfl ?_
  refine mr_call (t := [(2, 0)]) (pc' := 7) rfl [.inr (.inl 2)] rfl rfl rfl (mj_recvV rfl) (Nat.le_of_ble_eq_true rfl) (s_c27  ?_)
  refine mr_if_ne (pc' := 10) rfl rfl (fun c => ?_) (fun c => ?_)
  · replace h := h.1 (bo_1 c)
    refine mr_aload (pc' := 26) rfl rfl rfl ?_
    refine mr_getr (ci := 0) (pc' := 29) rfl rfl rfl rfl ?_
    refine mr_aload (pc' := 30) rfl rfl rfl ?_
    refine mr_const (pc' := 31) rfl rfl (by unfold mj_r; decide) ?_
    obtain ⟨h0, h1, h⟩ := h
    refine mr_call (t := [(7, 0)]) (pc' := 34) rfl [.inr (.inl 7), .inl 1] rfl rfl rfl (mj_recvV rfl) (Nat.le_of_ble_eq_true rfl) (s_c94 h0 h1 ?_)
    refine mr_aload (pc' := 35) rfl rfl rfl ?_
    refine mr_const (pc' := 36) rfl rfl (by unfold mj_r; decide) ?_
    obtain ⟨h0, h1, h⟩ := h
    refine mr_call (t := [(7, 0)]) (pc' := 39) rfl [.inr (.inl 7), .inl 0] rfl rfl rfl (mj_recvV rfl) (Nat.le_of_ble_eq_true rfl) (s_c94 h0 h1 ?_)
    refine mr_call (t := [(2, 0)]) (pc' := 42) rfl [.inr (.inl 2), .inl (z_bl σ 1), .inl (z_bl σ 0)] rfl rfl rfl (mj_recvV rfl) (Nat.le_of_ble_eq_true rfl) (mj_B_mono _ _ _ _ _ _ (fun r σ1 h => ?_) h)
    obtain ⟨v2, rfl, h⟩ := h
    refine mr_istore (pc' := 43) rfl rfl trivial (Nat.le_of_ble_eq_true rfl) rfl ?_
    refine mr_iload (pc' := 44) rfl rfl rfl ?_
    refine mr_if_ge (pc' := 47) rfl rfl (fun c => ?_) (fun c => ?_)
    · replace h := h.1 c
      refine mr_aload (pc' := 53) rfl rfl rfl ?_
      refine mr_const (pc' := 54) rfl rfl (by unfold mj_r; decide) ?_
      refine mr_iload (pc' := 55) rfl rfl rfl ?_
      refine mr_call (t := [(7, 0)]) (pc' := 58) rfl [.inr (.inl 7), .inl 2, .inl v2] rfl rfl rfl (mj_recvV rfl) (Nat.le_of_ble_eq_true rfl) (mj_B_mono _ _ _ _ _ _ (fun r σ3 h => ?_) h)
      obtain ⟨v4, rfl, h⟩ := h
      exact mr_iret rfl rfl trivial h
    · replace h := h.2 c
      refine mr_iload (pc' := 48) rfl rfl rfl ?_
      obtain ⟨h0, h⟩ := h
      refine mr_ineg (pc' := 49) rfl rfl h0 ?_
      refine mr_goto rfl ?_
      exact mr_iret rfl rfl trivial h
  · replace h := h.2 (bo_0 c)
    refine mr_aload (pc' := 11) rfl rfl rfl ?_
    refine mr_getr (ci := 0) (pc' := 14) rfl rfl rfl rfl ?_
    refine mr_aload (pc' := 15) rfl rfl rfl ?_
    refine mr_getr (ci := 0) (pc' := 18) rfl rfl rfl rfl ?_
    refine mr_aload (pc' := 19) rfl rfl rfl ?_
    refine mr_get (ci := 0) (pc' := 22) rfl rfl rfl rfl ?_
    refine mr_call (t := [(2, 0)]) (pc' := 25) rfl [.inr (.inl 2), .inr (.inl 29), .inl (σ 7 7)] rfl rfl rfl (mj_recvV rfl) (Nat.le_of_ble_eq_true rfl) (mj_B_mono _ _ _ _ _ _ (fun r σ5 h => ?_) h)
    obtain ⟨rfl, h⟩ := h
    refine mr_aload (pc' := 26) rfl rfl rfl ?_
    refine mr_getr (ci := 0) (pc' := 29) rfl rfl rfl rfl ?_
    refine mr_aload (pc' := 30) rfl rfl rfl ?_
    refine mr_const (pc' := 31) rfl rfl (by unfold mj_r; decide) ?_
    obtain ⟨h0, h1, h⟩ := h
    refine mr_call (t := [(7, 0)]) (pc' := 34) rfl [.inr (.inl 7), .inl 1] rfl rfl rfl (mj_recvV rfl) (Nat.le_of_ble_eq_true rfl) (s_c94 h0 h1 ?_)
    refine mr_aload (pc' := 35) rfl rfl rfl ?_
    refine mr_const (pc' := 36) rfl rfl (by unfold mj_r; decide) ?_
    obtain ⟨h0, h1, h⟩ := h
    refine mr_call (t := [(7, 0)]) (pc' := 39) rfl [.inr (.inl 7), .inl 0] rfl rfl rfl (mj_recvV rfl) (Nat.le_of_ble_eq_true rfl) (s_c94 h0 h1 ?_)
    refine mr_call (t := [(2, 0)]) (pc' := 42) rfl [.inr (.inl 2), .inl (z_bl σ5 1), .inl (z_bl σ5 0)] rfl rfl rfl (mj_recvV rfl) (Nat.le_of_ble_eq_true rfl) (mj_B_mono _ _ _ _ _ _ (fun r σ6 h => ?_) h)
    obtain ⟨v7, rfl, h⟩ := h
    refine mr_istore (pc' := 43) rfl rfl trivial (Nat.le_of_ble_eq_true rfl) rfl ?_
    refine mr_iload (pc' := 44) rfl rfl rfl ?_
    refine mr_if_ge (pc' := 47) rfl rfl (fun c => ?_) (fun c => ?_)
    · replace h := h.1 c
      refine mr_aload (pc' := 53) rfl rfl rfl ?_
      refine mr_const (pc' := 54) rfl rfl (by unfold mj_r; decide) ?_
      refine mr_iload (pc' := 55) rfl rfl rfl ?_
      refine mr_call (t := [(7, 0)]) (pc' := 58) rfl [.inr (.inl 7), .inl 2, .inl v7] rfl rfl rfl (mj_recvV rfl) (Nat.le_of_ble_eq_true rfl) (mj_B_mono _ _ _ _ _ _ (fun r σ8 h => ?_) h)
      obtain ⟨v9, rfl, h⟩ := h
      exact mr_iret rfl rfl trivial h
    · replace h := h.2 c
      refine mr_iload (pc' := 48) rfl rfl rfl ?_
      obtain ⟨h0, h⟩ := h
      refine mr_ineg (pc' := 49) rfl rfl h0 ?_
      refine mr_goto rfl ?_
      exact mr_iret rfl rfl trivial h
set_option maxRecDepth 20000 in
/-- ListSpeaker$Machine.primitive_ -/
theorem wq_c102 {d : Nat} {σ : mj_S} {Q : mj_Q} {x1 : Int} (h : mj_r (σ 7 7 - 1) ∧ mj_r (σ 7 7 - 1 - 0) ∧ (x1 = 268435467 → z_dr (z_bl σ 0) ∧ mj_B mjc_L mjc_Ms (d + 2) 96 [.inr (.inl 7), .inl 1, .inl (z_cd (σ 11) (z_bl σ 0))] σ (fun r σ1 => ∃ v2, r = some (.inl v2) ∧ Q (some (.inl v2)) σ1)) ∧ (x1 = 268435468 → z_dr (z_bl σ 0) ∧ mj_B mjc_L mjc_Ms (d + 2) 96 [.inr (.inl 7), .inl 1, .inl (z_cd (σ 12) (z_bl σ 0))] σ (fun r σ3 => ∃ v4, r = some (.inl v4) ∧ Q (some (.inl v4)) σ3)) ∧ (x1 = 268435469 → mj_B mjc_L mjc_Ms (d + 2) 96 [.inr (.inl 7), .inl 1, .inl (z_tr (if 536870912 ≤ (z_bl σ 0) then 1 else 0))] σ (fun r σ5 => ∃ v6, r = some (.inl v6) ∧ Q (some (.inl v6)) σ5)) ∧ (x1 = 268435470 → mj_B mjc_L mjc_Ms (d + 2) 96 [.inr (.inl 7), .inl 1, .inl (z_tr (if 0 ≤ (z_bl σ 0) ∧ (z_bl σ 0) ≤ 268435455 then 1 else 0))] σ (fun r σ7 => ∃ v8, r = some (.inl v8) ∧ Q (some (.inl v8)) σ7)) ∧ (x1 = 268435471 → mj_B mjc_L mjc_Ms (d + 2) 96 [.inr (.inl 7), .inl 1, .inl (z_tr (if 268435456 ≤ (z_bl σ 0) ∧ (z_bl σ 0) < 536870912 then 1 else 0))] σ (fun r σ9 => ∃ v10, r = some (.inl v10) ∧ Q (some (.inl v10)) σ9)) ∧ (x1 = 268435472 → Q (some (.inl 8)) σ) ∧ (x1 = 268435473 → Q (some (.inl 8)) σ) ∧ (x1 = 268435474 → mj_r (σ 7 7 - 1) ∧ mj_r (σ 7 7 - 1 - 1) ∧ mj_r ((z_nu (z_bl σ 1)) - (z_nu (z_bl σ 0))) ∧ mj_B mjc_L mjc_Ms (d + 2) 96 [.inr (.inl 7), .inl 2, .inl (if 0 < ((z_nu (z_bl σ 1)) - (z_nu (z_bl σ 0))) then ((z_nu (z_bl σ 1)) - (z_nu (z_bl σ 0))) else 0)] σ (fun r σ11 => ∃ v12, r = some (.inl v12) ∧ Q (some (.inl v12)) σ11)) ∧ (x1 = 268435475 → mj_r (σ 7 7 - 1) ∧ mj_r (σ 7 7 - 1 - 1) ∧ ((z_nu (z_bl σ 0)) ≤ (z_nu (z_bl σ 1)) → mj_B mjc_L mjc_Ms (d + 2) 96 [.inr (.inl 7), .inl 2, .inl (z_tr 0)] σ (fun r σ13 => ∃ v14, r = some (.inl v14) ∧ Q (some (.inl v14)) σ13)) ∧ ((z_nu (z_bl σ 1)) < (z_nu (z_bl σ 0)) → mj_B mjc_L mjc_Ms (d + 2) 96 [.inr (.inl 7), .inl 2, .inl (z_tr 1)] σ (fun r σ15 => ∃ v16, r = some (.inl v16) ∧ Q (some (.inl v16)) σ15))) ∧ (¬ (268435467 ≤ x1 ∧ x1 ≤ 268435475) → Q (some (.inl 8)) σ)) : mj_B mjc_L mjc_Ms (d + 3) 102 [.inr (.inl 7), .inl x1] σ Q := by
  refine mj_B_of (M := mjcM102) (ls := [some (.inr (.inl 7)), some (.inl x1), none]) rfl (mj_c1_all rfl) (Nat.le_of_ble_eq_true rfl) rfl ?_
  refine mr_aload (pc' := 1) rfl rfl rfl ?_
  refine mr_const (pc' := 2) rfl rfl (by unfold mj_r; decide) ?_
  obtain ⟨h0, h1, h⟩ := h
  refine mr_call (t := [(7, 0)]) (pc' := 5) rfl [.inr (.inl 7), .inl 0] rfl rfl rfl (mj_recvV rfl) (Nat.le_of_ble_eq_true rfl) (s_c94 h0 h1 ?_)
  refine mr_istore (pc' := 6) rfl rfl trivial (Nat.le_of_ble_eq_true rfl) rfl ?_
  refine mr_iload (pc' := 7) rfl rfl rfl ?_
  refine mr_tsw rfl ?_
  obtain ⟨g0, g1, g2, g3, g4, g5, g6, g7, g8, g9⟩ := h
  by_cases c0 : x1 = 268435467
  · have h := g0 c0
    rw [show mj_sw 268435467 [(268435467, 56), (268435468, 70), (268435469, 84), (268435470, 97), (268435471, 110), (268435472, 175), (268435473, 175), (268435474, 123), (268435475, 146)] 175 x1 = 56 by rw [c0] <;> rfl]
    refine mr_aload (pc' := 57) rfl rfl rfl ?_
    refine mr_const (pc' := 58) rfl rfl (by unfold mj_r; decide) ?_
    refine mr_aload (pc' := 59) rfl rfl rfl ?_
    refine mr_getr (ci := 0) (pc' := 62) rfl rfl rfl rfl ?_
    refine mr_iload (pc' := 63) rfl rfl rfl ?_
    obtain ⟨h0, h⟩ := h
    refine mr_call (t := [(2, 0)]) (pc' := 66) rfl [.inr (.inl 2), .inl (z_bl σ 0)] rfl rfl rfl (mj_recvV rfl) (Nat.le_of_ble_eq_true rfl) (s_c20 h0 ?_)
    refine mr_call (t := [(7, 0)]) (pc' := 69) rfl [.inr (.inl 7), .inl 1, .inl (z_cd (σ 11) (z_bl σ 0))] rfl rfl rfl (mj_recvV rfl) (Nat.le_of_ble_eq_true rfl) (mj_B_mono _ _ _ _ _ _ (fun r σ1 h => ?_) h)
    obtain ⟨v2, rfl, h⟩ := h
    exact mr_iret rfl rfl trivial h
  by_cases c1 : x1 = 268435468
  · have h := g1 c1
    rw [show mj_sw 268435467 [(268435467, 56), (268435468, 70), (268435469, 84), (268435470, 97), (268435471, 110), (268435472, 175), (268435473, 175), (268435474, 123), (268435475, 146)] 175 x1 = 70 by rw [c1] <;> rfl]
    refine mr_aload (pc' := 71) rfl rfl rfl ?_
    refine mr_const (pc' := 72) rfl rfl (by unfold mj_r; decide) ?_
    refine mr_aload (pc' := 73) rfl rfl rfl ?_
    refine mr_getr (ci := 0) (pc' := 76) rfl rfl rfl rfl ?_
    refine mr_iload (pc' := 77) rfl rfl rfl ?_
    obtain ⟨h0, h⟩ := h
    refine mr_call (t := [(2, 0)]) (pc' := 80) rfl [.inr (.inl 2), .inl (z_bl σ 0)] rfl rfl rfl (mj_recvV rfl) (Nat.le_of_ble_eq_true rfl) (s_c21 h0 ?_)
    refine mr_call (t := [(7, 0)]) (pc' := 83) rfl [.inr (.inl 7), .inl 1, .inl (z_cd (σ 12) (z_bl σ 0))] rfl rfl rfl (mj_recvV rfl) (Nat.le_of_ble_eq_true rfl) (mj_B_mono _ _ _ _ _ _ (fun r σ3 h => ?_) h)
    obtain ⟨v4, rfl, h⟩ := h
    exact mr_iret rfl rfl trivial h
  by_cases c2 : x1 = 268435469
  · have h := g2 c2
    rw [show mj_sw 268435467 [(268435467, 56), (268435468, 70), (268435469, 84), (268435470, 97), (268435471, 110), (268435472, 175), (268435473, 175), (268435474, 123), (268435475, 146)] 175 x1 = 84 by rw [c2] <;> rfl]
    refine mr_aload (pc' := 85) rfl rfl rfl ?_
    refine mr_const (pc' := 86) rfl rfl (by unfold mj_r; decide) ?_
    refine mr_iload (pc' := 87) rfl rfl rfl ?_
    refine mr_call (t := []) (pc' := 90) rfl [.inl (z_bl σ 0)] rfl rfl rfl trivial (Nat.le_of_ble_eq_true rfl) (s_c9  ?_)
    refine mr_call (t := []) (pc' := 93) rfl [.inl (if 536870912 ≤ (z_bl σ 0) then 1 else 0)] rfl rfl rfl trivial (Nat.le_of_ble_eq_true rfl) (s_c103  ?_)
    refine mr_call (t := [(7, 0)]) (pc' := 96) rfl [.inr (.inl 7), .inl 1, .inl (z_tr (if 536870912 ≤ (z_bl σ 0) then 1 else 0))] rfl rfl rfl (mj_recvV rfl) (Nat.le_of_ble_eq_true rfl) (mj_B_mono _ _ _ _ _ _ (fun r σ5 h => ?_) h)
    obtain ⟨v6, rfl, h⟩ := h
    exact mr_iret rfl rfl trivial h
  by_cases c3 : x1 = 268435470
  · have h := g3 c3
    rw [show mj_sw 268435467 [(268435467, 56), (268435468, 70), (268435469, 84), (268435470, 97), (268435471, 110), (268435472, 175), (268435473, 175), (268435474, 123), (268435475, 146)] 175 x1 = 97 by rw [c3] <;> rfl]
    refine mr_aload (pc' := 98) rfl rfl rfl ?_
    refine mr_const (pc' := 99) rfl rfl (by unfold mj_r; decide) ?_
    refine mr_iload (pc' := 100) rfl rfl rfl ?_
    refine mr_call (t := []) (pc' := 103) rfl [.inl (z_bl σ 0)] rfl rfl rfl trivial (Nat.le_of_ble_eq_true rfl) (s_c7  ?_)
    refine mr_call (t := []) (pc' := 106) rfl [.inl (if 0 ≤ (z_bl σ 0) ∧ (z_bl σ 0) ≤ 268435455 then 1 else 0)] rfl rfl rfl trivial (Nat.le_of_ble_eq_true rfl) (s_c103  ?_)
    refine mr_call (t := [(7, 0)]) (pc' := 109) rfl [.inr (.inl 7), .inl 1, .inl (z_tr (if 0 ≤ (z_bl σ 0) ∧ (z_bl σ 0) ≤ 268435455 then 1 else 0))] rfl rfl rfl (mj_recvV rfl) (Nat.le_of_ble_eq_true rfl) (mj_B_mono _ _ _ _ _ _ (fun r σ7 h => ?_) h)
    obtain ⟨v8, rfl, h⟩ := h
    exact mr_iret rfl rfl trivial h
  by_cases c4 : x1 = 268435471
  · have h := g4 c4
    rw [show mj_sw 268435467 [(268435467, 56), (268435468, 70), (268435469, 84), (268435470, 97), (268435471, 110), (268435472, 175), (268435473, 175), (268435474, 123), (268435475, 146)] 175 x1 = 110 by rw [c4] <;> rfl]
    refine mr_aload (pc' := 111) rfl rfl rfl ?_
    refine mr_const (pc' := 112) rfl rfl (by unfold mj_r; decide) ?_
    refine mr_iload (pc' := 113) rfl rfl rfl ?_
    refine mr_call (t := []) (pc' := 116) rfl [.inl (z_bl σ 0)] rfl rfl rfl trivial (Nat.le_of_ble_eq_true rfl) (s_c8  ?_)
    refine mr_call (t := []) (pc' := 119) rfl [.inl (if 268435456 ≤ (z_bl σ 0) ∧ (z_bl σ 0) < 536870912 then 1 else 0)] rfl rfl rfl trivial (Nat.le_of_ble_eq_true rfl) (s_c103  ?_)
    refine mr_call (t := [(7, 0)]) (pc' := 122) rfl [.inr (.inl 7), .inl 1, .inl (z_tr (if 268435456 ≤ (z_bl σ 0) ∧ (z_bl σ 0) < 536870912 then 1 else 0))] rfl rfl rfl (mj_recvV rfl) (Nat.le_of_ble_eq_true rfl) (mj_B_mono _ _ _ _ _ _ (fun r σ9 h => ?_) h)
    obtain ⟨v10, rfl, h⟩ := h
    exact mr_iret rfl rfl trivial h
  by_cases c5 : x1 = 268435472
  · have h := g5 c5
    rw [show mj_sw 268435467 [(268435467, 56), (268435468, 70), (268435469, 84), (268435470, 97), (268435471, 110), (268435472, 175), (268435473, 175), (268435474, 123), (268435475, 146)] 175 x1 = 175 by rw [c5] <;> rfl]
    refine mr_const (pc' := 177) rfl rfl (by unfold mj_r; decide) ?_
    exact mr_iret rfl rfl trivial h
  by_cases c6 : x1 = 268435473
  · have h := g6 c6
    rw [show mj_sw 268435467 [(268435467, 56), (268435468, 70), (268435469, 84), (268435470, 97), (268435471, 110), (268435472, 175), (268435473, 175), (268435474, 123), (268435475, 146)] 175 x1 = 175 by rw [c6] <;> rfl]
    refine mr_const (pc' := 177) rfl rfl (by unfold mj_r; decide) ?_
    exact mr_iret rfl rfl trivial h
  by_cases c7 : x1 = 268435474
  · have h := g7 c7
    rw [show mj_sw 268435467 [(268435467, 56), (268435468, 70), (268435469, 84), (268435470, 97), (268435471, 110), (268435472, 175), (268435473, 175), (268435474, 123), (268435475, 146)] 175 x1 = 123 by rw [c7] <;> rfl]
    refine mr_aload (pc' := 124) rfl rfl rfl ?_
    refine mr_const (pc' := 125) rfl rfl (by unfold mj_r; decide) ?_
    refine mr_const (pc' := 126) rfl rfl (by unfold mj_r; decide) ?_
    refine mr_aload (pc' := 127) rfl rfl rfl ?_
    refine mr_const (pc' := 128) rfl rfl (by unfold mj_r; decide) ?_
    obtain ⟨h0, h1, h⟩ := h
    refine mr_call (t := [(7, 0)]) (pc' := 131) rfl [.inr (.inl 7), .inl 1] rfl rfl rfl (mj_recvV rfl) (Nat.le_of_ble_eq_true rfl) (s_c94 h0 h1 ?_)
    refine mr_call (t := []) (pc' := 134) rfl [.inl (z_bl σ 1)] rfl rfl rfl trivial (Nat.le_of_ble_eq_true rfl) (s_c104  ?_)
    refine mr_iload (pc' := 135) rfl rfl rfl ?_
    refine mr_call (t := []) (pc' := 138) rfl [.inl (z_bl σ 0)] rfl rfl rfl trivial (Nat.le_of_ble_eq_true rfl) (s_c104  ?_)
    obtain ⟨h0, h⟩ := h
    refine mr_isub (pc' := 139) rfl rfl h0 ?_
    refine mr_max (pc' := 142) rfl rfl (Nat.le_of_ble_eq_true rfl) ?_
    refine mr_call (t := [(7, 0)]) (pc' := 145) rfl [.inr (.inl 7), .inl 2, .inl (if 0 < ((z_nu (z_bl σ 1)) - (z_nu (z_bl σ 0))) then ((z_nu (z_bl σ 1)) - (z_nu (z_bl σ 0))) else 0)] rfl rfl rfl (mj_recvV rfl) (Nat.le_of_ble_eq_true rfl) (mj_B_mono _ _ _ _ _ _ (fun r σ11 h => ?_) h)
    obtain ⟨v12, rfl, h⟩ := h
    exact mr_iret rfl rfl trivial h
  by_cases c8 : x1 = 268435475
  · have h := g8 c8
    rw [show mj_sw 268435467 [(268435467, 56), (268435468, 70), (268435469, 84), (268435470, 97), (268435471, 110), (268435472, 175), (268435473, 175), (268435474, 123), (268435475, 146)] 175 x1 = 146 by rw [c8] <;> rfl]
    refine mr_aload (pc' := 147) rfl rfl rfl ?_
    refine mr_const (pc' := 148) rfl rfl (by unfold mj_r; decide) ?_
    refine mr_aload (pc' := 149) rfl rfl rfl ?_
    refine mr_const (pc' := 150) rfl rfl (by unfold mj_r; decide) ?_
    obtain ⟨h0, h1, h⟩ := h
    refine mr_call (t := [(7, 0)]) (pc' := 153) rfl [.inr (.inl 7), .inl 1] rfl rfl rfl (mj_recvV rfl) (Nat.le_of_ble_eq_true rfl) (s_c94 h0 h1 ?_)
    refine mr_call (t := []) (pc' := 156) rfl [.inl (z_bl σ 1)] rfl rfl rfl trivial (Nat.le_of_ble_eq_true rfl) (s_c104  ?_)
    refine mr_iload (pc' := 157) rfl rfl rfl ?_
    refine mr_call (t := []) (pc' := 160) rfl [.inl (z_bl σ 0)] rfl rfl rfl trivial (Nat.le_of_ble_eq_true rfl) (s_c104  ?_)
    refine mr_ic_ge (pc' := 163) rfl rfl (fun c => ?_) (fun c => ?_)
    · replace h := h.1 c
      refine mr_const (pc' := 168) rfl rfl (by unfold mj_r; decide) ?_
      refine mr_call (t := []) (pc' := 171) rfl [.inl 0] rfl rfl rfl trivial (Nat.le_of_ble_eq_true rfl) (s_c103  ?_)
      refine mr_call (t := [(7, 0)]) (pc' := 174) rfl [.inr (.inl 7), .inl 2, .inl (z_tr 0)] rfl rfl rfl (mj_recvV rfl) (Nat.le_of_ble_eq_true rfl) (mj_B_mono _ _ _ _ _ _ (fun r σ13 h => ?_) h)
      obtain ⟨v14, rfl, h⟩ := h
      exact mr_iret rfl rfl trivial h
    · replace h := h.2 c
      refine mr_const (pc' := 164) rfl rfl (by unfold mj_r; decide) ?_
      refine mr_goto rfl ?_
      refine mr_call (t := []) (pc' := 171) rfl [.inl 1] rfl rfl rfl trivial (Nat.le_of_ble_eq_true rfl) (s_c103  ?_)
      refine mr_call (t := [(7, 0)]) (pc' := 174) rfl [.inr (.inl 7), .inl 2, .inl (z_tr 1)] rfl rfl rfl (mj_recvV rfl) (Nat.le_of_ble_eq_true rfl) (mj_B_mono _ _ _ _ _ _ (fun r σ15 h => ?_) h)
      obtain ⟨v16, rfl, h⟩ := h
      exact mr_iret rfl rfl trivial h
  have h := g9 (by omega)
  rw [show mj_sw 268435467 [(268435467, 56), (268435468, 70), (268435469, 84), (268435470, 97), (268435471, 110), (268435472, 175), (268435473, 175), (268435474, 123), (268435475, 146)] 175 x1 = 175 from if_neg (by simp; omega)]
  refine mr_const (pc' := 177) rfl rfl (by unfold mj_r; decide) ?_
  exact mr_iret rfl rfl trivial h
set_option maxRecDepth 20000 in
/-- ListSpeaker$Machine.add_ -/
theorem wq_c105 {d : Nat} {σ : mj_S} {Q : mj_Q} (h : mj_r (σ 7 7 - 1) ∧ mj_r (σ 7 7 - 1 - 1) ∧ mj_r (σ 7 7 - 1) ∧ mj_r (σ 7 7 - 1 - 0) ∧ mj_r ((z_nu (z_bl σ 1)) + (z_nu (z_bl σ 0))) ∧ (((z_nu (z_bl σ 1)) + (z_nu (z_bl σ 0))) ≤ 268435455 → mj_B mjc_L mjc_Ms (d + 2) 96 [.inr (.inl 7), .inl 2, .inl ((z_nu (z_bl σ 1)) + (z_nu (z_bl σ 0)))] σ (fun r σ1 => ∃ v2, r = some (.inl v2) ∧ Q (some (.inl v2)) σ1)) ∧ (268435455 < ((z_nu (z_bl σ 1)) + (z_nu (z_bl σ 0))) → Q (some (.inl 7)) σ)) : mj_B mjc_L mjc_Ms (d + 3) 105 [.inr (.inl 7)] σ Q := by
  refine mj_B_of (M := mjcM105) (ls := [some (.inr (.inl 7)), none]) rfl (mj_c1_all rfl) (Nat.le_of_ble_eq_true rfl) rfl ?_
  refine mr_aload (pc' := 1) rfl rfl rfl ?_
  refine mr_const (pc' := 2) rfl rfl (by unfold mj_r; decide) ?_
  obtain ⟨h0, h1, h⟩ := h
  refine mr_call (t := [(7, 0)]) (pc' := 5) rfl [.inr (.inl 7), .inl 1] rfl rfl rfl (mj_recvV rfl) (Nat.le_of_ble_eq_true rfl) (s_c94 h0 h1 ?_)
  refine mr_call (t := []) (pc' := 8) rfl [.inl (z_bl σ 1)] rfl rfl rfl trivial (Nat.le_of_ble_eq_true rfl) (s_c104  ?_)
  refine mr_aload (pc' := 9) rfl rfl rfl ?_
  refine mr_const (pc' := 10) rfl rfl (by unfold mj_r; decide) ?_
  obtain ⟨h0, h1, h⟩ := h
  refine mr_call (t := [(7, 0)]) (pc' := 13) rfl [.inr (.inl 7), .inl 0] rfl rfl rfl (mj_recvV rfl) (Nat.le_of_ble_eq_true rfl) (s_c94 h0 h1 ?_)
  refine mr_call (t := []) (pc' := 16) rfl [.inl (z_bl σ 0)] rfl rfl rfl trivial (Nat.le_of_ble_eq_true rfl) (s_c104  ?_)
  obtain ⟨h0, h⟩ := h
  refine mr_iadd (pc' := 17) rfl rfl h0 ?_
  refine mr_istore (pc' := 18) rfl rfl trivial (Nat.le_of_ble_eq_true rfl) rfl ?_
  refine mr_iload (pc' := 19) rfl rfl rfl ?_
  refine mr_const (pc' := 21) rfl rfl (by unfold mj_r; decide) ?_
  refine mr_ic_le (pc' := 24) rfl rfl (fun c => ?_) (fun c => ?_)
  · replace h := h.1 c
    refine mr_aload (pc' := 30) rfl rfl rfl ?_
    refine mr_const (pc' := 31) rfl rfl (by unfold mj_r; decide) ?_
    refine mr_iload (pc' := 32) rfl rfl rfl ?_
    refine mr_call (t := [(7, 0)]) (pc' := 35) rfl [.inr (.inl 7), .inl 2, .inl ((z_nu (z_bl σ 1)) + (z_nu (z_bl σ 0)))] rfl rfl rfl (mj_recvV rfl) (Nat.le_of_ble_eq_true rfl) (mj_B_mono _ _ _ _ _ _ (fun r σ1 h => ?_) h)
    obtain ⟨v2, rfl, h⟩ := h
    exact mr_iret rfl rfl trivial h
  · replace h := h.2 c
    refine mr_const (pc' := 26) rfl rfl (by unfold mj_r; decide) ?_
    refine mr_goto rfl ?_
    exact mr_iret rfl rfl trivial h
set_option maxRecDepth 20000 in
/-- ListSpeaker$Machine.compare_ -/
theorem wq_c106 {d : Nat} {σ : mj_S} {Q : mj_Q} (h : mj_r (σ 7 7 - 1) ∧ mj_r (σ 7 7 - 1 - 1) ∧ mj_r (σ 7 7 - 1) ∧ mj_r (σ 7 7 - 1 - 0) ∧ mj_r ((σ 7 11) - (σ 7 12)) ∧ mj_B mjc_L mjc_Ms (d + 1) 32 [.inr (.inl 2), .inl (z_bl σ 1), .inl (z_bl σ 0), .inl ((σ 7 11) - (σ 7 12))] σ (fun r σ1 => ∃ v2, r = some (.inl v2) ∧ mj_r ((σ1 7 12) + (σ1 2 11)) ∧ ∀ σ3, σ3 = mj_up σ1 7 12 ((σ1 7 12) + (σ1 2 11)) → (¬ v2 = 2 → (¬ v2 = 0 → mj_B mjc_L mjc_Ms (d + 1) 96 [.inr (.inl 7), .inl 2, .inl (z_tr 0)] σ3 (fun r σ4 => ∃ v5, r = some (.inl v5) ∧ Q (some (.inl v5)) σ4)) ∧ (v2 = 0 → mj_B mjc_L mjc_Ms (d + 1) 96 [.inr (.inl 7), .inl 2, .inl (z_tr 1)] σ3 (fun r σ6 => ∃ v7, r = some (.inl v7) ∧ Q (some (.inl v7)) σ6))) ∧ (v2 = 2 → Q (some (.inl 5)) σ3))) : mj_B mjc_L mjc_Ms (d + 2) 106 [.inr (.inl 7)] σ Q := by
  refine mj_B_of (M := mjcM106) (ls := [some (.inr (.inl 7)), none]) rfl (mj_c1_all rfl) (Nat.le_of_ble_eq_true rfl) rfl ?_
  refine mr_aload (pc' := 1) rfl rfl rfl ?_
  refine mr_getr (ci := 0) (pc' := 4) rfl rfl rfl rfl ?_
  refine mr_aload (pc' := 5) rfl rfl rfl ?_
  refine mr_const (pc' := 6) rfl rfl (by unfold mj_r; decide) ?_
  obtain ⟨h0, h1, h⟩ := h
  refine mr_call (t := [(7, 0)]) (pc' := 9) rfl [.inr (.inl 7), .inl 1] rfl rfl rfl (mj_recvV rfl) (Nat.le_of_ble_eq_true rfl) (s_c94 h0 h1 ?_)
  refine mr_aload (pc' := 10) rfl rfl rfl ?_
  refine mr_const (pc' := 11) rfl rfl (by unfold mj_r; decide) ?_
  obtain ⟨h0, h1, h⟩ := h
  refine mr_call (t := [(7, 0)]) (pc' := 14) rfl [.inr (.inl 7), .inl 0] rfl rfl rfl (mj_recvV rfl) (Nat.le_of_ble_eq_true rfl) (s_c94 h0 h1 ?_)
  refine mr_aload (pc' := 15) rfl rfl rfl ?_
  refine mr_get (ci := 0) (pc' := 18) rfl rfl rfl rfl ?_
  refine mr_aload (pc' := 19) rfl rfl rfl ?_
  refine mr_get (ci := 0) (pc' := 22) rfl rfl rfl rfl ?_
  obtain ⟨h0, h⟩ := h
  refine mr_isub (pc' := 23) rfl rfl h0 ?_
  refine mr_call (t := [(2, 0)]) (pc' := 26) rfl [.inr (.inl 2), .inl (z_bl σ 1), .inl (z_bl σ 0), .inl ((σ 7 11) - (σ 7 12))] rfl rfl rfl (mj_recvV rfl) (Nat.le_of_ble_eq_true rfl) (mj_B_mono _ _ _ _ _ _ (fun r σ1 h => ?_) h)
  obtain ⟨v2, rfl, h⟩ := h
  refine mr_istore (pc' := 27) rfl rfl trivial (Nat.le_of_ble_eq_true rfl) rfl ?_
  refine mr_aload (pc' := 28) rfl rfl rfl ?_
  refine mr_dup (pc' := 29) rfl rfl trivial ?_
  refine mr_get (ci := 0) (pc' := 32) rfl rfl rfl rfl ?_
  refine mr_aload (pc' := 33) rfl rfl rfl ?_
  refine mr_getr (ci := 0) (pc' := 36) rfl rfl rfl rfl ?_
  refine mr_call (t := [(2, 0)]) (pc' := 39) rfl [.inr (.inl 2)] rfl rfl rfl (mj_recvV rfl) (Nat.le_of_ble_eq_true rfl) (s_c19  ?_)
  obtain ⟨h0, h⟩ := h
  refine mr_iadd (pc' := 40) rfl rfl h0 ?_
  refine mr_put (pc' := 43) rfl rfl rfl rfl (fun σ3 e9 => ?_)
  replace h := h σ3 e9
  refine mr_iload (pc' := 44) rfl rfl rfl ?_
  refine mr_const (pc' := 45) rfl rfl (by unfold mj_r; decide) ?_
  refine mr_ic_ne (pc' := 48) rfl rfl (fun c => ?_) (fun c => ?_)
  · replace h := h.1 c
    refine mr_aload (pc' := 53) rfl rfl rfl ?_
    refine mr_const (pc' := 54) rfl rfl (by unfold mj_r; decide) ?_
    refine mr_iload (pc' := 55) rfl rfl rfl ?_
    refine mr_if_ne (pc' := 58) rfl rfl (fun c => ?_) (fun c => ?_)
    · replace h := h.1 c
      refine mr_const (pc' := 63) rfl rfl (by unfold mj_r; decide) ?_
      refine mr_call (t := []) (pc' := 66) rfl [.inl 0] rfl rfl rfl trivial (Nat.le_of_ble_eq_true rfl) (s_c103  ?_)
      refine mr_call (t := [(7, 0)]) (pc' := 69) rfl [.inr (.inl 7), .inl 2, .inl (z_tr 0)] rfl rfl rfl (mj_recvV rfl) (Nat.le_of_ble_eq_true rfl) (mj_B_mono _ _ _ _ _ _ (fun r σ4 h => ?_) h)
      obtain ⟨v5, rfl, h⟩ := h
      exact mr_iret rfl rfl trivial h
    · replace h := h.2 c
      refine mr_const (pc' := 59) rfl rfl (by unfold mj_r; decide) ?_
      refine mr_goto rfl ?_
      refine mr_call (t := []) (pc' := 66) rfl [.inl 1] rfl rfl rfl trivial (Nat.le_of_ble_eq_true rfl) (s_c103  ?_)
      refine mr_call (t := [(7, 0)]) (pc' := 69) rfl [.inr (.inl 7), .inl 2, .inl (z_tr 1)] rfl rfl rfl (mj_recvV rfl) (Nat.le_of_ble_eq_true rfl) (mj_B_mono _ _ _ _ _ _ (fun r σ6 h => ?_) h)
      obtain ⟨v7, rfl, h⟩ := h
      exact mr_iret rfl rfl trivial h
  · replace h := h.2 c
    refine mr_const (pc' := 49) rfl rfl (by unfold mj_r; decide) ?_
    refine mr_goto rfl ?_
    exact mr_iret rfl rfl trivial h
set_option maxRecDepth 20000 in
/-- ListSpeaker$Machine.enter_ -/
theorem wq_c107 {d : Nat} {σ : mj_S} {Q : mj_Q} {x1 x2 : Int} (h : z_dr x1 ∧ ((z_rf σ x1 x2) = 0 → mj_r ((σ 7 7) - x2) ∧ mj_B mjc_L mjc_Ms (d + 1) 93 [.inr (.inl 7), .inl 268435456] σ (fun r σ1 => ∃ v2, r = some (.inl v2) ∧ (v2 = 0 → ∀ σ3, σ3 = z_rm σ1 (σ 7 7) (σ1 7 10) (σ1 7 8) (σ1 7 9) → ∀ σ4, σ4 = mj_up σ3 7 8 ((σ 7 7) - x2) → ∀ σ5, σ5 = mj_up σ4 7 9 (σ 7 7) → z_dr x1 ∧ ∀ σ6, σ6 = mj_up σ5 7 10 (z_st σ5 x1) → Q (some (.inl 0)) σ6) ∧ (¬ v2 = 0 → Q (some (.inl v2)) σ1))) ∧ (¬ (z_rf σ x1 x2) = 0 → Q (some (.inl (z_rf σ x1 x2))) σ)) : mj_B mjc_L mjc_Ms (d + 2) 107 [.inr (.inl 7), .inl x1, .inl x2] σ Q := by
  refine mj_B_of (M := mjcM107) (ls := [some (.inr (.inl 7)), some (.inl x1), some (.inl x2), none, none, none]) rfl (mj_c1_all rfl) (Nat.le_of_ble_eq_true rfl) rfl ?_
  refine mr_aload (pc' := 1) rfl rfl rfl ?_
  refine mr_getr (ci := 0) (pc' := 4) rfl rfl rfl rfl ?_
  refine mr_iload (pc' := 5) rfl rfl rfl ?_
  refine mr_iload (pc' := 6) rfl rfl rfl ?_
  obtain ⟨h0, h⟩ := h
  refine mr_call (t := [(6, 0)]) (pc' := 9) rfl [.inr (.inl 6), .inl x1, .inl x2] rfl rfl rfl (mj_recvV rfl) (Nat.le_of_ble_eq_true rfl) (s_c84 h0 ?_)
  refine mr_istore (pc' := 10) rfl rfl trivial (Nat.le_of_ble_eq_true rfl) rfl ?_
  refine mr_iload (pc' := 11) rfl rfl rfl ?_
  refine mr_if_eq (pc' := 14) rfl rfl (fun c => ?_) (fun c => ?_)
  · replace h := h.1 c
    refine mr_aload (pc' := 17) rfl rfl rfl ?_
    refine mr_get (ci := 0) (pc' := 20) rfl rfl rfl rfl ?_
    refine mr_iload (pc' := 21) rfl rfl rfl ?_
    obtain ⟨h0, h⟩ := h
    refine mr_isub (pc' := 22) rfl rfl h0 ?_
    refine mr_istore (pc' := 24) rfl rfl trivial (Nat.le_of_ble_eq_true rfl) rfl ?_
    refine mr_aload (pc' := 25) rfl rfl rfl ?_
    refine mr_get (ci := 0) (pc' := 28) rfl rfl rfl rfl ?_
    refine mr_istore (pc' := 30) rfl rfl trivial (Nat.le_of_ble_eq_true rfl) rfl ?_
    refine mr_aload (pc' := 31) rfl rfl rfl ?_
    refine mr_const (pc' := 33) rfl rfl (by unfold mj_r; decide) ?_
    refine mr_call (t := [(7, 0)]) (pc' := 36) rfl [.inr (.inl 7), .inl 268435456] rfl rfl rfl (mj_recvV rfl) (Nat.le_of_ble_eq_true rfl) (mj_B_mono _ _ _ _ _ _ (fun r σ1 h => ?_) h)
    obtain ⟨v2, rfl, h⟩ := h
    refine mr_istore (pc' := 37) rfl rfl trivial (Nat.le_of_ble_eq_true rfl) rfl ?_
    refine mr_iload (pc' := 38) rfl rfl rfl ?_
    refine mr_if_eq (pc' := 41) rfl rfl (fun c => ?_) (fun c => ?_)
    · replace h := h.1 c
      refine mr_aload (pc' := 44) rfl rfl rfl ?_
      refine mr_iload (pc' := 46) rfl rfl rfl ?_
      refine mr_aload (pc' := 47) rfl rfl rfl ?_
      refine mr_get (ci := 0) (pc' := 50) rfl rfl rfl rfl ?_
      refine mr_aload (pc' := 51) rfl rfl rfl ?_
      refine mr_get (ci := 0) (pc' := 54) rfl rfl rfl rfl ?_
      refine mr_aload (pc' := 55) rfl rfl rfl ?_
      refine mr_get (ci := 0) (pc' := 58) rfl rfl rfl rfl ?_
      refine mr_call (t := [(7, 0)]) (pc' := 61) rfl [.inr (.inl 7), .inl (σ 7 7), .inl (σ1 7 10), .inl (σ1 7 8), .inl (σ1 7 9)] rfl rfl rfl (mj_recvV rfl) (Nat.le_of_ble_eq_true rfl) (s_c109  (fun σ3 e9 => ?_))
      replace h := h σ3 e9
      refine mr_aload (pc' := 62) rfl rfl rfl ?_
      refine mr_iload (pc' := 64) rfl rfl rfl ?_
      refine mr_put (pc' := 67) rfl rfl rfl rfl (fun σ4 e9 => ?_)
      replace h := h σ4 e9
      refine mr_aload (pc' := 68) rfl rfl rfl ?_
      refine mr_iload (pc' := 70) rfl rfl rfl ?_
      refine mr_put (pc' := 73) rfl rfl rfl rfl (fun σ5 e9 => ?_)
      replace h := h σ5 e9
      refine mr_aload (pc' := 74) rfl rfl rfl ?_
      refine mr_aload (pc' := 75) rfl rfl rfl ?_
      refine mr_getr (ci := 0) (pc' := 78) rfl rfl rfl rfl ?_
      refine mr_iload (pc' := 79) rfl rfl rfl ?_
      obtain ⟨h0, h⟩ := h
      refine mr_call (t := [(6, 0)]) (pc' := 82) rfl [.inr (.inl 6), .inl x1] rfl rfl rfl (mj_recvV rfl) (Nat.le_of_ble_eq_true rfl) (s_c85 h0 ?_)
      refine mr_call (t := [(7, 0)]) (pc' := 85) rfl [.inr (.inl 7), .inl (z_st σ5 x1)] rfl rfl rfl (mj_recvV rfl) (Nat.le_of_ble_eq_true rfl) (s_c97  (fun σ6 e9 => ?_))
      replace h := h σ6 e9
      exact mr_iret rfl rfl trivial h
    · replace h := h.2 c
      refine mr_iload (pc' := 42) rfl rfl rfl ?_
      exact mr_iret rfl rfl trivial h
  · replace h := h.2 c
    refine mr_iload (pc' := 15) rfl rfl rfl ?_
    exact mr_iret rfl rfl trivial h
set_option maxRecDepth 20000 in
/-- ListSpeaker$Machine.enterInstead_ -/
theorem wq_c108 {d : Nat} {σ : mj_S} {Q : mj_Q} {x1 x2 : Int} (h : z_dr x1 ∧ ((z_rf σ x1 x2) = 0 → mj_r ((σ 7 7) - x2) ∧ mj_r ((σ 7 8) + x2) ∧ ((σ 7 8) < 0 → Q (some (.inl 9)) σ) ∧ (0 ≤ (σ 7 8) → ((σ 7 9) < (σ 7 8) → Q (some (.inl 9)) σ) ∧ ((σ 7 8) ≤ (σ 7 9) → (((σ 7 7) - x2) ≤ (σ 7 9) → Q (some (.inl 9)) σ) ∧ ((σ 7 9) < ((σ 7 7) - x2) → (100 ≤ ((σ 7 8) + x2) → Q (some (.inl 9)) σ) ∧ (((σ 7 8) + x2) < 100 → ((σ 7 7) ≤ 100 → 0 ≤ x2 ∧ 0 ≤ (σ 7 8) ∧ 0 ≤ ((σ 7 7) - x2) ∧ ((σ 7 7) - x2) + x2 ≤ 100 ∧ (σ 7 8) + x2 ≤ 100 ∧ (∀ i : Nat, i < x2.toNat → mj_fit .int (σ 29 (((σ 7 7) - x2).toNat + i))) ∧ ∀ σ1, σ1 = mj_cp σ 29 29 ((σ 7 7) - x2).toNat (σ 7 8).toNat x2.toNat → 0 ≤ (σ1 7 9) ∧ (σ1 7 9) < 100 ∧ 0 ≤ (σ1 7 9) ∧ (σ1 7 9) < 100 ∧ 0 ≤ (σ1 7 9) ∧ (σ1 7 9) < 100 ∧ ∀ σ2, σ2 = z_rm σ1 ((σ 7 8) + x2) (σ1 30 (σ1 7 9).toNat) (σ1 31 (σ1 7 9).toNat) (σ1 32 (σ1 7 9).toNat) → ∀ σ3, σ3 = mj_up σ2 7 9 ((σ 7 8) + x2) → ∀ σ4, σ4 = mj_up σ3 7 7 ((σ 7 8) + x2) → mj_B mjc_L mjc_Ms (d + 1) 93 [.inr (.inl 7), .inl 268435456] σ4 (fun r σ5 => ∃ v6, r = some (.inl v6) ∧ (¬ v6 = 0 → Q (some (.inl v6)) σ5) ∧ (v6 = 0 → z_dr x1 ∧ ∀ σ7, σ7 = mj_up σ5 7 10 (z_st σ5 x1) → Q (some (.inl 0)) σ7))) ∧ (100 < (σ 7 7) → Q (some (.inl 9)) σ)))))) ∧ (¬ (z_rf σ x1 x2) = 0 → Q (some (.inl (z_rf σ x1 x2))) σ)) : mj_B mjc_L mjc_Ms (d + 2) 108 [.inr (.inl 7), .inl x1, .inl x2] σ Q := by
  refine mj_B_of (M := mjcM108) (ls := [some (.inr (.inl 7)), some (.inl x1), some (.inl x2), none, none, none]) rfl (mj_c1_all rfl) (Nat.le_of_ble_eq_true rfl) rfl ?_
  refine mr_aload (pc' := 1) rfl rfl rfl ?_
  refine mr_getr (ci := 0) (pc' := 4) rfl rfl rfl rfl ?_
  refine mr_iload (pc' := 5) rfl rfl rfl ?_
  refine mr_iload (pc' := 6) rfl rfl rfl ?_
  obtain ⟨h0, h⟩ := h
  refine mr_call (t := [(6, 0)]) (pc' := 9) rfl [.inr (.inl 6), .inl x1, .inl x2] rfl rfl rfl (mj_recvV rfl) (Nat.le_of_ble_eq_true rfl) (s_c84 h0 ?_)
  refine mr_istore (pc' := 10) rfl rfl trivial (Nat.le_of_ble_eq_true rfl) rfl ?_
  refine mr_iload (pc' := 11) rfl rfl rfl ?_
  refine mr_if_eq (pc' := 14) rfl rfl (fun c => ?_) (fun c => ?_)
  · replace h := h.1 c
    refine mr_aload (pc' := 17) rfl rfl rfl ?_
    refine mr_get (ci := 0) (pc' := 20) rfl rfl rfl rfl ?_
    refine mr_iload (pc' := 21) rfl rfl rfl ?_
    obtain ⟨h0, h⟩ := h
    refine mr_isub (pc' := 22) rfl rfl h0 ?_
    refine mr_istore (pc' := 24) rfl rfl trivial (Nat.le_of_ble_eq_true rfl) rfl ?_
    refine mr_aload (pc' := 25) rfl rfl rfl ?_
    refine mr_get (ci := 0) (pc' := 28) rfl rfl rfl rfl ?_
    refine mr_iload (pc' := 29) rfl rfl rfl ?_
    obtain ⟨h0, h⟩ := h
    refine mr_iadd (pc' := 30) rfl rfl h0 ?_
    refine mr_istore (pc' := 32) rfl rfl trivial (Nat.le_of_ble_eq_true rfl) rfl ?_
    refine mr_aload (pc' := 33) rfl rfl rfl ?_
    refine mr_get (ci := 0) (pc' := 36) rfl rfl rfl rfl ?_
    refine mr_if_lt (pc' := 39) rfl rfl (fun c => ?_) (fun c => ?_)
    · replace h := h.1 c
      refine mr_const (pc' := 77) rfl rfl (by unfold mj_r; decide) ?_
      exact mr_iret rfl rfl trivial h
    · replace h := h.2 c
      refine mr_aload (pc' := 40) rfl rfl rfl ?_
      refine mr_get (ci := 0) (pc' := 43) rfl rfl rfl rfl ?_
      refine mr_aload (pc' := 44) rfl rfl rfl ?_
      refine mr_get (ci := 0) (pc' := 47) rfl rfl rfl rfl ?_
      refine mr_ic_lt (pc' := 50) rfl rfl (fun c => ?_) (fun c => ?_)
      · replace h := h.1 c
        refine mr_const (pc' := 77) rfl rfl (by unfold mj_r; decide) ?_
        exact mr_iret rfl rfl trivial h
      · replace h := h.2 c
        refine mr_iload (pc' := 52) rfl rfl rfl ?_
        refine mr_aload (pc' := 53) rfl rfl rfl ?_
        refine mr_get (ci := 0) (pc' := 56) rfl rfl rfl rfl ?_
        refine mr_ic_le (pc' := 59) rfl rfl (fun c => ?_) (fun c => ?_)
        · replace h := h.1 c
          refine mr_const (pc' := 77) rfl rfl (by unfold mj_r; decide) ?_
          exact mr_iret rfl rfl trivial h
        · replace h := h.2 c
          refine mr_iload (pc' := 61) rfl rfl rfl ?_
          refine mr_const (pc' := 63) rfl rfl (by unfold mj_r; decide) ?_
          refine mr_ic_ge (pc' := 66) rfl rfl (fun c => ?_) (fun c => ?_)
          · replace h := h.1 c
            refine mr_const (pc' := 77) rfl rfl (by unfold mj_r; decide) ?_
            exact mr_iret rfl rfl trivial h
          · replace h := h.2 c
            refine mr_aload (pc' := 67) rfl rfl rfl ?_
            refine mr_get (ci := 0) (pc' := 70) rfl rfl rfl rfl ?_
            refine mr_const (pc' := 72) rfl rfl (by unfold mj_r; decide) ?_
            refine mr_ic_le (pc' := 75) rfl rfl (fun c => ?_) (fun c => ?_)
            · replace h := h.1 c
              refine mr_aload (pc' := 79) rfl rfl rfl ?_
              refine mr_getr (ci := 0) (pc' := 82) rfl rfl rfl rfl ?_
              refine mr_iload (pc' := 84) rfl rfl rfl ?_
              refine mr_aload (pc' := 85) rfl rfl rfl ?_
              refine mr_getr (ci := 0) (pc' := 88) rfl rfl rfl rfl ?_
              refine mr_aload (pc' := 89) rfl rfl rfl ?_
              refine mr_get (ci := 0) (pc' := 92) rfl rfl rfl rfl ?_
              refine mr_iload (pc' := 93) rfl rfl rfl ?_
              obtain ⟨h0, h1, h2, h3, h4, h5, h⟩ := h
              refine mr_copy (pc' := 96) rfl rfl rfl rfl (by unfold mj_pt; simp) h0 h1 h2 h3 h4 h5 (Nat.le_of_ble_eq_true rfl) (fun σ1 e9 => ?_)
              replace h := h σ1 e9
              refine mr_aload (pc' := 97) rfl rfl rfl ?_
              refine mr_iload (pc' := 99) rfl rfl rfl ?_
              refine mr_aload (pc' := 100) rfl rfl rfl ?_
              refine mr_getr (ci := 0) (pc' := 103) rfl rfl rfl rfl ?_
              refine mr_aload (pc' := 104) rfl rfl rfl ?_
              refine mr_get (ci := 0) (pc' := 107) rfl rfl rfl rfl ?_
              obtain ⟨h0, h1, h⟩ := h
              refine mr_iald (pc' := 108) rfl rfl rfl h0 h1 ?_
              refine mr_aload (pc' := 109) rfl rfl rfl ?_
              refine mr_getr (ci := 0) (pc' := 112) rfl rfl rfl rfl ?_
              refine mr_aload (pc' := 113) rfl rfl rfl ?_
              refine mr_get (ci := 0) (pc' := 116) rfl rfl rfl rfl ?_
              obtain ⟨h0, h1, h⟩ := h
              refine mr_iald (pc' := 117) rfl rfl rfl h0 h1 ?_
              refine mr_aload (pc' := 118) rfl rfl rfl ?_
              refine mr_getr (ci := 0) (pc' := 121) rfl rfl rfl rfl ?_
              refine mr_aload (pc' := 122) rfl rfl rfl ?_
              refine mr_get (ci := 0) (pc' := 125) rfl rfl rfl rfl ?_
              obtain ⟨h0, h1, h⟩ := h
              refine mr_iald (pc' := 126) rfl rfl rfl h0 h1 ?_
              refine mr_call (t := [(7, 0)]) (pc' := 129) rfl [.inr (.inl 7), .inl ((σ 7 8) + x2), .inl (σ1 30 (σ1 7 9).toNat), .inl (σ1 31 (σ1 7 9).toNat), .inl (σ1 32 (σ1 7 9).toNat)] rfl rfl rfl (mj_recvV rfl) (Nat.le_of_ble_eq_true rfl) (s_c109  (fun σ2 e9 => ?_))
              replace h := h σ2 e9
              refine mr_aload (pc' := 130) rfl rfl rfl ?_
              refine mr_iload (pc' := 132) rfl rfl rfl ?_
              refine mr_put (pc' := 135) rfl rfl rfl rfl (fun σ3 e9 => ?_)
              replace h := h σ3 e9
              refine mr_aload (pc' := 136) rfl rfl rfl ?_
              refine mr_iload (pc' := 138) rfl rfl rfl ?_
              refine mr_put (pc' := 141) rfl rfl rfl rfl (fun σ4 e9 => ?_)
              replace h := h σ4 e9
              refine mr_aload (pc' := 142) rfl rfl rfl ?_
              refine mr_const (pc' := 144) rfl rfl (by unfold mj_r; decide) ?_
              refine mr_call (t := [(7, 0)]) (pc' := 147) rfl [.inr (.inl 7), .inl 268435456] rfl rfl rfl (mj_recvV rfl) (Nat.le_of_ble_eq_true rfl) (mj_B_mono _ _ _ _ _ _ (fun r σ5 h => ?_) h)
              obtain ⟨v6, rfl, h⟩ := h
              refine mr_istore (pc' := 148) rfl rfl trivial (Nat.le_of_ble_eq_true rfl) rfl ?_
              refine mr_iload (pc' := 149) rfl rfl rfl ?_
              refine mr_if_ne (pc' := 152) rfl rfl (fun c => ?_) (fun c => ?_)
              · replace h := h.1 c
                refine mr_iload (pc' := 168) rfl rfl rfl ?_
                exact mr_iret rfl rfl trivial h
              · replace h := h.2 c
                refine mr_aload (pc' := 153) rfl rfl rfl ?_
                refine mr_aload (pc' := 154) rfl rfl rfl ?_
                refine mr_getr (ci := 0) (pc' := 157) rfl rfl rfl rfl ?_
                refine mr_iload (pc' := 158) rfl rfl rfl ?_
                obtain ⟨h0, h⟩ := h
                refine mr_call (t := [(6, 0)]) (pc' := 161) rfl [.inr (.inl 6), .inl x1] rfl rfl rfl (mj_recvV rfl) (Nat.le_of_ble_eq_true rfl) (s_c85 h0 ?_)
                refine mr_call (t := [(7, 0)]) (pc' := 164) rfl [.inr (.inl 7), .inl (z_st σ5 x1)] rfl rfl rfl (mj_recvV rfl) (Nat.le_of_ble_eq_true rfl) (s_c97  (fun σ7 e9 => ?_))
                replace h := h σ7 e9
                refine mr_goto rfl ?_
                exact mr_iret rfl rfl trivial h
            · replace h := h.2 c
              refine mr_const (pc' := 77) rfl rfl (by unfold mj_r; decide) ?_
              exact mr_iret rfl rfl trivial h
  · replace h := h.2 c
    refine mr_iload (pc' := 15) rfl rfl rfl ?_
    exact mr_iret rfl rfl trivial h
set_option maxRecDepth 20000 in
/-- ListSpeaker$Machine.leave_ -/
theorem wq_c110 {d : Nat} {σ : mj_S} {Q : mj_Q} (h : ((σ 7 9) < 0 → Q (some (.inl 9)) σ) ∧ (0 ≤ (σ 7 9) → ((σ 7 9) < 100 → mj_r ((σ 7 7) - (σ 7 8)) ∧ mj_r (σ 7 7 - 1) ∧ mj_r (σ 7 7 - 1 - 0) ∧ mj_B mjc_L mjc_Ms (d + 1) 96 [.inr (.inl 7), .inl ((σ 7 7) - (σ 7 8)), .inl (z_bl σ 0)] σ (fun r σ1 => ∃ v2, r = some (.inl v2) ∧ 0 ≤ (σ1 7 9) ∧ (σ1 7 9) < 100 ∧ ∀ σ3, σ3 = mj_up σ1 7 8 (σ1 31 (σ1 7 9).toNat) → 0 ≤ (σ1 7 9) ∧ (σ1 7 9) < 100 ∧ ∀ σ4, σ4 = mj_up σ3 7 9 (σ3 32 (σ1 7 9).toNat) → 0 ≤ (σ1 7 9) ∧ (σ1 7 9) < 100 ∧ ∀ σ5, σ5 = mj_up σ4 7 10 (σ4 30 (σ1 7 9).toNat) → Q (some (.inl v2)) σ5)) ∧ (100 ≤ (σ 7 9) → Q (some (.inl 9)) σ))) : mj_B mjc_L mjc_Ms (d + 2) 110 [.inr (.inl 7)] σ Q := by
  refine mj_B_of (M := mjcM110) (ls := [some (.inr (.inl 7)), none, none]) rfl (mj_c1_all rfl) (Nat.le_of_ble_eq_true rfl) rfl ?_
  refine mr_aload (pc' := 1) rfl rfl rfl ?_
  refine mr_get (ci := 0) (pc' := 4) rfl rfl rfl rfl ?_
  refine mr_if_lt (pc' := 7) rfl rfl (fun c => ?_) (fun c => ?_)
  · replace h := h.1 c
    refine mr_const (pc' := 18) rfl rfl (by unfold mj_r; decide) ?_
    exact mr_iret rfl rfl trivial h
  · replace h := h.2 c
    refine mr_aload (pc' := 8) rfl rfl rfl ?_
    refine mr_get (ci := 0) (pc' := 11) rfl rfl rfl rfl ?_
    refine mr_const (pc' := 13) rfl rfl (by unfold mj_r; decide) ?_
    refine mr_ic_lt (pc' := 16) rfl rfl (fun c => ?_) (fun c => ?_)
    · replace h := h.1 c
      refine mr_aload (pc' := 20) rfl rfl rfl ?_
      refine mr_aload (pc' := 21) rfl rfl rfl ?_
      refine mr_get (ci := 0) (pc' := 24) rfl rfl rfl rfl ?_
      refine mr_aload (pc' := 25) rfl rfl rfl ?_
      refine mr_get (ci := 0) (pc' := 28) rfl rfl rfl rfl ?_
      obtain ⟨h0, h⟩ := h
      refine mr_isub (pc' := 29) rfl rfl h0 ?_
      refine mr_aload (pc' := 30) rfl rfl rfl ?_
      refine mr_const (pc' := 31) rfl rfl (by unfold mj_r; decide) ?_
      obtain ⟨h0, h1, h⟩ := h
      refine mr_call (t := [(7, 0)]) (pc' := 34) rfl [.inr (.inl 7), .inl 0] rfl rfl rfl (mj_recvV rfl) (Nat.le_of_ble_eq_true rfl) (s_c94 h0 h1 ?_)
      refine mr_call (t := [(7, 0)]) (pc' := 37) rfl [.inr (.inl 7), .inl ((σ 7 7) - (σ 7 8)), .inl (z_bl σ 0)] rfl rfl rfl (mj_recvV rfl) (Nat.le_of_ble_eq_true rfl) (mj_B_mono _ _ _ _ _ _ (fun r σ1 h => ?_) h)
      obtain ⟨v2, rfl, h⟩ := h
      refine mr_istore (pc' := 38) rfl rfl trivial (Nat.le_of_ble_eq_true rfl) rfl ?_
      refine mr_aload (pc' := 39) rfl rfl rfl ?_
      refine mr_get (ci := 0) (pc' := 42) rfl rfl rfl rfl ?_
      refine mr_istore (pc' := 43) rfl rfl trivial (Nat.le_of_ble_eq_true rfl) rfl ?_
      refine mr_aload (pc' := 44) rfl rfl rfl ?_
      refine mr_aload (pc' := 45) rfl rfl rfl ?_
      refine mr_getr (ci := 0) (pc' := 48) rfl rfl rfl rfl ?_
      refine mr_iload (pc' := 49) rfl rfl rfl ?_
      obtain ⟨h0, h1, h⟩ := h
      refine mr_iald (pc' := 50) rfl rfl rfl h0 h1 ?_
      refine mr_put (pc' := 53) rfl rfl rfl rfl (fun σ3 e9 => ?_)
      replace h := h σ3 e9
      refine mr_aload (pc' := 54) rfl rfl rfl ?_
      refine mr_aload (pc' := 55) rfl rfl rfl ?_
      refine mr_getr (ci := 0) (pc' := 58) rfl rfl rfl rfl ?_
      refine mr_iload (pc' := 59) rfl rfl rfl ?_
      obtain ⟨h0, h1, h⟩ := h
      refine mr_iald (pc' := 60) rfl rfl rfl h0 h1 ?_
      refine mr_put (pc' := 63) rfl rfl rfl rfl (fun σ4 e9 => ?_)
      replace h := h σ4 e9
      refine mr_aload (pc' := 64) rfl rfl rfl ?_
      refine mr_aload (pc' := 65) rfl rfl rfl ?_
      refine mr_getr (ci := 0) (pc' := 68) rfl rfl rfl rfl ?_
      refine mr_iload (pc' := 69) rfl rfl rfl ?_
      obtain ⟨h0, h1, h⟩ := h
      refine mr_iald (pc' := 70) rfl rfl rfl h0 h1 ?_
      refine mr_put (pc' := 73) rfl rfl rfl rfl (fun σ5 e9 => ?_)
      replace h := h σ5 e9
      refine mr_iload (pc' := 74) rfl rfl rfl ?_
      exact mr_iret rfl rfl trivial h
    · replace h := h.2 c
      refine mr_const (pc' := 18) rfl rfl (by unfold mj_r; decide) ?_
      exact mr_iret rfl rfl trivial h
set_option maxRecDepth 20000 in
/-- ListSpeaker$Paper.letter_ -/
theorem wq_c112 {d : Nat} {σ : mj_S} {Q : mj_Q} {x1 : Int} (h : (x1 < 0 → mj_fit .char 32 ∧ Q (some (.inl 32)) σ) ∧ (0 ≤ x1 → ((σ 8 4) ≤ x1 → mj_fit .char 32 ∧ Q (some (.inl 32)) σ) ∧ (x1 < (σ 8 4) → 0 ≤ x1 ∧ x1 < 400 ∧ mj_fit .char (σ 33 x1.toNat) ∧ Q (some (.inl (σ 33 x1.toNat))) σ))) : mj_B mjc_L mjc_Ms (d + 1) 112 [.inr (.inl 8), .inl x1] σ Q := by
  refine mj_B_of (M := mjcM112) (ls := [some (.inr (.inl 8)), some (.inl x1)]) rfl (mj_c1_all rfl) (Nat.le_of_ble_eq_true rfl) rfl ?_
  refine mr_iload (pc' := 1) rfl rfl rfl ?_
  refine mr_if_lt (pc' := 4) rfl rfl (fun c => ?_) (fun c => ?_)
  · replace h := h.1 c
    refine mr_const (pc' := 23) rfl rfl (by unfold mj_r; decide) ?_
    exact mr_iret rfl rfl h.1 h.2
  · replace h := h.2 c
    refine mr_iload (pc' := 5) rfl rfl rfl ?_
    refine mr_aload (pc' := 6) rfl rfl rfl ?_
    refine mr_get (ci := 0) (pc' := 9) rfl rfl rfl rfl ?_
    refine mr_ic_ge (pc' := 12) rfl rfl (fun c => ?_) (fun c => ?_)
    · replace h := h.1 c
      refine mr_const (pc' := 23) rfl rfl (by unfold mj_r; decide) ?_
      exact mr_iret rfl rfl h.1 h.2
    · replace h := h.2 c
      refine mr_aload (pc' := 13) rfl rfl rfl ?_
      refine mr_getr (ci := 0) (pc' := 16) rfl rfl rfl rfl ?_
      refine mr_iload (pc' := 17) rfl rfl rfl ?_
      obtain ⟨h0, h1, h⟩ := h
      refine mr_cald (pc' := 18) rfl rfl rfl h0 h1 ?_
      refine mr_goto rfl ?_
      exact mr_iret rfl rfl h.1 h.2
set_option maxRecDepth 20000 in
/-- ListSpeaker$Paper.printError_ -/
theorem wq_c114 {d : Nat} {σ : mj_S} {Q : mj_Q} {x1 : Int} (h : 0 ≤ σ 8 4 ∧ mj_fit .char 33 ∧ ∀ σ1, σ1 = z_pp σ 33 → mj_B mjc_L mjc_Ms (d + 1) 121 [.inr (.inl 8), .inl x1] σ1 (fun r σ2 => r = none ∧ 0 ≤ σ2 8 4 ∧ mj_fit .char 10 ∧ ∀ σ3, σ3 = z_pp σ2 10 → Q none σ3)) : mj_B mjc_L mjc_Ms (d + 2) 114 [.inr (.inl 8), .inl x1] σ Q := by
  refine mj_B_of (M := mjcM114) (ls := [some (.inr (.inl 8)), some (.inl x1)]) rfl (mj_c1_all rfl) (Nat.le_of_ble_eq_true rfl) rfl ?_
  refine mr_aload (pc' := 1) rfl rfl rfl ?_
  refine mr_const (pc' := 3) rfl rfl (by unfold mj_r; decide) ?_
  obtain ⟨h0, h1, h⟩ := h
  refine mr_call (t := [(8, 0)]) (pc' := 6) rfl [.inr (.inl 8), .inl 33] rfl rfl rfl (mj_recvV rfl) (Nat.le_of_ble_eq_true rfl) (s_c122 h0 h1 (fun σ1 e9 => ?_))
  replace h := h σ1 e9
  refine mr_aload (pc' := 7) rfl rfl rfl ?_
  refine mr_iload (pc' := 8) rfl rfl rfl ?_
  refine mr_call (t := [(8, 0)]) (pc' := 11) rfl [.inr (.inl 8), .inl x1] rfl rfl rfl (mj_recvV rfl) (Nat.le_of_ble_eq_true rfl) (mj_B_mono _ _ _ _ _ _ (fun r σ2 h => ?_) h)
  obtain ⟨rfl, h⟩ := h
  refine mr_aload (pc' := 12) rfl rfl rfl ?_
  refine mr_const (pc' := 14) rfl rfl (by unfold mj_r; decide) ?_
  obtain ⟨h0, h1, h⟩ := h
  refine mr_call (t := [(8, 0)]) (pc' := 17) rfl [.inr (.inl 8), .inl 10] rfl rfl rfl (mj_recvV rfl) (Nat.le_of_ble_eq_true rfl) (s_c122 h0 h1 (fun σ3 e9 => ?_))
  replace h := h σ3 e9
  exact mr_ret rfl rfl h
def qh_c115_12 (d : Nat) (Q : mj_Q) (y1 y2 : Int) (σ : mj_S) : Prop := mj_P mjc_L mjc_Ms d mjco115 ((Option.none : Option Jvm.ClassFile.FieldType)) Q 12 [some (.inr (.inl 8)), some (.inl y1), some (.inl y2), none] [] σ
set_option maxRecDepth 20000 in
theorem qw_c115_12 {d : Nat} {Q : mj_Q} {y1 y2 : Int} {σ : mj_S} (h : (1000000 ≤ y2 → 0 ≤ σ 8 4 ∧ mj_fit .char 10 ∧ ∀ σ1, σ1 = z_pp σ 10 → Q none σ1) ∧ (y2 < 1000000 → ((σ 8 5) ≤ 0 → 0 ≤ σ 8 4 ∧ mj_fit .char 10 ∧ ∀ σ2, σ2 = z_pp σ 10 → Q none σ2) ∧ (0 < (σ 8 5) → (400 ≤ (σ 8 4) → 0 ≤ σ 8 4 ∧ mj_fit .char 10 ∧ ∀ σ3, σ3 = z_pp σ 10 → Q none σ3) ∧ ((σ 8 4) < 400 → mj_r ((σ 8 5) - 1) ∧ ∀ σ4, σ4 = mj_up σ 8 5 ((σ 8 5) - 1) → 0 ≤ (σ4 8 5) ∧ (σ4 8 5) < 602 ∧ ((σ4 34 (σ4 8 5).toNat) < 0 → mj_r ((-1) - (σ4 34 (σ4 8 5).toNat)) ∧ mj_B mjc_L mjc_Ms (d + 1) 118 [.inr (.inl 8), .inl ((-1) - (σ4 34 (σ4 8 5).toNat))] σ4 (fun r σ5 => r = none ∧ mj_r (y2 + 1) ∧ qh_c115_12 (d + 1) Q y1 (y2 + 1) σ5)) ∧ (0 ≤ (σ4 34 (σ4 8 5).toNat) → mj_B mjc_L mjc_Ms (d + 1) 117 [.inr (.inl 8), .inl (σ4 34 (σ4 8 5).toNat)] σ4 (fun r σ6 => r = none ∧ mj_r (y2 + 1) ∧ qh_c115_12 (d + 1) Q y1 (y2 + 1) σ6)))))) : qh_c115_12 (d + 1) Q y1 y2 σ := by
  show mj_P mjc_L mjc_Ms (d + 1) mjco115 ((Option.none : Option Jvm.ClassFile.FieldType)) Q 12 [some (.inr (.inl 8)), some (.inl y1), some (.inl y2), none] [] σ
  refine mr_iload (pc' := 13) rfl rfl rfl ?_
  refine mr_const (pc' := 15) rfl rfl (by unfold mj_r; decide) ?_
  refine mr_ic_ge (pc' := 18) rfl rfl (fun c => ?_) (fun c => ?_)
  · replace h := h.1 c
    refine mr_aload (pc' := 81) rfl rfl rfl ?_
    refine mr_const (pc' := 83) rfl rfl (by unfold mj_r; decide) ?_
    obtain ⟨h0, h1, h⟩ := h
    refine mr_call (t := [(8, 0)]) (pc' := 86) rfl [.inr (.inl 8), .inl 10] rfl rfl rfl (mj_recvV rfl) (Nat.le_of_ble_eq_true rfl) (s_c122 h0 h1 (fun σ1 e9 => ?_))
    replace h := h σ1 e9
    exact mr_ret rfl rfl h
  · replace h := h.2 c
    refine mr_aload (pc' := 19) rfl rfl rfl ?_
    refine mr_get (ci := 0) (pc' := 22) rfl rfl rfl rfl ?_
    refine mr_if_le (pc' := 25) rfl rfl (fun c => ?_) (fun c => ?_)
    · replace h := h.1 c
      refine mr_aload (pc' := 81) rfl rfl rfl ?_
      refine mr_const (pc' := 83) rfl rfl (by unfold mj_r; decide) ?_
      obtain ⟨h0, h1, h⟩ := h
      refine mr_call (t := [(8, 0)]) (pc' := 86) rfl [.inr (.inl 8), .inl 10] rfl rfl rfl (mj_recvV rfl) (Nat.le_of_ble_eq_true rfl) (s_c122 h0 h1 (fun σ2 e9 => ?_))
      replace h := h σ2 e9
      exact mr_ret rfl rfl h
    · replace h := h.2 c
      refine mr_aload (pc' := 26) rfl rfl rfl ?_
      refine mr_get (ci := 0) (pc' := 29) rfl rfl rfl rfl ?_
      refine mr_const (pc' := 32) rfl rfl (by unfold mj_r; decide) ?_
      refine mr_ic_ge (pc' := 35) rfl rfl (fun c => ?_) (fun c => ?_)
      · replace h := h.1 c
        refine mr_aload (pc' := 81) rfl rfl rfl ?_
        refine mr_const (pc' := 83) rfl rfl (by unfold mj_r; decide) ?_
        obtain ⟨h0, h1, h⟩ := h
        refine mr_call (t := [(8, 0)]) (pc' := 86) rfl [.inr (.inl 8), .inl 10] rfl rfl rfl (mj_recvV rfl) (Nat.le_of_ble_eq_true rfl) (s_c122 h0 h1 (fun σ3 e9 => ?_))
        replace h := h σ3 e9
        exact mr_ret rfl rfl h
      · replace h := h.2 c
        refine mr_aload (pc' := 36) rfl rfl rfl ?_
        refine mr_dup (pc' := 37) rfl rfl trivial ?_
        refine mr_get (ci := 0) (pc' := 40) rfl rfl rfl rfl ?_
        refine mr_const (pc' := 41) rfl rfl (by unfold mj_r; decide) ?_
        obtain ⟨h0, h⟩ := h
        refine mr_isub (pc' := 42) rfl rfl h0 ?_
        refine mr_put (pc' := 45) rfl rfl rfl rfl (fun σ4 e9 => ?_)
        replace h := h σ4 e9
        refine mr_aload (pc' := 46) rfl rfl rfl ?_
        refine mr_getr (ci := 0) (pc' := 49) rfl rfl rfl rfl ?_
        refine mr_aload (pc' := 50) rfl rfl rfl ?_
        refine mr_get (ci := 0) (pc' := 53) rfl rfl rfl rfl ?_
        obtain ⟨h0, h1, h⟩ := h
        refine mr_iald (pc' := 54) rfl rfl rfl h0 h1 ?_
        refine mr_istore (pc' := 55) rfl rfl trivial (Nat.le_of_ble_eq_true rfl) rfl ?_
        refine mr_iload (pc' := 56) rfl rfl rfl ?_
        refine mr_if_lt (pc' := 59) rfl rfl (fun c => ?_) (fun c => ?_)
        · replace h := h.1 c
          refine mr_aload (pc' := 68) rfl rfl rfl ?_
          refine mr_const (pc' := 69) rfl rfl (by unfold mj_r; decide) ?_
          refine mr_iload (pc' := 70) rfl rfl rfl ?_
          obtain ⟨h0, h⟩ := h
          refine mr_isub (pc' := 71) rfl rfl h0 ?_
          refine mr_call (t := [(8, 0)]) (pc' := 74) rfl [.inr (.inl 8), .inl ((-1) - (σ4 34 (σ4 8 5).toNat))] rfl rfl rfl (mj_recvV rfl) (Nat.le_of_ble_eq_true rfl) (mj_B_mono _ _ _ _ _ _ (fun r σ5 h => ?_) h)
          obtain ⟨rfl, h⟩ := h
          obtain ⟨h0, h⟩ := h
          refine mr_iinc (pc' := 77) rfl rfl rfl trivial h0 rfl ?_
          refine mr_goto rfl ?_
          exact mj_W_ls (mj_B_mono _) (mj_lev_of _ _ (by simp [mj_levb])) h
        · replace h := h.2 c
          refine mr_aload (pc' := 60) rfl rfl rfl ?_
          refine mr_iload (pc' := 61) rfl rfl rfl ?_
          refine mr_call (t := [(8, 0)]) (pc' := 64) rfl [.inr (.inl 8), .inl (σ4 34 (σ4 8 5).toNat)] rfl rfl rfl (mj_recvV rfl) (Nat.le_of_ble_eq_true rfl) (mj_B_mono _ _ _ _ _ _ (fun r σ6 h => ?_) h)
          obtain ⟨rfl, h⟩ := h
          refine mr_goto rfl ?_
          obtain ⟨h0, h⟩ := h
          refine mr_iinc (pc' := 77) rfl rfl rfl trivial h0 rfl ?_
          refine mr_goto rfl ?_
          exact mj_W_ls (mj_B_mono _) (mj_lev_of _ _ (by simp [mj_levb])) h
set_option maxRecDepth 20000 in
/-- ListSpeaker$Paper.printLine_ -/
theorem wq_c115 {d : Nat} {σ : mj_S} {Q : mj_Q} {x1 : Int} (h : ∀ σ1, σ1 = mj_up σ 8 5 0 → 0 ≤ σ1 8 5 ∧ ∀ σ2, σ2 = z_pa σ1 x1 → qh_c115_12 (d + 1) Q x1 0 σ2) : mj_B mjc_L mjc_Ms (d + 2) 115 [.inr (.inl 8), .inl x1] σ Q := by
  refine mj_B_of (M := mjcM115) (ls := [some (.inr (.inl 8)), some (.inl x1), none, none]) rfl (mj_c1_all rfl) (Nat.le_of_ble_eq_true rfl) rfl ?_
  refine mr_aload (pc' := 1) rfl rfl rfl ?_
  refine mr_const (pc' := 2) rfl rfl (by unfold mj_r; decide) ?_
  refine mr_put (pc' := 5) rfl rfl rfl rfl (fun σ1 e9 => ?_)
  replace h := h σ1 e9
  refine mr_aload (pc' := 6) rfl rfl rfl ?_
  refine mr_iload (pc' := 7) rfl rfl rfl ?_
  obtain ⟨h0, h⟩ := h
  refine mr_call (t := [(8, 0)]) (pc' := 10) rfl [.inr (.inl 8), .inl x1] rfl rfl rfl (mj_recvV rfl) (Nat.le_of_ble_eq_true rfl) (s_c116 h0 (fun σ2 e9 => ?_))
  replace h := h σ2 e9
  refine mr_const (pc' := 11) rfl rfl (by unfold mj_r; decide) ?_
  refine mr_istore (pc' := 12) rfl rfl trivial (Nat.le_of_ble_eq_true rfl) rfl ?_
  exact mj_W_ls (mj_B_mono _) (mj_lev_of _ _ (by simp [mj_levb])) h
set_option maxRecDepth 20000 in
/-- ListSpeaker$Paper.printDatum_ -/
theorem wq_c117 {d : Nat} {σ : mj_S} {Q : mj_Q} {x1 : Int} (h : (¬ (536870912 ≤ x1) → mj_B mjc_L mjc_Ms (d + 1) 120 [.inr (.inl 8), .inl x1] σ (fun r σ1 => r = none ∧ Q none σ1)) ∧ (536870912 ≤ x1 → 0 ≤ σ 8 4 ∧ mj_fit .char 40 ∧ ∀ σ2, σ2 = z_pp σ 40 → mj_B mjc_L mjc_Ms (d + 1) 119 [.inr (.inl 8), .inl x1] σ2 (fun r σ3 => r = none ∧ Q none σ3))) : mj_B mjc_L mjc_Ms (d + 2) 117 [.inr (.inl 8), .inl x1] σ Q := by
  refine mj_B_of (M := mjcM117) (ls := [some (.inr (.inl 8)), some (.inl x1)]) rfl (mj_c1_all rfl) (Nat.le_of_ble_eq_true rfl) rfl ?_
  refine mr_iload (pc' := 1) rfl rfl rfl ?_
  refine mr_call (t := []) (pc' := 4) rfl [.inl x1] rfl rfl rfl trivial (Nat.le_of_ble_eq_true rfl) (s_c9  ?_)
  refine mr_if_eq (pc' := 7) rfl rfl (fun c => ?_) (fun c => ?_)
  · replace h := h.1 (bo_0 c)
    refine mr_aload (pc' := 22) rfl rfl rfl ?_
    refine mr_iload (pc' := 23) rfl rfl rfl ?_
    refine mr_call (t := [(8, 0)]) (pc' := 26) rfl [.inr (.inl 8), .inl x1] rfl rfl rfl (mj_recvV rfl) (Nat.le_of_ble_eq_true rfl) (mj_B_mono _ _ _ _ _ _ (fun r σ1 h => ?_) h)
    obtain ⟨rfl, h⟩ := h
    exact mr_ret rfl rfl h
  · replace h := h.2 (bo_1 c)
    refine mr_aload (pc' := 8) rfl rfl rfl ?_
    refine mr_const (pc' := 10) rfl rfl (by unfold mj_r; decide) ?_
    obtain ⟨h0, h1, h⟩ := h
    refine mr_call (t := [(8, 0)]) (pc' := 13) rfl [.inr (.inl 8), .inl 40] rfl rfl rfl (mj_recvV rfl) (Nat.le_of_ble_eq_true rfl) (s_c122 h0 h1 (fun σ2 e9 => ?_))
    replace h := h σ2 e9
    refine mr_aload (pc' := 14) rfl rfl rfl ?_
    refine mr_iload (pc' := 15) rfl rfl rfl ?_
    refine mr_call (t := [(8, 0)]) (pc' := 18) rfl [.inr (.inl 8), .inl x1] rfl rfl rfl (mj_recvV rfl) (Nat.le_of_ble_eq_true rfl) (mj_B_mono _ _ _ _ _ _ (fun r σ3 h => ?_) h)
    obtain ⟨rfl, h⟩ := h
    refine mr_goto rfl ?_
    exact mr_ret rfl rfl h
set_option maxRecDepth 20000 in
/-- ListSpeaker$Paper.printRest_ -/
theorem wq_c118 {d : Nat} {σ : mj_S} {Q : mj_Q} {x1 : Int} (h : (¬ (536870912 ≤ x1) → (x1 = 268435456 → 0 ≤ σ 8 4 ∧ mj_fit .char 41 ∧ ∀ σ1, σ1 = z_pp σ 41 → Q none σ1) ∧ (¬ x1 = 268435456 → 0 ≤ σ 8 4 ∧ mj_fit .char 32 ∧ ∀ σ2, σ2 = z_pp σ 32 → 0 ≤ σ2 8 4 ∧ mj_fit .char 46 ∧ ∀ σ3, σ3 = z_pp σ2 46 → 0 ≤ σ3 8 4 ∧ mj_fit .char 32 ∧ ∀ σ4, σ4 = z_pp σ3 32 → mj_B mjc_L mjc_Ms (d + 1) 120 [.inr (.inl 8), .inl x1] σ4 (fun r σ5 => r = none ∧ 0 ≤ σ5 8 4 ∧ mj_fit .char 41 ∧ ∀ σ6, σ6 = z_pp σ5 41 → Q none σ6))) ∧ (536870912 ≤ x1 → 0 ≤ σ 8 4 ∧ mj_fit .char 32 ∧ ∀ σ7, σ7 = z_pp σ 32 → mj_B mjc_L mjc_Ms (d + 1) 119 [.inr (.inl 8), .inl x1] σ7 (fun r σ8 => r = none ∧ Q none σ8))) : mj_B mjc_L mjc_Ms (d + 2) 118 [.inr (.inl 8), .inl x1] σ Q := by
  refine mj_B_of (M := mjcM118) (ls := [some (.inr (.inl 8)), some (.inl x1)]) rfl (mj_c1_all rfl) (Nat.le_of_ble_eq_true rfl) rfl ?_
  refine mr_iload (pc' := 1) rfl rfl rfl ?_
  refine mr_call (t := []) (pc' := 4) rfl [.inl x1] rfl rfl rfl trivial (Nat.le_of_ble_eq_true rfl) (s_c9  ?_)
  refine mr_if_eq (pc' := 7) rfl rfl (fun c => ?_) (fun c => ?_)
  · replace h := h.1 (bo_0 c)
    refine mr_iload (pc' := 20) rfl rfl rfl ?_
    refine mr_const (pc' := 22) rfl rfl (by unfold mj_r; decide) ?_
    refine mr_ic_eq (pc' := 25) rfl rfl (fun c => ?_) (fun c => ?_)
    · replace h := h.1 c
      refine mr_aload (pc' := 49) rfl rfl rfl ?_
      refine mr_const (pc' := 51) rfl rfl (by unfold mj_r; decide) ?_
      obtain ⟨h0, h1, h⟩ := h
      refine mr_call (t := [(8, 0)]) (pc' := 54) rfl [.inr (.inl 8), .inl 41] rfl rfl rfl (mj_recvV rfl) (Nat.le_of_ble_eq_true rfl) (s_c122 h0 h1 (fun σ1 e9 => ?_))
      replace h := h σ1 e9
      exact mr_ret rfl rfl h
    · replace h := h.2 c
      refine mr_aload (pc' := 26) rfl rfl rfl ?_
      refine mr_const (pc' := 28) rfl rfl (by unfold mj_r; decide) ?_
      obtain ⟨h0, h1, h⟩ := h
      refine mr_call (t := [(8, 0)]) (pc' := 31) rfl [.inr (.inl 8), .inl 32] rfl rfl rfl (mj_recvV rfl) (Nat.le_of_ble_eq_true rfl) (s_c122 h0 h1 (fun σ2 e9 => ?_))
      replace h := h σ2 e9
      refine mr_aload (pc' := 32) rfl rfl rfl ?_
      refine mr_const (pc' := 34) rfl rfl (by unfold mj_r; decide) ?_
      obtain ⟨h0, h1, h⟩ := h
      refine mr_call (t := [(8, 0)]) (pc' := 37) rfl [.inr (.inl 8), .inl 46] rfl rfl rfl (mj_recvV rfl) (Nat.le_of_ble_eq_true rfl) (s_c122 h0 h1 (fun σ3 e9 => ?_))
      replace h := h σ3 e9
      refine mr_aload (pc' := 38) rfl rfl rfl ?_
      refine mr_const (pc' := 40) rfl rfl (by unfold mj_r; decide) ?_
      obtain ⟨h0, h1, h⟩ := h
      refine mr_call (t := [(8, 0)]) (pc' := 43) rfl [.inr (.inl 8), .inl 32] rfl rfl rfl (mj_recvV rfl) (Nat.le_of_ble_eq_true rfl) (s_c122 h0 h1 (fun σ4 e9 => ?_))
      replace h := h σ4 e9
      refine mr_aload (pc' := 44) rfl rfl rfl ?_
      refine mr_iload (pc' := 45) rfl rfl rfl ?_
      refine mr_call (t := [(8, 0)]) (pc' := 48) rfl [.inr (.inl 8), .inl x1] rfl rfl rfl (mj_recvV rfl) (Nat.le_of_ble_eq_true rfl) (mj_B_mono _ _ _ _ _ _ (fun r σ5 h => ?_) h)
      obtain ⟨rfl, h⟩ := h
      refine mr_aload (pc' := 49) rfl rfl rfl ?_
      refine mr_const (pc' := 51) rfl rfl (by unfold mj_r; decide) ?_
      obtain ⟨h0, h1, h⟩ := h
      refine mr_call (t := [(8, 0)]) (pc' := 54) rfl [.inr (.inl 8), .inl 41] rfl rfl rfl (mj_recvV rfl) (Nat.le_of_ble_eq_true rfl) (s_c122 h0 h1 (fun σ6 e9 => ?_))
      replace h := h σ6 e9
      exact mr_ret rfl rfl h
  · replace h := h.2 (bo_1 c)
    refine mr_aload (pc' := 8) rfl rfl rfl ?_
    refine mr_const (pc' := 10) rfl rfl (by unfold mj_r; decide) ?_
    obtain ⟨h0, h1, h⟩ := h
    refine mr_call (t := [(8, 0)]) (pc' := 13) rfl [.inr (.inl 8), .inl 32] rfl rfl rfl (mj_recvV rfl) (Nat.le_of_ble_eq_true rfl) (s_c122 h0 h1 (fun σ7 e9 => ?_))
    replace h := h σ7 e9
    refine mr_aload (pc' := 14) rfl rfl rfl ?_
    refine mr_iload (pc' := 15) rfl rfl rfl ?_
    refine mr_call (t := [(8, 0)]) (pc' := 18) rfl [.inr (.inl 8), .inl x1] rfl rfl rfl (mj_recvV rfl) (Nat.le_of_ble_eq_true rfl) (mj_B_mono _ _ _ _ _ _ (fun r σ8 h => ?_) h)
    obtain ⟨rfl, h⟩ := h
    exact mr_ret rfl rfl h
set_option maxRecDepth 20000 in
/-- ListSpeaker$Paper.awaitPartsOf_ -/
theorem wq_c119 {d : Nat} {σ : mj_S} {Q : mj_Q} {x1 : Int} (h : z_dr x1 ∧ mj_r ((-1) - (z_cd (σ 12) x1)) ∧ 0 ≤ σ 8 5 ∧ ∀ σ1, σ1 = z_pa σ ((-1) - (z_cd (σ 12) x1)) → z_dr x1 ∧ 0 ≤ σ1 8 5 ∧ ∀ σ2, σ2 = z_pa σ1 (z_cd (σ1 11) x1) → Q none σ2) : mj_B mjc_L mjc_Ms (d + 2) 119 [.inr (.inl 8), .inl x1] σ Q := by
  refine mj_B_of (M := mjcM119) (ls := [some (.inr (.inl 8)), some (.inl x1)]) rfl (mj_c1_all rfl) (Nat.le_of_ble_eq_true rfl) rfl ?_
  refine mr_aload (pc' := 1) rfl rfl rfl ?_
  refine mr_const (pc' := 2) rfl rfl (by unfold mj_r; decide) ?_
  refine mr_aload (pc' := 3) rfl rfl rfl ?_
  refine mr_getr (ci := 0) (pc' := 6) rfl rfl rfl rfl ?_
  refine mr_iload (pc' := 7) rfl rfl rfl ?_
  obtain ⟨h0, h⟩ := h
  refine mr_call (t := [(2, 0)]) (pc' := 10) rfl [.inr (.inl 2), .inl x1] rfl rfl rfl (mj_recvV rfl) (Nat.le_of_ble_eq_true rfl) (s_c21 h0 ?_)
  obtain ⟨h0, h⟩ := h
  refine mr_isub (pc' := 11) rfl rfl h0 ?_
  obtain ⟨h0, h⟩ := h
  refine mr_call (t := [(8, 0)]) (pc' := 14) rfl [.inr (.inl 8), .inl ((-1) - (z_cd (σ 12) x1))] rfl rfl rfl (mj_recvV rfl) (Nat.le_of_ble_eq_true rfl) (s_c116 h0 (fun σ1 e9 => ?_))
  replace h := h σ1 e9
  refine mr_aload (pc' := 15) rfl rfl rfl ?_
  refine mr_aload (pc' := 16) rfl rfl rfl ?_
  refine mr_getr (ci := 0) (pc' := 19) rfl rfl rfl rfl ?_
  refine mr_iload (pc' := 20) rfl rfl rfl ?_
  obtain ⟨h0, h⟩ := h
  refine mr_call (t := [(2, 0)]) (pc' := 23) rfl [.inr (.inl 2), .inl x1] rfl rfl rfl (mj_recvV rfl) (Nat.le_of_ble_eq_true rfl) (s_c20 h0 ?_)
  obtain ⟨h0, h⟩ := h
  refine mr_call (t := [(8, 0)]) (pc' := 26) rfl [.inr (.inl 8), .inl (z_cd (σ1 11) x1)] rfl rfl rfl (mj_recvV rfl) (Nat.le_of_ble_eq_true rfl) (s_c116 h0 (fun σ2 e9 => ?_))
  replace h := h σ2 e9
  exact mr_ret rfl rfl h
def qh_c120_24 (d : Nat) (Q : mj_Q) (y1 y2 y3 : Int) (σ : mj_S) : Prop := mj_P mjc_L mjc_Ms d mjco120 ((Option.none : Option Jvm.ClassFile.FieldType)) Q 24 [some (.inr (.inl 8)), some (.inl y1), some (.inl y2), some (.inl y3)] [] σ
set_option maxRecDepth 20000 in
theorem qw_c120_24 {d : Nat} {Q : mj_Q} {y1 y2 y3 : Int} {σ : mj_S} (h : (y2 ≤ y3 → Q none σ) ∧ (y3 < y2 → mj_B mjc_L mjc_Ms (d + 1) 12 [.inr (.inl 1), .inl y1, .inl y3] σ (fun r σ1 => ∃ v2, r = some (.inl v2) ∧ 0 ≤ σ1 8 4 ∧ mj_fit .char v2 ∧ ∀ σ3, σ3 = z_pp σ1 v2 → mj_r (y3 + 1) ∧ qh_c120_24 (d + 1) Q y1 y2 (y3 + 1) σ3))) : qh_c120_24 (d + 1) Q y1 y2 y3 σ := by
  show mj_P mjc_L mjc_Ms (d + 1) mjco120 ((Option.none : Option Jvm.ClassFile.FieldType)) Q 24 [some (.inr (.inl 8)), some (.inl y1), some (.inl y2), some (.inl y3)] [] σ
  refine mr_iload (pc' := 25) rfl rfl rfl ?_
  refine mr_iload (pc' := 26) rfl rfl rfl ?_
  refine mr_ic_ge (pc' := 29) rfl rfl (fun c => ?_) (fun c => ?_)
  · replace h := h.1 c
    exact mr_ret rfl rfl h
  · replace h := h.2 c
    refine mr_aload (pc' := 30) rfl rfl rfl ?_
    refine mr_aload (pc' := 31) rfl rfl rfl ?_
    refine mr_getr (ci := 0) (pc' := 34) rfl rfl rfl rfl ?_
    refine mr_iload (pc' := 35) rfl rfl rfl ?_
    refine mr_iload (pc' := 36) rfl rfl rfl ?_
    refine mr_call (t := [(1, 0)]) (pc' := 39) rfl [.inr (.inl 1), .inl y1, .inl y3] rfl rfl rfl (mj_recvV rfl) (Nat.le_of_ble_eq_true rfl) (mj_B_mono _ _ _ _ _ _ (fun r σ1 h => ?_) h)
    obtain ⟨v2, rfl, h⟩ := h
    obtain ⟨h0, h1, h⟩ := h
    refine mr_call (t := [(8, 0)]) (pc' := 42) rfl [.inr (.inl 8), .inl v2] rfl rfl rfl (mj_recvV rfl) (Nat.le_of_ble_eq_true rfl) (s_c122 h0 h1 (fun σ3 e9 => ?_))
    replace h := h σ3 e9
    obtain ⟨h0, h⟩ := h
    refine mr_iinc (pc' := 45) rfl rfl rfl trivial h0 rfl ?_
    refine mr_goto rfl ?_
    exact mj_W_ls (mj_B_mono _) (mj_lev_of _ _ (by simp [mj_levb])) h
set_option maxRecDepth 20000 in
/-- ListSpeaker$Paper.printAtom_ -/
theorem wq_c120 {d : Nat} {σ : mj_S} {Q : mj_Q} {x1 : Int} (h : (¬ (0 ≤ x1 ∧ x1 ≤ 268435455) → z_dr x1 ∧ σ 1 2 ≤ 60 ∧ qh_c120_24 (d + 1) Q x1 (z_sl σ x1) 0 σ) ∧ (0 ≤ x1 ∧ x1 ≤ 268435455 → mj_B mjc_L mjc_Ms (d + 1) 121 [.inr (.inl 8), .inl x1] σ (fun r σ1 => r = none ∧ Q none σ1))) : mj_B mjc_L mjc_Ms (d + 2) 120 [.inr (.inl 8), .inl x1] σ Q := by
  refine mj_B_of (M := mjcM120) (ls := [some (.inr (.inl 8)), some (.inl x1), none, none]) rfl (mj_c1_all rfl) (Nat.le_of_ble_eq_true rfl) rfl ?_
  refine mr_iload (pc' := 1) rfl rfl rfl ?_
  refine mr_call (t := []) (pc' := 4) rfl [.inl x1] rfl rfl rfl trivial (Nat.le_of_ble_eq_true rfl) (s_c7  ?_)
  refine mr_if_eq (pc' := 7) rfl rfl (fun c => ?_) (fun c => ?_)
  · replace h := h.1 (bo_0 c)
    refine mr_aload (pc' := 14) rfl rfl rfl ?_
    refine mr_getr (ci := 0) (pc' := 17) rfl rfl rfl rfl ?_
    refine mr_iload (pc' := 18) rfl rfl rfl ?_
    obtain ⟨h0, h1, h⟩ := h
    refine mr_call (t := [(1, 0)]) (pc' := 21) rfl [.inr (.inl 1), .inl x1] rfl rfl rfl (mj_recvV rfl) (Nat.le_of_ble_eq_true rfl) (s_c11 h0 h1 ?_)
    refine mr_istore (pc' := 22) rfl rfl trivial (Nat.le_of_ble_eq_true rfl) rfl ?_
    refine mr_const (pc' := 23) rfl rfl (by unfold mj_r; decide) ?_
    refine mr_istore (pc' := 24) rfl rfl trivial (Nat.le_of_ble_eq_true rfl) rfl ?_
    exact mj_W_ls (mj_B_mono _) (mj_lev_of _ _ (by simp [mj_levb])) h
  · replace h := h.2 (bo_1 c)
    refine mr_aload (pc' := 8) rfl rfl rfl ?_
    refine mr_iload (pc' := 9) rfl rfl rfl ?_
    refine mr_call (t := [(8, 0)]) (pc' := 12) rfl [.inr (.inl 8), .inl x1] rfl rfl rfl (mj_recvV rfl) (Nat.le_of_ble_eq_true rfl) (mj_B_mono _ _ _ _ _ _ (fun r σ1 h => ?_) h)
    obtain ⟨rfl, h⟩ := h
    exact mr_ret rfl rfl h
def qh_c121_8 (d : Nat) (Q : mj_Q) (y1 y2 y3 y4 : Int) (σ : mj_S) : Prop := mj_P mjc_L mjc_Ms d mjco121 ((Option.none : Option Jvm.ClassFile.FieldType)) Q 8 [some (.inr (.inl 8)), some (.inl y1), some (.inl y2), some (.inl y3), some (.inl y4), none] [] σ
set_option maxRecDepth 20000 in
theorem qw_c121_8 {d : Nat} {Q : mj_Q} {y1 y2 y3 y4 : Int} {σ : mj_S} (h : (y4 ≤ 0 → Q none σ) ∧ (0 < y4 → 0 ≤ y2 ∧ 0 < y4 ∧ mj_r ((y2 / y4) * y4) ∧ mj_r (y2 - ((y2 / y4) * y4)) ∧ (¬ y3 = 0 → mj_r (48 + (y2 / y4)) ∧ 0 ≤ σ 8 4 ∧ mj_fit .char ((48 + (y2 / y4)) % 65536) ∧ ∀ σ1, σ1 = z_pp σ ((48 + (y2 / y4)) % 65536) → 0 ≤ y4 ∧ 0 < (10 : Int) ∧ qh_c121_8 (d + 1) Q y1 (y2 - ((y2 / y4) * y4)) 1 (y4 / 10) σ1) ∧ (y3 = 0 → (0 < (y2 / y4) → mj_r (48 + (y2 / y4)) ∧ 0 ≤ σ 8 4 ∧ mj_fit .char ((48 + (y2 / y4)) % 65536) ∧ ∀ σ2, σ2 = z_pp σ ((48 + (y2 / y4)) % 65536) → 0 ≤ y4 ∧ 0 < (10 : Int) ∧ qh_c121_8 (d + 1) Q y1 (y2 - ((y2 / y4) * y4)) 1 (y4 / 10) σ2) ∧ ((y2 / y4) ≤ 0 → (¬ y4 = 1 → 0 ≤ y4 ∧ 0 < (10 : Int) ∧ qh_c121_8 (d + 1) Q y1 (y2 - ((y2 / y4) * y4)) 0 (y4 / 10) σ) ∧ (y4 = 1 → mj_r (48 + (y2 / y4)) ∧ 0 ≤ σ 8 4 ∧ mj_fit .char ((48 + (y2 / y4)) % 65536) ∧ ∀ σ3, σ3 = z_pp σ ((48 + (y2 / y4)) % 65536) → 0 ≤ y4 ∧ 0 < (10 : Int) ∧ qh_c121_8 (d + 1) Q y1 (y2 - ((y2 / y4) * y4)) 1 (y4 / 10) σ3))))) : qh_c121_8 (d + 1) Q y1 y2 y3 y4 σ := by
  show mj_P mjc_L mjc_Ms (d + 1) mjco121 ((Option.none : Option Jvm.ClassFile.FieldType)) Q 8 [some (.inr (.inl 8)), some (.inl y1), some (.inl y2), some (.inl y3), some (.inl y4), none] [] σ
  refine mr_iload (pc' := 10) rfl rfl rfl ?_
  refine mr_if_le (pc' := 13) rfl rfl (fun c => ?_) (fun c => ?_)
  · replace h := h.1 c
    exact mr_ret rfl rfl h
  · replace h := h.2 c
    refine mr_iload (pc' := 14) rfl rfl rfl ?_
    refine mr_iload (pc' := 16) rfl rfl rfl ?_
    obtain ⟨h0, h1, h⟩ := h
    refine mr_idiv (pc' := 17) rfl rfl h0 h1 ?_
    refine mr_istore (pc' := 19) rfl rfl trivial (Nat.le_of_ble_eq_true rfl) rfl ?_
    refine mr_iload (pc' := 20) rfl rfl rfl ?_
    refine mr_iload (pc' := 22) rfl rfl rfl ?_
    refine mr_iload (pc' := 24) rfl rfl rfl ?_
    obtain ⟨h0, h⟩ := h
    refine mr_imul (pc' := 25) rfl rfl h0 ?_
    obtain ⟨h0, h⟩ := h
    refine mr_isub (pc' := 26) rfl rfl h0 ?_
    refine mr_istore (pc' := 27) rfl rfl trivial (Nat.le_of_ble_eq_true rfl) rfl ?_
    refine mr_iload (pc' := 28) rfl rfl rfl ?_
    refine mr_if_ne (pc' := 31) rfl rfl (fun c => ?_) (fun c => ?_)
    · replace h := h.1 c
      refine mr_const (pc' := 43) rfl rfl (by unfold mj_r; decide) ?_
      refine mr_goto rfl ?_
      refine mr_istore (pc' := 48) rfl rfl trivial (Nat.le_of_ble_eq_true rfl) rfl ?_
      refine mr_iload (pc' := 49) rfl rfl rfl ?_
      refine mr_if_eq (pc' := 52) rfl rfl (fun c => absurd c (by decide)) (fun _ => ?_)
      refine mr_aload (pc' := 53) rfl rfl rfl ?_
      refine mr_const (pc' := 55) rfl rfl (by unfold mj_r; decide) ?_
      refine mr_iload (pc' := 57) rfl rfl rfl ?_
      obtain ⟨h0, h⟩ := h
      refine mr_iadd (pc' := 58) rfl rfl h0 ?_
      refine mr_i2c (pc' := 59) rfl rfl ?_
      obtain ⟨h0, h1, h⟩ := h
      refine mr_call (t := [(8, 0)]) (pc' := 62) rfl [.inr (.inl 8), .inl ((48 + (y2 / y4)) % 65536)] rfl rfl rfl (mj_recvV rfl) (Nat.le_of_ble_eq_true rfl) (s_c122 h0 h1 (fun σ1 e9 => ?_))
      replace h := h σ1 e9
      refine mr_iload (pc' := 64) rfl rfl rfl ?_
      refine mr_const (pc' := 66) rfl rfl (by unfold mj_r; decide) ?_
      obtain ⟨h0, h1, h⟩ := h
      refine mr_idiv (pc' := 67) rfl rfl h0 h1 ?_
      refine mr_istore (pc' := 69) rfl rfl trivial (Nat.le_of_ble_eq_true rfl) rfl ?_
      refine mr_goto rfl ?_
      exact mj_W_ls (mj_B_mono _) (mj_lev_of _ _ (by simp [mj_levb])) h
    · replace h := h.2 c
      refine mr_iload (pc' := 33) rfl rfl rfl ?_
      refine mr_if_gt (pc' := 36) rfl rfl (fun c => ?_) (fun c => ?_)
      · replace h := h.1 c
        refine mr_const (pc' := 43) rfl rfl (by unfold mj_r; decide) ?_
        refine mr_goto rfl ?_
        refine mr_istore (pc' := 48) rfl rfl trivial (Nat.le_of_ble_eq_true rfl) rfl ?_
        refine mr_iload (pc' := 49) rfl rfl rfl ?_
        refine mr_if_eq (pc' := 52) rfl rfl (fun c => absurd c (by decide)) (fun _ => ?_)
        refine mr_aload (pc' := 53) rfl rfl rfl ?_
        refine mr_const (pc' := 55) rfl rfl (by unfold mj_r; decide) ?_
        refine mr_iload (pc' := 57) rfl rfl rfl ?_
        obtain ⟨h0, h⟩ := h
        refine mr_iadd (pc' := 58) rfl rfl h0 ?_
        refine mr_i2c (pc' := 59) rfl rfl ?_
        obtain ⟨h0, h1, h⟩ := h
        refine mr_call (t := [(8, 0)]) (pc' := 62) rfl [.inr (.inl 8), .inl ((48 + (y2 / y4)) % 65536)] rfl rfl rfl (mj_recvV rfl) (Nat.le_of_ble_eq_true rfl) (s_c122 h0 h1 (fun σ2 e9 => ?_))
        replace h := h σ2 e9
        refine mr_iload (pc' := 64) rfl rfl rfl ?_
        refine mr_const (pc' := 66) rfl rfl (by unfold mj_r; decide) ?_
        obtain ⟨h0, h1, h⟩ := h
        refine mr_idiv (pc' := 67) rfl rfl h0 h1 ?_
        refine mr_istore (pc' := 69) rfl rfl trivial (Nat.le_of_ble_eq_true rfl) rfl ?_
        refine mr_goto rfl ?_
        exact mj_W_ls (mj_B_mono _) (mj_lev_of _ _ (by simp [mj_levb])) h
      · replace h := h.2 c
        refine mr_iload (pc' := 38) rfl rfl rfl ?_
        refine mr_const (pc' := 39) rfl rfl (by unfold mj_r; decide) ?_
        refine mr_ic_ne (pc' := 42) rfl rfl (fun c => ?_) (fun c => ?_)
        · replace h := h.1 c
          refine mr_const (pc' := 47) rfl rfl (by unfold mj_r; decide) ?_
          refine mr_istore (pc' := 48) rfl rfl trivial (Nat.le_of_ble_eq_true rfl) rfl ?_
          refine mr_iload (pc' := 49) rfl rfl rfl ?_
          refine mr_if_eq (pc' := 52) rfl rfl (fun _ => ?_) (fun c => absurd c (by decide))
          refine mr_iload (pc' := 64) rfl rfl rfl ?_
          refine mr_const (pc' := 66) rfl rfl (by unfold mj_r; decide) ?_
          obtain ⟨h0, h1, h⟩ := h
          refine mr_idiv (pc' := 67) rfl rfl h0 h1 ?_
          refine mr_istore (pc' := 69) rfl rfl trivial (Nat.le_of_ble_eq_true rfl) rfl ?_
          refine mr_goto rfl ?_
          exact mj_W_ls (mj_B_mono _) (mj_lev_of _ _ (by simp [mj_levb])) h
        · replace h := h.2 c
          refine mr_const (pc' := 43) rfl rfl (by unfold mj_r; decide) ?_
          refine mr_goto rfl ?_
          refine mr_istore (pc' := 48) rfl rfl trivial (Nat.le_of_ble_eq_true rfl) rfl ?_
          refine mr_iload (pc' := 49) rfl rfl rfl ?_
          refine mr_if_eq (pc' := 52) rfl rfl (fun c => absurd c (by decide)) (fun _ => ?_)
          refine mr_aload (pc' := 53) rfl rfl rfl ?_
          refine mr_const (pc' := 55) rfl rfl (by unfold mj_r; decide) ?_
          refine mr_iload (pc' := 57) rfl rfl rfl ?_
          obtain ⟨h0, h⟩ := h
          refine mr_iadd (pc' := 58) rfl rfl h0 ?_
          refine mr_i2c (pc' := 59) rfl rfl ?_
          obtain ⟨h0, h1, h⟩ := h
          refine mr_call (t := [(8, 0)]) (pc' := 62) rfl [.inr (.inl 8), .inl ((48 + (y2 / y4)) % 65536)] rfl rfl rfl (mj_recvV rfl) (Nat.le_of_ble_eq_true rfl) (s_c122 h0 h1 (fun σ3 e9 => ?_))
          replace h := h σ3 e9
          refine mr_iload (pc' := 64) rfl rfl rfl ?_
          refine mr_const (pc' := 66) rfl rfl (by unfold mj_r; decide) ?_
          obtain ⟨h0, h1, h⟩ := h
          refine mr_idiv (pc' := 67) rfl rfl h0 h1 ?_
          refine mr_istore (pc' := 69) rfl rfl trivial (Nat.le_of_ble_eq_true rfl) rfl ?_
          refine mr_goto rfl ?_
          exact mj_W_ls (mj_B_mono _) (mj_lev_of _ _ (by simp [mj_levb])) h
set_option maxRecDepth 20000 in
/-- ListSpeaker$Paper.printNumber_ -/
theorem wq_c121 {d : Nat} {σ : mj_S} {Q : mj_Q} {x1 : Int} (h : qh_c121_8 (d + 1) Q x1 x1 0 100000000 σ) : mj_B mjc_L mjc_Ms (d + 2) 121 [.inr (.inl 8), .inl x1] σ Q := by
  refine mj_B_of (M := mjcM121) (ls := [some (.inr (.inl 8)), some (.inl x1), none, none, none, none]) rfl (mj_c1_all rfl) (Nat.le_of_ble_eq_true rfl) rfl ?_
  refine mr_iload (pc' := 1) rfl rfl rfl ?_
  refine mr_istore (pc' := 2) rfl rfl trivial (Nat.le_of_ble_eq_true rfl) rfl ?_
  refine mr_const (pc' := 3) rfl rfl (by unfold mj_r; decide) ?_
  refine mr_istore (pc' := 4) rfl rfl trivial (Nat.le_of_ble_eq_true rfl) rfl ?_
  refine mr_const (pc' := 6) rfl rfl (by unfold mj_r; decide) ?_
  refine mr_istore (pc' := 8) rfl rfl trivial (Nat.le_of_ble_eq_true rfl) rfl ?_
  exact mj_W_ls (mj_B_mono _) (mj_lev_of _ _ (by simp [mj_levb])) h
