theorem mj_recvV {L : List mj_C} {ci : Int} {k q : Nat} {sl : List (Option Nat)} {as : List mj_V} (h : L[q]? = some (.inr (ci.toNat, sl))) : mj_recv L [(ci, k)] (.inr (.inl q) :: as) := ⟨q, sl, as, rfl, h⟩
set_option maxRecDepth 20000 in
/-- ListSpeaker.type -/
theorem wp_c0 {d : Nat} {σ : mj_S} {Q : mj_Q} {x1 : Int} (h : mj_B mjc_L mjc_Ms d 34 [.inr (.inl 3), .inl x1] σ (fun r σ1 => ∃ v2, r = some (.inl v2) ∧ mj_fit .boolean v2 ∧ Q (some (.inl v2)) σ1)) : mj_B mjc_L mjc_Ms (d + 1) 0 [.inr (.inl 0), .inl x1] σ Q := by
  refine mj_B_of (M := mjcM0) (ls := [some (.inr (.inl 0)), some (.inl x1)]) rfl (mj_c1_all rfl) (Nat.le_of_ble_eq_true rfl) rfl ?_
  refine mr_aload (pc' := 1) rfl rfl rfl ?_
  refine mr_getr (ci := 0) (pc' := 4) rfl rfl rfl rfl ?_
  refine mr_iload (pc' := 5) rfl rfl rfl ?_
  refine mr_call (t := [(3, 0)]) (pc' := 8) rfl [.inr (.inl 3), .inl x1] rfl rfl rfl (mj_recvV rfl) (Nat.le_of_ble_eq_true rfl) (mj_B_mono d _ _ _ _ _ (fun r σ1 h => ?_) h)
  obtain ⟨v2, rfl, h⟩ := h
  exact mr_iret rfl rfl h.1 h.2
set_option maxRecDepth 20000 in
/-- ListSpeaker.clear -/
theorem wp_c1 {d : Nat} {σ : mj_S} {Q : mj_Q} (h : mj_B mjc_L mjc_Ms d 35 [.inr (.inl 3)] σ (fun r σ1 => ∃ v2, r = some (.inl v2) ∧ Q (some (.inl v2)) σ1)) : mj_B mjc_L mjc_Ms (d + 1) 1 [.inr (.inl 0)] σ Q := by
  refine mj_B_of (M := mjcM1) (ls := [some (.inr (.inl 0))]) rfl (mj_c1_all rfl) (Nat.le_of_ble_eq_true rfl) rfl ?_
  refine mr_aload (pc' := 1) rfl rfl rfl ?_
  refine mr_getr (ci := 0) (pc' := 4) rfl rfl rfl rfl ?_
  refine mr_call (t := [(3, 0)]) (pc' := 7) rfl [.inr (.inl 3)] rfl rfl rfl (mj_recvV rfl) (Nat.le_of_ble_eq_true rfl) (mj_B_mono d _ _ _ _ _ (fun r σ1 h => ?_) h)
  obtain ⟨v2, rfl, h⟩ := h
  exact mr_iret rfl rfl trivial h
set_option maxRecDepth 20000 in
/-- ListSpeaker.run -/
theorem wp_c2 {d : Nat} {σ : mj_S} {Q : mj_Q} {x1 : Int} (h : (x1 < 0 → False) ∧ (0 ≤ x1 → (x1 ≤ 20000 → mj_B mjc_L mjc_Ms d 113 [.inr (.inl 8)] σ (fun r σ1 => r = none ∧ mj_B mjc_L mjc_Ms d 89 [.inr (.inl 7), .inl x1] σ1 (fun r σ2 => r = none ∧ mj_B mjc_L mjc_Ms d 36 [.inr (.inl 3)] σ2 (fun r σ3 => r = none ∧ ∀ σ4, σ4 = mj_up σ3 0 8 0 → mj_B mjc_L mjc_Ms d 5 [.inr (.inl 0)] σ4 (fun r σ5 => ∃ v6, r = some (.inl v6) ∧ mj_B mjc_L mjc_Ms d 35 [.inr (.inl 3)] σ5 (fun r σ7 => ∃ v8, r = some (.inl v8) ∧ (v6 = 0 → Q (some (.inl v6)) σ7) ∧ (¬ v6 = 0 → mj_B mjc_L mjc_Ms d 114 [.inr (.inl 8), .inl v6] σ7 (fun r σ9 => r = none ∧ Q (some (.inl v6)) σ9)))))))) ∧ (20000 < x1 → False))) : mj_B mjc_L mjc_Ms (d + 1) 2 [.inr (.inl 0), .inl x1] σ Q := by
  refine mj_B_of (M := mjcM2) (ls := [some (.inr (.inl 0)), some (.inl x1), none]) rfl (mj_c1_all rfl) (Nat.le_of_ble_eq_true rfl) rfl ?_
  refine mr_iload (pc' := 1) rfl rfl rfl ?_
  refine mr_if_lt (pc' := 4) rfl rfl (fun c => ?_) (fun c => ?_)
  · replace h := h.1 c
    exact h.elim
  · replace h := h.2 c
    refine mr_iload (pc' := 5) rfl rfl rfl ?_
    refine mr_const (pc' := 8) rfl rfl (by unfold mj_r; decide) ?_
    refine mr_ic_le (pc' := 11) rfl rfl (fun c => ?_) (fun c => ?_)
    · replace h := h.1 c
      refine mr_aload (pc' := 22) rfl rfl rfl ?_
      refine mr_getr (ci := 0) (pc' := 25) rfl rfl rfl rfl ?_
      refine mr_call (t := [(8, 0)]) (pc' := 28) rfl [.inr (.inl 8)] rfl rfl rfl (mj_recvV rfl) (Nat.le_of_ble_eq_true rfl) (mj_B_mono d _ _ _ _ _ (fun r σ1 h => ?_) h)
      obtain ⟨rfl, h⟩ := h
      refine mr_aload (pc' := 29) rfl rfl rfl ?_
      refine mr_getr (ci := 0) (pc' := 32) rfl rfl rfl rfl ?_
      refine mr_iload (pc' := 33) rfl rfl rfl ?_
      refine mr_call (t := [(7, 0)]) (pc' := 36) rfl [.inr (.inl 7), .inl x1] rfl rfl rfl (mj_recvV rfl) (Nat.le_of_ble_eq_true rfl) (mj_B_mono d _ _ _ _ _ (fun r σ2 h => ?_) h)
      obtain ⟨rfl, h⟩ := h
      refine mr_aload (pc' := 37) rfl rfl rfl ?_
      refine mr_getr (ci := 0) (pc' := 40) rfl rfl rfl rfl ?_
      refine mr_call (t := [(3, 0)]) (pc' := 43) rfl [.inr (.inl 3)] rfl rfl rfl (mj_recvV rfl) (Nat.le_of_ble_eq_true rfl) (mj_B_mono d _ _ _ _ _ (fun r σ3 h => ?_) h)
      obtain ⟨rfl, h⟩ := h
      refine mr_aload (pc' := 44) rfl rfl rfl ?_
      refine mr_const (pc' := 45) rfl rfl (by unfold mj_r; decide) ?_
      refine mr_put (pc' := 48) rfl rfl rfl rfl (fun σ4 e9 => ?_)
      replace h := h σ4 e9
      refine mr_aload (pc' := 49) rfl rfl rfl ?_
      refine mr_call (t := [(0, 0)]) (pc' := 52) rfl [.inr (.inl 0)] rfl rfl rfl (mj_recvV rfl) (Nat.le_of_ble_eq_true rfl) (mj_B_mono d _ _ _ _ _ (fun r σ5 h => ?_) h)
      obtain ⟨v6, rfl, h⟩ := h
      refine mr_istore (pc' := 53) rfl rfl trivial (Nat.le_of_ble_eq_true rfl) rfl ?_
      refine mr_aload (pc' := 54) rfl rfl rfl ?_
      refine mr_getr (ci := 0) (pc' := 57) rfl rfl rfl rfl ?_
      refine mr_call (t := [(3, 0)]) (pc' := 60) rfl [.inr (.inl 3)] rfl rfl rfl (mj_recvV rfl) (Nat.le_of_ble_eq_true rfl) (mj_B_mono d _ _ _ _ _ (fun r σ7 h => ?_) h)
      obtain ⟨v8, rfl, h⟩ := h
      refine mr_pop (pc' := 61) rfl rfl trivial ?_
      refine mr_iload (pc' := 62) rfl rfl rfl ?_
      refine mr_if_eq (pc' := 65) rfl rfl (fun c => ?_) (fun c => ?_)
      · replace h := h.1 c
        refine mr_iload (pc' := 74) rfl rfl rfl ?_
        exact mr_iret rfl rfl trivial h
      · replace h := h.2 c
        refine mr_aload (pc' := 66) rfl rfl rfl ?_
        refine mr_getr (ci := 0) (pc' := 69) rfl rfl rfl rfl ?_
        refine mr_iload (pc' := 70) rfl rfl rfl ?_
        refine mr_call (t := [(8, 0)]) (pc' := 73) rfl [.inr (.inl 8), .inl v6] rfl rfl rfl (mj_recvV rfl) (Nat.le_of_ble_eq_true rfl) (mj_B_mono d _ _ _ _ _ (fun r σ9 h => ?_) h)
        obtain ⟨rfl, h⟩ := h
        refine mr_iload (pc' := 74) rfl rfl rfl ?_
        exact mr_iret rfl rfl trivial h
    · replace h := h.2 c
      exact h.elim
set_option maxRecDepth 20000 in
/-- ListSpeaker.output -/
theorem wp_c3 {d : Nat} {σ : mj_S} {Q : mj_Q} {x1 : Int} (h : (x1 < 0 → False) ∧ (0 ≤ x1 → mj_B mjc_L mjc_Ms d 111 [.inr (.inl 8)] σ (fun r σ1 => ∃ v2, r = some (.inl v2) ∧ (x1 < v2 → mj_B mjc_L mjc_Ms d 112 [.inr (.inl 8), .inl x1] σ1 (fun r σ3 => ∃ v4, r = some (.inl v4) ∧ mj_fit .char v4 ∧ Q (some (.inl v4)) σ3)) ∧ (v2 ≤ x1 → False)))) : mj_B mjc_L mjc_Ms (d + 1) 3 [.inr (.inl 0), .inl x1] σ Q := by
  refine mj_B_of (M := mjcM3) (ls := [some (.inr (.inl 0)), some (.inl x1)]) rfl (mj_c1_all rfl) (Nat.le_of_ble_eq_true rfl) rfl ?_
  refine mr_iload (pc' := 1) rfl rfl rfl ?_
  refine mr_if_lt (pc' := 4) rfl rfl (fun c => ?_) (fun c => ?_)
  · replace h := h.1 c
    exact h.elim
  · replace h := h.2 c
    refine mr_iload (pc' := 5) rfl rfl rfl ?_
    refine mr_aload (pc' := 6) rfl rfl rfl ?_
    refine mr_getr (ci := 0) (pc' := 9) rfl rfl rfl rfl ?_
    refine mr_call (t := [(8, 0)]) (pc' := 12) rfl [.inr (.inl 8)] rfl rfl rfl (mj_recvV rfl) (Nat.le_of_ble_eq_true rfl) (mj_B_mono d _ _ _ _ _ (fun r σ1 h => ?_) h)
    obtain ⟨v2, rfl, h⟩ := h
    refine mr_ic_lt (pc' := 15) rfl rfl (fun c => ?_) (fun c => ?_)
    · replace h := h.1 c
      refine mr_aload (pc' := 26) rfl rfl rfl ?_
      refine mr_getr (ci := 0) (pc' := 29) rfl rfl rfl rfl ?_
      refine mr_iload (pc' := 30) rfl rfl rfl ?_
      refine mr_call (t := [(8, 0)]) (pc' := 33) rfl [.inr (.inl 8), .inl x1] rfl rfl rfl (mj_recvV rfl) (Nat.le_of_ble_eq_true rfl) (mj_B_mono d _ _ _ _ _ (fun r σ3 h => ?_) h)
      obtain ⟨v4, rfl, h⟩ := h
      exact mr_iret rfl rfl h.1 h.2
    · replace h := h.2 c
      exact h.elim
set_option maxRecDepth 20000 in
/-- ListSpeaker.count -/
theorem wp_c4 {d : Nat} {σ : mj_S} {Q : mj_Q} {x1 : Int} (h : (x1 = 0 → mj_B mjc_L mjc_Ms d 111 [.inr (.inl 8)] σ (fun r σ1 => ∃ v2, r = some (.inl v2) ∧ Q (some (.inl v2)) σ1)) ∧ (x1 = 1 → mj_B mjc_L mjc_Ms d 81 [.inr (.inl 6)] σ (fun r σ3 => ∃ v4, r = some (.inl v4) ∧ Q (some (.inl v4)) σ3)) ∧ (x1 = 2 → mj_B mjc_L mjc_Ms d 10 [.inr (.inl 1)] σ (fun r σ5 => ∃ v6, r = some (.inl v6) ∧ Q (some (.inl v6)) σ5)) ∧ (x1 = 3 → mj_B mjc_L mjc_Ms d 16 [.inr (.inl 2)] σ (fun r σ7 => ∃ v8, r = some (.inl v8) ∧ Q (some (.inl v8)) σ7)) ∧ (x1 = 4 → mj_B mjc_L mjc_Ms d 17 [.inr (.inl 2)] σ (fun r σ9 => ∃ v10, r = some (.inl v10) ∧ Q (some (.inl v10)) σ9)) ∧ (x1 = 5 → mj_B mjc_L mjc_Ms d 18 [.inr (.inl 2)] σ (fun r σ11 => ∃ v12, r = some (.inl v12) ∧ Q (some (.inl v12)) σ11)) ∧ (x1 = 6 → mj_B mjc_L mjc_Ms d 86 [.inr (.inl 7)] σ (fun r σ13 => ∃ v14, r = some (.inl v14) ∧ Q (some (.inl v14)) σ13)) ∧ (x1 = 7 → Q (some (.inl (σ 0 8))) σ) ∧ (x1 = 8 → mj_B mjc_L mjc_Ms d 87 [.inr (.inl 7)] σ (fun r σ15 => ∃ v16, r = some (.inl v16) ∧ Q (some (.inl v16)) σ15)) ∧ (¬ (0 ≤ x1 ∧ x1 ≤ 8) → Q (some (.inl (-1))) σ)) : mj_B mjc_L mjc_Ms (d + 1) 4 [.inr (.inl 0), .inl x1] σ Q := by
  refine mj_B_of (M := mjcM4) (ls := [some (.inr (.inl 0)), some (.inl x1)]) rfl (mj_c1_all rfl) (Nat.le_of_ble_eq_true rfl) rfl ?_
  refine mr_iload (pc' := 1) rfl rfl rfl ?_
  refine mr_tsw rfl ?_
  obtain ⟨g0, g1, g2, g3, g4, g5, g6, g7, g8, g9⟩ := h
  by_cases c0 : x1 = 0
  · have h := g0 c0
    rw [c0]
    show mj_P mjc_L mjc_Ms d mjco4 ((Option.some Jvm.ClassFile.FieldType.int)) Q 52 _ _ _
    refine mr_aload (pc' := 53) rfl rfl rfl ?_
    refine mr_getr (ci := 0) (pc' := 56) rfl rfl rfl rfl ?_
    refine mr_call (t := [(8, 0)]) (pc' := 59) rfl [.inr (.inl 8)] rfl rfl rfl (mj_recvV rfl) (Nat.le_of_ble_eq_true rfl) (mj_B_mono d _ _ _ _ _ (fun r σ1 h => ?_) h)
    obtain ⟨v2, rfl, h⟩ := h
    exact mr_iret rfl rfl trivial h
  by_cases c1 : x1 = 1
  · have h := g1 c1
    rw [c1]
    show mj_P mjc_L mjc_Ms d mjco4 ((Option.some Jvm.ClassFile.FieldType.int)) Q 60 _ _ _
    refine mr_aload (pc' := 61) rfl rfl rfl ?_
    refine mr_getr (ci := 0) (pc' := 64) rfl rfl rfl rfl ?_
    refine mr_call (t := [(6, 0)]) (pc' := 67) rfl [.inr (.inl 6)] rfl rfl rfl (mj_recvV rfl) (Nat.le_of_ble_eq_true rfl) (mj_B_mono d _ _ _ _ _ (fun r σ3 h => ?_) h)
    obtain ⟨v4, rfl, h⟩ := h
    exact mr_iret rfl rfl trivial h
  by_cases c2 : x1 = 2
  · have h := g2 c2
    rw [c2]
    show mj_P mjc_L mjc_Ms d mjco4 ((Option.some Jvm.ClassFile.FieldType.int)) Q 68 _ _ _
    refine mr_aload (pc' := 69) rfl rfl rfl ?_
    refine mr_getr (ci := 0) (pc' := 72) rfl rfl rfl rfl ?_
    refine mr_call (t := [(1, 0)]) (pc' := 75) rfl [.inr (.inl 1)] rfl rfl rfl (mj_recvV rfl) (Nat.le_of_ble_eq_true rfl) (mj_B_mono d _ _ _ _ _ (fun r σ5 h => ?_) h)
    obtain ⟨v6, rfl, h⟩ := h
    exact mr_iret rfl rfl trivial h
  by_cases c3 : x1 = 3
  · have h := g3 c3
    rw [c3]
    show mj_P mjc_L mjc_Ms d mjco4 ((Option.some Jvm.ClassFile.FieldType.int)) Q 76 _ _ _
    refine mr_aload (pc' := 77) rfl rfl rfl ?_
    refine mr_getr (ci := 0) (pc' := 80) rfl rfl rfl rfl ?_
    refine mr_call (t := [(2, 0)]) (pc' := 83) rfl [.inr (.inl 2)] rfl rfl rfl (mj_recvV rfl) (Nat.le_of_ble_eq_true rfl) (mj_B_mono d _ _ _ _ _ (fun r σ7 h => ?_) h)
    obtain ⟨v8, rfl, h⟩ := h
    exact mr_iret rfl rfl trivial h
  by_cases c4 : x1 = 4
  · have h := g4 c4
    rw [c4]
    show mj_P mjc_L mjc_Ms d mjco4 ((Option.some Jvm.ClassFile.FieldType.int)) Q 84 _ _ _
    refine mr_aload (pc' := 85) rfl rfl rfl ?_
    refine mr_getr (ci := 0) (pc' := 88) rfl rfl rfl rfl ?_
    refine mr_call (t := [(2, 0)]) (pc' := 91) rfl [.inr (.inl 2)] rfl rfl rfl (mj_recvV rfl) (Nat.le_of_ble_eq_true rfl) (mj_B_mono d _ _ _ _ _ (fun r σ9 h => ?_) h)
    obtain ⟨v10, rfl, h⟩ := h
    exact mr_iret rfl rfl trivial h
  by_cases c5 : x1 = 5
  · have h := g5 c5
    rw [c5]
    show mj_P mjc_L mjc_Ms d mjco4 ((Option.some Jvm.ClassFile.FieldType.int)) Q 92 _ _ _
    refine mr_aload (pc' := 93) rfl rfl rfl ?_
    refine mr_getr (ci := 0) (pc' := 96) rfl rfl rfl rfl ?_
    refine mr_call (t := [(2, 0)]) (pc' := 99) rfl [.inr (.inl 2)] rfl rfl rfl (mj_recvV rfl) (Nat.le_of_ble_eq_true rfl) (mj_B_mono d _ _ _ _ _ (fun r σ11 h => ?_) h)
    obtain ⟨v12, rfl, h⟩ := h
    exact mr_iret rfl rfl trivial h
  by_cases c6 : x1 = 6
  · have h := g6 c6
    rw [c6]
    show mj_P mjc_L mjc_Ms d mjco4 ((Option.some Jvm.ClassFile.FieldType.int)) Q 100 _ _ _
    refine mr_aload (pc' := 101) rfl rfl rfl ?_
    refine mr_getr (ci := 0) (pc' := 104) rfl rfl rfl rfl ?_
    refine mr_call (t := [(7, 0)]) (pc' := 107) rfl [.inr (.inl 7)] rfl rfl rfl (mj_recvV rfl) (Nat.le_of_ble_eq_true rfl) (mj_B_mono d _ _ _ _ _ (fun r σ13 h => ?_) h)
    obtain ⟨v14, rfl, h⟩ := h
    exact mr_iret rfl rfl trivial h
  by_cases c7 : x1 = 7
  · have h := g7 c7
    rw [c7]
    show mj_P mjc_L mjc_Ms d mjco4 ((Option.some Jvm.ClassFile.FieldType.int)) Q 108 _ _ _
    refine mr_aload (pc' := 109) rfl rfl rfl ?_
    refine mr_get (ci := 0) (pc' := 112) rfl rfl rfl rfl ?_
    exact mr_iret rfl rfl trivial h
  by_cases c8 : x1 = 8
  · have h := g8 c8
    rw [c8]
    show mj_P mjc_L mjc_Ms d mjco4 ((Option.some Jvm.ClassFile.FieldType.int)) Q 113 _ _ _
    refine mr_aload (pc' := 114) rfl rfl rfl ?_
    refine mr_getr (ci := 0) (pc' := 117) rfl rfl rfl rfl ?_
    refine mr_call (t := [(7, 0)]) (pc' := 120) rfl [.inr (.inl 7)] rfl rfl rfl (mj_recvV rfl) (Nat.le_of_ble_eq_true rfl) (mj_B_mono d _ _ _ _ _ (fun r σ15 h => ?_) h)
    obtain ⟨v16, rfl, h⟩ := h
    exact mr_iret rfl rfl trivial h
  have h := g9 (by omega)
  rw [show mj_sw 0 [(0, 52), (1, 60), (2, 68), (3, 76), (4, 84), (5, 92), (6, 100), (7, 108), (8, 113)] 121 x1 = 121 from if_neg (by simp; omega)]
  refine mr_const (pc' := 122) rfl rfl (by unfold mj_r; decide) ?_
  exact mr_iret rfl rfl trivial h
def lh_c5_2 (d : Nat) (Q : mj_Q) (y1 : Int) (σ : mj_S) : Prop := mj_P mjc_L mjc_Ms d mjco5 ((Option.some Jvm.ClassFile.FieldType.int)) Q 2 [some (.inr (.inl 0)), some (.inl y1), none, none, none, none, none] [] σ
set_option maxRecDepth 20000 in
theorem lw_c5_2 {d : Nat} {Q : mj_Q} {y1 : Int} {σ : mj_S} (h : (300 ≤ y1 → Q (some (.inl 0)) σ) ∧ (y1 < 300 → mj_B mjc_L mjc_Ms d 37 [.inr (.inl 3)] σ (fun r σ1 => ∃ v2, r = some (.inl v2) ∧ (v2 = 0 → Q (some (.inl 0)) σ1) ∧ (¬ v2 = 0 → mj_B mjc_L mjc_Ms d 16 [.inr (.inl 2)] σ1 (fun r σ3 => ∃ v4, r = some (.inl v4) ∧ mj_B mjc_L mjc_Ms d 54 [.inr (.inl 4)] σ3 (fun r σ5 => ∃ v6, r = some (.inl v6) ∧ mj_B mjc_L mjc_Ms d 81 [.inr (.inl 6)] σ5 (fun r σ7 => ∃ v8, r = some (.inl v8) ∧ mj_B mjc_L mjc_Ms d 38 [.inr (.inl 3)] σ7 (fun r σ9 => ∃ v10, r = some (.inl v10) ∧ (0 ≤ v10 → mj_B mjc_L mjc_Ms d 6 [.inr (.inl 0), .inl v10] σ9 (fun r σ11 => ∃ v12, r = some (.inl v12) ∧ mj_B mjc_L mjc_Ms d 81 [.inr (.inl 6)] σ11 (fun r σ13 => ∃ v14, r = some (.inl v14) ∧ (¬ v14 = v8 → (v12 = 0 → mj_r ((σ13 0 8) + 1) ∧ ∀ σ15, σ15 = mj_up σ13 0 8 ((σ13 0 8) + 1) → mj_r (y1 + 1) ∧ lh_c5_2 d Q (y1 + 1) σ15) ∧ (¬ v12 = 0 → Q (some (.inl v12)) σ13)) ∧ (v14 = v8 → mj_B mjc_L mjc_Ms d 26 [.inr (.inl 2), .inl v4] σ13 (fun r σ16 => r = none ∧ mj_B mjc_L mjc_Ms d 55 [.inr (.inl 4), .inl v6] σ16 (fun r σ17 => r = none ∧ (v12 = 0 → mj_r ((σ17 0 8) + 1) ∧ ∀ σ18, σ18 = mj_up σ17 0 8 ((σ17 0 8) + 1) → mj_r (y1 + 1) ∧ lh_c5_2 d Q (y1 + 1) σ18) ∧ (¬ v12 = 0 → Q (some (.inl v12)) σ17))))))) ∧ (v10 < 0 → mj_r (-v10) ∧ mj_B mjc_L mjc_Ms d 81 [.inr (.inl 6)] σ9 (fun r σ19 => ∃ v20, r = some (.inl v20) ∧ (¬ v20 = v8 → ((-v10) = 0 → mj_r ((σ19 0 8) + 1) ∧ ∀ σ21, σ21 = mj_up σ19 0 8 ((σ19 0 8) + 1) → mj_r (y1 + 1) ∧ lh_c5_2 d Q (y1 + 1) σ21) ∧ (¬ (-v10) = 0 → Q (some (.inl (-v10))) σ19)) ∧ (v20 = v8 → mj_B mjc_L mjc_Ms d 26 [.inr (.inl 2), .inl v4] σ19 (fun r σ22 => r = none ∧ mj_B mjc_L mjc_Ms d 55 [.inr (.inl 4), .inl v6] σ22 (fun r σ23 => r = none ∧ ((-v10) = 0 → mj_r ((σ23 0 8) + 1) ∧ ∀ σ24, σ24 = mj_up σ23 0 8 ((σ23 0 8) + 1) → mj_r (y1 + 1) ∧ lh_c5_2 d Q (y1 + 1) σ24) ∧ (¬ (-v10) = 0 → Q (some (.inl (-v10))) σ23)))))))))))))) : lh_c5_2 d Q y1 σ := by
  show mj_P mjc_L mjc_Ms d mjco5 ((Option.some Jvm.ClassFile.FieldType.int)) Q 2 [some (.inr (.inl 0)), some (.inl y1), none, none, none, none, none] [] σ
  refine mr_iload (pc' := 3) rfl rfl rfl ?_
  refine mr_const (pc' := 6) rfl rfl (by unfold mj_r; decide) ?_
  refine mr_ic_ge (pc' := 9) rfl rfl (fun c => ?_) (fun c => ?_)
  · replace h := h.1 c
    refine mr_const (pc' := 125) rfl rfl (by unfold mj_r; decide) ?_
    exact mr_iret rfl rfl trivial h
  · replace h := h.2 c
    refine mr_aload (pc' := 10) rfl rfl rfl ?_
    refine mr_getr (ci := 0) (pc' := 13) rfl rfl rfl rfl ?_
    refine mr_call (t := [(3, 0)]) (pc' := 16) rfl [.inr (.inl 3)] rfl rfl rfl (mj_recvV rfl) (Nat.le_of_ble_eq_true rfl) (mj_B_mono d _ _ _ _ _ (fun r σ1 h => ?_) h)
    obtain ⟨v2, rfl, h⟩ := h
    refine mr_if_eq (pc' := 19) rfl rfl (fun c => ?_) (fun c => ?_)
    · replace h := h.1 c
      refine mr_const (pc' := 125) rfl rfl (by unfold mj_r; decide) ?_
      exact mr_iret rfl rfl trivial h
    · replace h := h.2 c
      refine mr_aload (pc' := 20) rfl rfl rfl ?_
      refine mr_getr (ci := 0) (pc' := 23) rfl rfl rfl rfl ?_
      refine mr_call (t := [(2, 0)]) (pc' := 26) rfl [.inr (.inl 2)] rfl rfl rfl (mj_recvV rfl) (Nat.le_of_ble_eq_true rfl) (mj_B_mono d _ _ _ _ _ (fun r σ3 h => ?_) h)
      obtain ⟨v4, rfl, h⟩ := h
      refine mr_istore (pc' := 27) rfl rfl trivial (Nat.le_of_ble_eq_true rfl) rfl ?_
      refine mr_aload (pc' := 28) rfl rfl rfl ?_
      refine mr_getr (ci := 0) (pc' := 31) rfl rfl rfl rfl ?_
      refine mr_call (t := [(4, 0)]) (pc' := 34) rfl [.inr (.inl 4)] rfl rfl rfl (mj_recvV rfl) (Nat.le_of_ble_eq_true rfl) (mj_B_mono d _ _ _ _ _ (fun r σ5 h => ?_) h)
      obtain ⟨v6, rfl, h⟩ := h
      refine mr_istore (pc' := 35) rfl rfl trivial (Nat.le_of_ble_eq_true rfl) rfl ?_
      refine mr_aload (pc' := 36) rfl rfl rfl ?_
      refine mr_getr (ci := 0) (pc' := 39) rfl rfl rfl rfl ?_
      refine mr_call (t := [(6, 0)]) (pc' := 42) rfl [.inr (.inl 6)] rfl rfl rfl (mj_recvV rfl) (Nat.le_of_ble_eq_true rfl) (mj_B_mono d _ _ _ _ _ (fun r σ7 h => ?_) h)
      obtain ⟨v8, rfl, h⟩ := h
      refine mr_istore (pc' := 44) rfl rfl trivial (Nat.le_of_ble_eq_true rfl) rfl ?_
      refine mr_aload (pc' := 45) rfl rfl rfl ?_
      refine mr_getr (ci := 0) (pc' := 48) rfl rfl rfl rfl ?_
      refine mr_call (t := [(3, 0)]) (pc' := 51) rfl [.inr (.inl 3)] rfl rfl rfl (mj_recvV rfl) (Nat.le_of_ble_eq_true rfl) (mj_B_mono d _ _ _ _ _ (fun r σ9 h => ?_) h)
      obtain ⟨v10, rfl, h⟩ := h
      refine mr_istore (pc' := 53) rfl rfl trivial (Nat.le_of_ble_eq_true rfl) rfl ?_
      refine mr_iload (pc' := 55) rfl rfl rfl ?_
      refine mr_if_ge (pc' := 58) rfl rfl (fun c => ?_) (fun c => ?_)
      · replace h := h.1 c
        refine mr_aload (pc' := 65) rfl rfl rfl ?_
        refine mr_iload (pc' := 67) rfl rfl rfl ?_
        refine mr_call (t := [(0, 0)]) (pc' := 70) rfl [.inr (.inl 0), .inl v10] rfl rfl rfl (mj_recvV rfl) (Nat.le_of_ble_eq_true rfl) (mj_B_mono d _ _ _ _ _ (fun r σ11 h => ?_) h)
        obtain ⟨v12, rfl, h⟩ := h
        refine mr_istore (pc' := 72) rfl rfl trivial (Nat.le_of_ble_eq_true rfl) rfl ?_
        refine mr_aload (pc' := 73) rfl rfl rfl ?_
        refine mr_getr (ci := 0) (pc' := 76) rfl rfl rfl rfl ?_
        refine mr_call (t := [(6, 0)]) (pc' := 79) rfl [.inr (.inl 6)] rfl rfl rfl (mj_recvV rfl) (Nat.le_of_ble_eq_true rfl) (mj_B_mono d _ _ _ _ _ (fun r σ13 h => ?_) h)
        obtain ⟨v14, rfl, h⟩ := h
        refine mr_iload (pc' := 81) rfl rfl rfl ?_
        refine mr_ic_ne (pc' := 84) rfl rfl (fun c => ?_) (fun c => ?_)
        · replace h := h.1 c
          refine mr_iload (pc' := 102) rfl rfl rfl ?_
          refine mr_if_eq (pc' := 105) rfl rfl (fun c => ?_) (fun c => ?_)
          · replace h := h.1 c
            refine mr_aload (pc' := 109) rfl rfl rfl ?_
            refine mr_dup (pc' := 110) rfl rfl trivial ?_
            refine mr_get (ci := 0) (pc' := 113) rfl rfl rfl rfl ?_
            refine mr_const (pc' := 114) rfl rfl (by unfold mj_r; decide) ?_
            obtain ⟨h0, h⟩ := h
            refine mr_iadd (pc' := 115) rfl rfl h0 ?_
            refine mr_put (pc' := 118) rfl rfl rfl rfl (fun σ15 e9 => ?_)
            replace h := h σ15 e9
            obtain ⟨h0, h⟩ := h
            refine mr_iinc (pc' := 121) rfl rfl rfl trivial h0 rfl ?_
            refine mr_goto rfl ?_
            exact mj_W_ls (mj_B_mono d) (mj_lev_of _ _ (by simp [mj_levb])) h
          · replace h := h.2 c
            refine mr_iload (pc' := 107) rfl rfl rfl ?_
            exact mr_iret rfl rfl trivial h
        · replace h := h.2 c
          refine mr_aload (pc' := 85) rfl rfl rfl ?_
          refine mr_getr (ci := 0) (pc' := 88) rfl rfl rfl rfl ?_
          refine mr_iload (pc' := 89) rfl rfl rfl ?_
          refine mr_call (t := [(2, 0)]) (pc' := 92) rfl [.inr (.inl 2), .inl v4] rfl rfl rfl (mj_recvV rfl) (Nat.le_of_ble_eq_true rfl) (mj_B_mono d _ _ _ _ _ (fun r σ16 h => ?_) h)
          obtain ⟨rfl, h⟩ := h
          refine mr_aload (pc' := 93) rfl rfl rfl ?_
          refine mr_getr (ci := 0) (pc' := 96) rfl rfl rfl rfl ?_
          refine mr_iload (pc' := 97) rfl rfl rfl ?_
          refine mr_call (t := [(4, 0)]) (pc' := 100) rfl [.inr (.inl 4), .inl v6] rfl rfl rfl (mj_recvV rfl) (Nat.le_of_ble_eq_true rfl) (mj_B_mono d _ _ _ _ _ (fun r σ17 h => ?_) h)
          obtain ⟨rfl, h⟩ := h
          refine mr_iload (pc' := 102) rfl rfl rfl ?_
          refine mr_if_eq (pc' := 105) rfl rfl (fun c => ?_) (fun c => ?_)
          · replace h := h.1 c
            refine mr_aload (pc' := 109) rfl rfl rfl ?_
            refine mr_dup (pc' := 110) rfl rfl trivial ?_
            refine mr_get (ci := 0) (pc' := 113) rfl rfl rfl rfl ?_
            refine mr_const (pc' := 114) rfl rfl (by unfold mj_r; decide) ?_
            obtain ⟨h0, h⟩ := h
            refine mr_iadd (pc' := 115) rfl rfl h0 ?_
            refine mr_put (pc' := 118) rfl rfl rfl rfl (fun σ18 e9 => ?_)
            replace h := h σ18 e9
            obtain ⟨h0, h⟩ := h
            refine mr_iinc (pc' := 121) rfl rfl rfl trivial h0 rfl ?_
            refine mr_goto rfl ?_
            exact mj_W_ls (mj_B_mono d) (mj_lev_of _ _ (by simp [mj_levb])) h
          · replace h := h.2 c
            refine mr_iload (pc' := 107) rfl rfl rfl ?_
            exact mr_iret rfl rfl trivial h
      · replace h := h.2 c
        refine mr_iload (pc' := 60) rfl rfl rfl ?_
        obtain ⟨h0, h⟩ := h
        refine mr_ineg (pc' := 61) rfl rfl h0 ?_
        refine mr_goto rfl ?_
        refine mr_istore (pc' := 72) rfl rfl trivial (Nat.le_of_ble_eq_true rfl) rfl ?_
        refine mr_aload (pc' := 73) rfl rfl rfl ?_
        refine mr_getr (ci := 0) (pc' := 76) rfl rfl rfl rfl ?_
        refine mr_call (t := [(6, 0)]) (pc' := 79) rfl [.inr (.inl 6)] rfl rfl rfl (mj_recvV rfl) (Nat.le_of_ble_eq_true rfl) (mj_B_mono d _ _ _ _ _ (fun r σ19 h => ?_) h)
        obtain ⟨v20, rfl, h⟩ := h
        refine mr_iload (pc' := 81) rfl rfl rfl ?_
        refine mr_ic_ne (pc' := 84) rfl rfl (fun c => ?_) (fun c => ?_)
        · replace h := h.1 c
          refine mr_iload (pc' := 102) rfl rfl rfl ?_
          refine mr_if_eq (pc' := 105) rfl rfl (fun c => ?_) (fun c => ?_)
          · replace h := h.1 c
            refine mr_aload (pc' := 109) rfl rfl rfl ?_
            refine mr_dup (pc' := 110) rfl rfl trivial ?_
            refine mr_get (ci := 0) (pc' := 113) rfl rfl rfl rfl ?_
            refine mr_const (pc' := 114) rfl rfl (by unfold mj_r; decide) ?_
            obtain ⟨h0, h⟩ := h
            refine mr_iadd (pc' := 115) rfl rfl h0 ?_
            refine mr_put (pc' := 118) rfl rfl rfl rfl (fun σ21 e9 => ?_)
            replace h := h σ21 e9
            obtain ⟨h0, h⟩ := h
            refine mr_iinc (pc' := 121) rfl rfl rfl trivial h0 rfl ?_
            refine mr_goto rfl ?_
            exact mj_W_ls (mj_B_mono d) (mj_lev_of _ _ (by simp [mj_levb])) h
          · replace h := h.2 c
            refine mr_iload (pc' := 107) rfl rfl rfl ?_
            exact mr_iret rfl rfl trivial h
        · replace h := h.2 c
          refine mr_aload (pc' := 85) rfl rfl rfl ?_
          refine mr_getr (ci := 0) (pc' := 88) rfl rfl rfl rfl ?_
          refine mr_iload (pc' := 89) rfl rfl rfl ?_
          refine mr_call (t := [(2, 0)]) (pc' := 92) rfl [.inr (.inl 2), .inl v4] rfl rfl rfl (mj_recvV rfl) (Nat.le_of_ble_eq_true rfl) (mj_B_mono d _ _ _ _ _ (fun r σ22 h => ?_) h)
          obtain ⟨rfl, h⟩ := h
          refine mr_aload (pc' := 93) rfl rfl rfl ?_
          refine mr_getr (ci := 0) (pc' := 96) rfl rfl rfl rfl ?_
          refine mr_iload (pc' := 97) rfl rfl rfl ?_
          refine mr_call (t := [(4, 0)]) (pc' := 100) rfl [.inr (.inl 4), .inl v6] rfl rfl rfl (mj_recvV rfl) (Nat.le_of_ble_eq_true rfl) (mj_B_mono d _ _ _ _ _ (fun r σ23 h => ?_) h)
          obtain ⟨rfl, h⟩ := h
          refine mr_iload (pc' := 102) rfl rfl rfl ?_
          refine mr_if_eq (pc' := 105) rfl rfl (fun c => ?_) (fun c => ?_)
          · replace h := h.1 c
            refine mr_aload (pc' := 109) rfl rfl rfl ?_
            refine mr_dup (pc' := 110) rfl rfl trivial ?_
            refine mr_get (ci := 0) (pc' := 113) rfl rfl rfl rfl ?_
            refine mr_const (pc' := 114) rfl rfl (by unfold mj_r; decide) ?_
            obtain ⟨h0, h⟩ := h
            refine mr_iadd (pc' := 115) rfl rfl h0 ?_
            refine mr_put (pc' := 118) rfl rfl rfl rfl (fun σ24 e9 => ?_)
            replace h := h σ24 e9
            obtain ⟨h0, h⟩ := h
            refine mr_iinc (pc' := 121) rfl rfl rfl trivial h0 rfl ?_
            refine mr_goto rfl ?_
            exact mj_W_ls (mj_B_mono d) (mj_lev_of _ _ (by simp [mj_levb])) h
          · replace h := h.2 c
            refine mr_iload (pc' := 107) rfl rfl rfl ?_
            exact mr_iret rfl rfl trivial h
set_option maxRecDepth 20000 in
/-- ListSpeaker.carryOutForms -/
theorem wp_c5 {d : Nat} {σ : mj_S} {Q : mj_Q} (h : lh_c5_2 d Q 0 σ) : mj_B mjc_L mjc_Ms (d + 1) 5 [.inr (.inl 0)] σ Q := by
  refine mj_B_of (M := mjcM5) (ls := [some (.inr (.inl 0)), none, none, none, none, none, none]) rfl (mj_c1_all rfl) (Nat.le_of_ble_eq_true rfl) rfl ?_
  refine mr_const (pc' := 1) rfl rfl (by unfold mj_r; decide) ?_
  refine mr_istore (pc' := 2) rfl rfl trivial (Nat.le_of_ble_eq_true rfl) rfl ?_
  exact mj_W_ls (mj_B_mono d) (mj_lev_of _ _ (by simp [mj_levb])) h
set_option maxRecDepth 20000 in
/-- ListSpeaker$Symbols.known -/
theorem wp_c10 {d : Nat} {σ : mj_S} {Q : mj_Q} (h : Q (some (.inl (σ 1 2))) σ) : mj_B mjc_L mjc_Ms (d + 1) 10 [.inr (.inl 1)] σ Q := by
  refine mj_B_of (M := mjcM10) (ls := [some (.inr (.inl 1))]) rfl (mj_c1_all rfl) (Nat.le_of_ble_eq_true rfl) rfl ?_
  refine mr_aload (pc' := 1) rfl rfl rfl ?_
  refine mr_get (ci := 0) (pc' := 4) rfl rfl rfl rfl ?_
  exact mr_iret rfl rfl trivial h
set_option maxRecDepth 20000 in
/-- ListSpeaker$Pairs.stored -/
theorem wp_c16 {d : Nat} {σ : mj_S} {Q : mj_Q} (h : Q (some (.inl (σ 2 8))) σ) : mj_B mjc_L mjc_Ms (d + 1) 16 [.inr (.inl 2)] σ Q := by
  refine mj_B_of (M := mjcM16) (ls := [some (.inr (.inl 2))]) rfl (mj_c1_all rfl) (Nat.le_of_ble_eq_true rfl) rfl ?_
  refine mr_aload (pc' := 1) rfl rfl rfl ?_
  refine mr_get (ci := 0) (pc' := 4) rfl rfl rfl rfl ?_
  exact mr_iret rfl rfl trivial h
set_option maxRecDepth 20000 in
/-- ListSpeaker$Pairs.made -/
theorem wp_c17 {d : Nat} {σ : mj_S} {Q : mj_Q} (h : mj_r ((σ 2 0) - (σ 2 9)) ∧ Q (some (.inl ((σ 2 0) - (σ 2 9)))) σ) : mj_B mjc_L mjc_Ms (d + 1) 17 [.inr (.inl 2)] σ Q := by
  refine mj_B_of (M := mjcM17) (ls := [some (.inr (.inl 2))]) rfl (mj_c1_all rfl) (Nat.le_of_ble_eq_true rfl) rfl ?_
  refine mr_aload (pc' := 1) rfl rfl rfl ?_
  refine mr_get (ci := 0) (pc' := 4) rfl rfl rfl rfl ?_
  refine mr_aload (pc' := 5) rfl rfl rfl ?_
  refine mr_get (ci := 0) (pc' := 8) rfl rfl rfl rfl ?_
  obtain ⟨h0, h⟩ := h
  refine mr_isub (pc' := 9) rfl rfl h0 ?_
  exact mr_iret rfl rfl trivial h
set_option maxRecDepth 20000 in
/-- ListSpeaker$Pairs.collections -/
theorem wp_c18 {d : Nat} {σ : mj_S} {Q : mj_Q} (h : Q (some (.inl (σ 2 10))) σ) : mj_B mjc_L mjc_Ms (d + 1) 18 [.inr (.inl 2)] σ Q := by
  refine mj_B_of (M := mjcM18) (ls := [some (.inr (.inl 2))]) rfl (mj_c1_all rfl) (Nat.le_of_ble_eq_true rfl) rfl ?_
  refine mr_aload (pc' := 1) rfl rfl rfl ?_
  refine mr_get (ci := 0) (pc' := 4) rfl rfl rfl rfl ?_
  exact mr_iret rfl rfl trivial h
set_option maxRecDepth 20000 in
/-- ListSpeaker$Reader.append -/
theorem wp_c34 {d : Nat} {σ : mj_S} {Q : mj_Q} {x1 : Int} (h : ((σ 3 3) < 300 → 0 ≤ (σ 3 3) ∧ (σ 3 3) < 300 ∧ mj_fit .char x1 ∧ ∀ σ1, σ1 = mj_up σ 18 (σ 3 3).toNat x1 → mj_r ((σ1 3 3) + 1) ∧ ∀ σ2, σ2 = mj_up σ1 3 3 ((σ1 3 3) + 1) → mj_fit .boolean 1 ∧ Q (some (.inl 1)) σ2) ∧ (300 ≤ (σ 3 3) → mj_fit .boolean 0 ∧ Q (some (.inl 0)) σ)) : mj_B mjc_L mjc_Ms (d + 1) 34 [.inr (.inl 3), .inl x1] σ Q := by
  refine mj_B_of (M := mjcM34) (ls := [some (.inr (.inl 3)), some (.inl x1)]) rfl (mj_c1_all rfl) (Nat.le_of_ble_eq_true rfl) rfl ?_
  refine mr_aload (pc' := 1) rfl rfl rfl ?_
  refine mr_get (ci := 0) (pc' := 4) rfl rfl rfl rfl ?_
  refine mr_const (pc' := 7) rfl rfl (by unfold mj_r; decide) ?_
  refine mr_ic_lt (pc' := 10) rfl rfl (fun c => ?_) (fun c => ?_)
  · replace h := h.1 c
    refine mr_aload (pc' := 13) rfl rfl rfl ?_
    refine mr_getr (ci := 0) (pc' := 16) rfl rfl rfl rfl ?_
    refine mr_aload (pc' := 17) rfl rfl rfl ?_
    refine mr_get (ci := 0) (pc' := 20) rfl rfl rfl rfl ?_
    refine mr_iload (pc' := 21) rfl rfl rfl ?_
    obtain ⟨h0, h1, h2, h⟩ := h
    refine mr_cast (pc' := 22) rfl rfl rfl h0 h1 h2 (fun σ1 e9 => ?_)
    replace h := h σ1 e9
    refine mr_aload (pc' := 23) rfl rfl rfl ?_
    refine mr_dup (pc' := 24) rfl rfl trivial ?_
    refine mr_get (ci := 0) (pc' := 27) rfl rfl rfl rfl ?_
    refine mr_const (pc' := 28) rfl rfl (by unfold mj_r; decide) ?_
    obtain ⟨h0, h⟩ := h
    refine mr_iadd (pc' := 29) rfl rfl h0 ?_
    refine mr_put (pc' := 32) rfl rfl rfl rfl (fun σ2 e9 => ?_)
    replace h := h σ2 e9
    refine mr_const (pc' := 33) rfl rfl (by unfold mj_r; decide) ?_
    exact mr_iret rfl rfl h.1 h.2
  · replace h := h.2 c
    refine mr_const (pc' := 11) rfl rfl (by unfold mj_r; decide) ?_
    exact mr_iret rfl rfl h.1 h.2
set_option maxRecDepth 20000 in
/-- ListSpeaker$Reader.forget -/
theorem wp_c35 {d : Nat} {σ : mj_S} {Q : mj_Q} (h : ∀ σ1, σ1 = mj_up σ 3 3 0 → Q (some (.inl (σ 3 3))) σ1) : mj_B mjc_L mjc_Ms (d + 1) 35 [.inr (.inl 3)] σ Q := by
  refine mj_B_of (M := mjcM35) (ls := [some (.inr (.inl 3)), none]) rfl (mj_c1_all rfl) (Nat.le_of_ble_eq_true rfl) rfl ?_
  refine mr_aload (pc' := 1) rfl rfl rfl ?_
  refine mr_get (ci := 0) (pc' := 4) rfl rfl rfl rfl ?_
  refine mr_istore (pc' := 5) rfl rfl trivial (Nat.le_of_ble_eq_true rfl) rfl ?_
  refine mr_aload (pc' := 6) rfl rfl rfl ?_
  refine mr_const (pc' := 7) rfl rfl (by unfold mj_r; decide) ?_
  refine mr_put (pc' := 10) rfl rfl rfl rfl (fun σ1 e9 => ?_)
  replace h := h σ1 e9
  refine mr_iload (pc' := 11) rfl rfl rfl ?_
  exact mr_iret rfl rfl trivial h
set_option maxRecDepth 20000 in
/-- ListSpeaker$Reader.begin -/
theorem wp_c36 {d : Nat} {σ : mj_S} {Q : mj_Q} (h : ∀ σ1, σ1 = mj_up σ 3 4 0 → Q none σ1) : mj_B mjc_L mjc_Ms (d + 1) 36 [.inr (.inl 3)] σ Q := by
  refine mj_B_of (M := mjcM36) (ls := [some (.inr (.inl 3))]) rfl (mj_c1_all rfl) (Nat.le_of_ble_eq_true rfl) rfl ?_
  refine mr_aload (pc' := 1) rfl rfl rfl ?_
  refine mr_const (pc' := 2) rfl rfl (by unfold mj_r; decide) ?_
  refine mr_put (pc' := 5) rfl rfl rfl rfl (fun σ1 e9 => ?_)
  replace h := h σ1 e9
  exact mr_ret rfl rfl h
set_option maxRecDepth 20000 in
/-- ListSpeaker$Reader.hasMore -/
theorem wp_c37 {d : Nat} {σ : mj_S} {Q : mj_Q} (h : mj_B mjc_L mjc_Ms d 48 [.inr (.inl 3)] σ (fun r σ1 => r = none ∧ ((σ1 3 3) ≤ (σ1 3 4) → mj_fit .boolean 0 ∧ Q (some (.inl 0)) σ1) ∧ ((σ1 3 4) < (σ1 3 3) → mj_fit .boolean 1 ∧ Q (some (.inl 1)) σ1))) : mj_B mjc_L mjc_Ms (d + 1) 37 [.inr (.inl 3)] σ Q := by
  refine mj_B_of (M := mjcM37) (ls := [some (.inr (.inl 3))]) rfl (mj_c1_all rfl) (Nat.le_of_ble_eq_true rfl) rfl ?_
  refine mr_aload (pc' := 1) rfl rfl rfl ?_
  refine mr_call (t := [(3, 0)]) (pc' := 4) rfl [.inr (.inl 3)] rfl rfl rfl (mj_recvV rfl) (Nat.le_of_ble_eq_true rfl) (mj_B_mono d _ _ _ _ _ (fun r σ1 h => ?_) h)
  obtain ⟨rfl, h⟩ := h
  refine mr_aload (pc' := 5) rfl rfl rfl ?_
  refine mr_get (ci := 0) (pc' := 8) rfl rfl rfl rfl ?_
  refine mr_aload (pc' := 9) rfl rfl rfl ?_
  refine mr_get (ci := 0) (pc' := 12) rfl rfl rfl rfl ?_
  refine mr_ic_ge (pc' := 15) rfl rfl (fun c => ?_) (fun c => ?_)
  · replace h := h.1 c
    refine mr_const (pc' := 20) rfl rfl (by unfold mj_r; decide) ?_
    exact mr_iret rfl rfl h.1 h.2
  · replace h := h.2 c
    refine mr_const (pc' := 16) rfl rfl (by unfold mj_r; decide) ?_
    refine mr_goto rfl ?_
    exact mr_iret rfl rfl h.1 h.2
def lh_c48_2 (d : Nat) (Q : mj_Q) (y1 : Int) (σ : mj_S) : Prop := mj_P mjc_L mjc_Ms d mjco48 ((Option.none : Option Jvm.ClassFile.FieldType)) Q 2 [some (.inr (.inl 3)), some (.inl y1), none] [] σ
set_option maxRecDepth 20000 in
theorem lw_c48_2 {d : Nat} {Q : mj_Q} {y1 : Int} {σ : mj_S} (h : ((σ 3 3) ≤ (σ 3 4) → Q none σ) ∧ ((σ 3 4) < (σ 3 3) → 0 ≤ (σ 3 4) ∧ (σ 3 4) < 300 ∧ (y1 = 0 → (¬ (σ 18 (σ 3 4).toNat) = 59 → ((σ 18 (σ 3 4).toNat) = 32 → mj_r ((σ 3 4) + 1) ∧ ∀ σ1, σ1 = mj_up σ 3 4 ((σ 3 4) + 1) → lh_c48_2 d Q y1 σ1) ∧ (¬ (σ 18 (σ 3 4).toNat) = 32 → ((σ 18 (σ 3 4).toNat) = 10 → mj_r ((σ 3 4) + 1) ∧ ∀ σ2, σ2 = mj_up σ 3 4 ((σ 3 4) + 1) → lh_c48_2 d Q y1 σ2) ∧ (¬ (σ 18 (σ 3 4).toNat) = 10 → Q none σ))) ∧ ((σ 18 (σ 3 4).toNat) = 59 → mj_r ((σ 3 4) + 1) ∧ ∀ σ3, σ3 = mj_up σ 3 4 ((σ 3 4) + 1) → lh_c48_2 d Q 1 σ3)) ∧ (¬ y1 = 0 → ((σ 18 (σ 3 4).toNat) = 10 → mj_r ((σ 3 4) + 1) ∧ ∀ σ4, σ4 = mj_up σ 3 4 ((σ 3 4) + 1) → lh_c48_2 d Q 0 σ4) ∧ (¬ (σ 18 (σ 3 4).toNat) = 10 → mj_r ((σ 3 4) + 1) ∧ ∀ σ5, σ5 = mj_up σ 3 4 ((σ 3 4) + 1) → lh_c48_2 d Q 1 σ5)))) : lh_c48_2 d Q y1 σ := by
  show mj_P mjc_L mjc_Ms d mjco48 ((Option.none : Option Jvm.ClassFile.FieldType)) Q 2 [some (.inr (.inl 3)), some (.inl y1), none] [] σ
  refine mr_aload (pc' := 3) rfl rfl rfl ?_
  refine mr_get (ci := 0) (pc' := 6) rfl rfl rfl rfl ?_
  refine mr_aload (pc' := 7) rfl rfl rfl ?_
  refine mr_get (ci := 0) (pc' := 10) rfl rfl rfl rfl ?_
  refine mr_ic_ge (pc' := 13) rfl rfl (fun c => ?_) (fun c => ?_)
  · replace h := h.1 c
    exact mr_ret rfl rfl h
  · replace h := h.2 c
    refine mr_aload (pc' := 14) rfl rfl rfl ?_
    refine mr_getr (ci := 0) (pc' := 17) rfl rfl rfl rfl ?_
    refine mr_aload (pc' := 18) rfl rfl rfl ?_
    refine mr_get (ci := 0) (pc' := 21) rfl rfl rfl rfl ?_
    obtain ⟨h0, h1, h⟩ := h
    refine mr_cald (pc' := 22) rfl rfl rfl h0 h1 ?_
    refine mr_istore (pc' := 23) rfl rfl trivial (Nat.le_of_ble_eq_true rfl) rfl ?_
    refine mr_iload (pc' := 24) rfl rfl rfl ?_
    refine mr_if_eq (pc' := 27) rfl rfl (fun c => ?_) (fun c => ?_)
    · replace h := h.1 c
      refine mr_iload (pc' := 43) rfl rfl rfl ?_
      refine mr_const (pc' := 45) rfl rfl (by unfold mj_r; decide) ?_
      refine mr_ic_ne (pc' := 48) rfl rfl (fun c => ?_) (fun c => ?_)
      · replace h := h.1 c
        refine mr_iload (pc' := 54) rfl rfl rfl ?_
        refine mr_const (pc' := 56) rfl rfl (by unfold mj_r; decide) ?_
        refine mr_ic_eq (pc' := 59) rfl rfl (fun c => ?_) (fun c => ?_)
        · replace h := h.1 c
          refine mr_aload (pc' := 67) rfl rfl rfl ?_
          refine mr_dup (pc' := 68) rfl rfl trivial ?_
          refine mr_get (ci := 0) (pc' := 71) rfl rfl rfl rfl ?_
          refine mr_const (pc' := 72) rfl rfl (by unfold mj_r; decide) ?_
          obtain ⟨h0, h⟩ := h
          refine mr_iadd (pc' := 73) rfl rfl h0 ?_
          refine mr_put (pc' := 76) rfl rfl rfl rfl (fun σ1 e9 => ?_)
          replace h := h σ1 e9
          refine mr_goto rfl ?_
          exact mj_W_ls (mj_B_mono d) (mj_lev_of _ _ (by simp [mj_levb])) h
        · replace h := h.2 c
          refine mr_iload (pc' := 60) rfl rfl rfl ?_
          refine mr_const (pc' := 62) rfl rfl (by unfold mj_r; decide) ?_
          refine mr_ic_eq (pc' := 65) rfl rfl (fun c => ?_) (fun c => ?_)
          · replace h := h.1 c
            refine mr_aload (pc' := 67) rfl rfl rfl ?_
            refine mr_dup (pc' := 68) rfl rfl trivial ?_
            refine mr_get (ci := 0) (pc' := 71) rfl rfl rfl rfl ?_
            refine mr_const (pc' := 72) rfl rfl (by unfold mj_r; decide) ?_
            obtain ⟨h0, h⟩ := h
            refine mr_iadd (pc' := 73) rfl rfl h0 ?_
            refine mr_put (pc' := 76) rfl rfl rfl rfl (fun σ2 e9 => ?_)
            replace h := h σ2 e9
            refine mr_goto rfl ?_
            exact mj_W_ls (mj_B_mono d) (mj_lev_of _ _ (by simp [mj_levb])) h
          · replace h := h.2 c
            exact mr_ret rfl rfl h
      · replace h := h.2 c
        refine mr_const (pc' := 49) rfl rfl (by unfold mj_r; decide) ?_
        refine mr_istore (pc' := 50) rfl rfl trivial (Nat.le_of_ble_eq_true rfl) rfl ?_
        refine mr_goto rfl ?_
        refine mr_aload (pc' := 67) rfl rfl rfl ?_
        refine mr_dup (pc' := 68) rfl rfl trivial ?_
        refine mr_get (ci := 0) (pc' := 71) rfl rfl rfl rfl ?_
        refine mr_const (pc' := 72) rfl rfl (by unfold mj_r; decide) ?_
        obtain ⟨h0, h⟩ := h
        refine mr_iadd (pc' := 73) rfl rfl h0 ?_
        refine mr_put (pc' := 76) rfl rfl rfl rfl (fun σ3 e9 => ?_)
        replace h := h σ3 e9
        refine mr_goto rfl ?_
        exact mj_W_ls (mj_B_mono d) (mj_lev_of _ _ (by simp [mj_levb])) h
    · replace h := h.2 c
      refine mr_iload (pc' := 28) rfl rfl rfl ?_
      refine mr_const (pc' := 30) rfl rfl (by unfold mj_r; decide) ?_
      refine mr_ic_eq (pc' := 33) rfl rfl (fun c => ?_) (fun c => ?_)
      · replace h := h.1 c
        refine mr_const (pc' := 38) rfl rfl (by unfold mj_r; decide) ?_
        refine mr_istore (pc' := 39) rfl rfl trivial (Nat.le_of_ble_eq_true rfl) rfl ?_
        refine mr_goto rfl ?_
        refine mr_aload (pc' := 67) rfl rfl rfl ?_
        refine mr_dup (pc' := 68) rfl rfl trivial ?_
        refine mr_get (ci := 0) (pc' := 71) rfl rfl rfl rfl ?_
        refine mr_const (pc' := 72) rfl rfl (by unfold mj_r; decide) ?_
        obtain ⟨h0, h⟩ := h
        refine mr_iadd (pc' := 73) rfl rfl h0 ?_
        refine mr_put (pc' := 76) rfl rfl rfl rfl (fun σ4 e9 => ?_)
        replace h := h σ4 e9
        refine mr_goto rfl ?_
        exact mj_W_ls (mj_B_mono d) (mj_lev_of _ _ (by simp [mj_levb])) h
      · replace h := h.2 c
        refine mr_const (pc' := 34) rfl rfl (by unfold mj_r; decide) ?_
        refine mr_goto rfl ?_
        refine mr_istore (pc' := 39) rfl rfl trivial (Nat.le_of_ble_eq_true rfl) rfl ?_
        refine mr_goto rfl ?_
        refine mr_aload (pc' := 67) rfl rfl rfl ?_
        refine mr_dup (pc' := 68) rfl rfl trivial ?_
        refine mr_get (ci := 0) (pc' := 71) rfl rfl rfl rfl ?_
        refine mr_const (pc' := 72) rfl rfl (by unfold mj_r; decide) ?_
        obtain ⟨h0, h⟩ := h
        refine mr_iadd (pc' := 73) rfl rfl h0 ?_
        refine mr_put (pc' := 76) rfl rfl rfl rfl (fun σ5 e9 => ?_)
        replace h := h σ5 e9
        refine mr_goto rfl ?_
        exact mj_W_ls (mj_B_mono d) (mj_lev_of _ _ (by simp [mj_levb])) h
set_option maxRecDepth 20000 in
/-- ListSpeaker$Reader.skipBlanks -/
theorem wp_c48 {d : Nat} {σ : mj_S} {Q : mj_Q} (h : lh_c48_2 d Q 0 σ) : mj_B mjc_L mjc_Ms (d + 1) 48 [.inr (.inl 3)] σ Q := by
  refine mj_B_of (M := mjcM48) (ls := [some (.inr (.inl 3)), none, none]) rfl (mj_c1_all rfl) (Nat.le_of_ble_eq_true rfl) rfl ?_
  refine mr_const (pc' := 1) rfl rfl (by unfold mj_r; decide) ?_
  refine mr_istore (pc' := 2) rfl rfl trivial (Nat.le_of_ble_eq_true rfl) rfl ?_
  exact mj_W_ls (mj_B_mono d) (mj_lev_of _ _ (by simp [mj_levb])) h
set_option maxRecDepth 20000 in
/-- ListSpeaker$Functions.known -/
theorem wp_c81 {d : Nat} {σ : mj_S} {Q : mj_Q} (h : Q (some (.inl (σ 6 6))) σ) : mj_B mjc_L mjc_Ms (d + 1) 81 [.inr (.inl 6)] σ Q := by
  refine mj_B_of (M := mjcM81) (ls := [some (.inr (.inl 6))]) rfl (mj_c1_all rfl) (Nat.le_of_ble_eq_true rfl) rfl ?_
  refine mr_aload (pc' := 1) rfl rfl rfl ?_
  refine mr_get (ci := 0) (pc' := 4) rfl rfl rfl rfl ?_
  exact mr_iret rfl rfl trivial h
set_option maxRecDepth 20000 in
/-- ListSpeaker$Machine.steps -/
theorem wp_c86 {d : Nat} {σ : mj_S} {Q : mj_Q} (h : Q (some (.inl (σ 7 12))) σ) : mj_B mjc_L mjc_Ms (d + 1) 86 [.inr (.inl 7)] σ Q := by
  refine mj_B_of (M := mjcM86) (ls := [some (.inr (.inl 7))]) rfl (mj_c1_all rfl) (Nat.le_of_ble_eq_true rfl) rfl ?_
  refine mr_aload (pc' := 1) rfl rfl rfl ?_
  refine mr_get (ci := 0) (pc' := 4) rfl rfl rfl rfl ?_
  exact mr_iret rfl rfl trivial h
set_option maxRecDepth 20000 in
/-- ListSpeaker$Machine.mostTaken -/
theorem wp_c87 {d : Nat} {σ : mj_S} {Q : mj_Q} (h : Q (some (.inl (σ 7 13))) σ) : mj_B mjc_L mjc_Ms (d + 1) 87 [.inr (.inl 7)] σ Q := by
  refine mj_B_of (M := mjcM87) (ls := [some (.inr (.inl 7))]) rfl (mj_c1_all rfl) (Nat.le_of_ble_eq_true rfl) rfl ?_
  refine mr_aload (pc' := 1) rfl rfl rfl ?_
  refine mr_get (ci := 0) (pc' := 4) rfl rfl rfl rfl ?_
  exact mr_iret rfl rfl trivial h
set_option maxRecDepth 20000 in
/-- ListSpeaker$Machine.begin -/
theorem wp_c89 {d : Nat} {σ : mj_S} {Q : mj_Q} {x1 : Int} (h : ∀ σ1, σ1 = mj_up σ 7 11 x1 → ∀ σ2, σ2 = mj_up σ1 7 12 0 → ∀ σ3, σ3 = mj_up σ2 7 13 0 → Q none σ3) : mj_B mjc_L mjc_Ms (d + 1) 89 [.inr (.inl 7), .inl x1] σ Q := by
  refine mj_B_of (M := mjcM89) (ls := [some (.inr (.inl 7)), some (.inl x1)]) rfl (mj_c1_all rfl) (Nat.le_of_ble_eq_true rfl) rfl ?_
  refine mr_aload (pc' := 1) rfl rfl rfl ?_
  refine mr_iload (pc' := 2) rfl rfl rfl ?_
  refine mr_put (pc' := 5) rfl rfl rfl rfl (fun σ1 e9 => ?_)
  replace h := h σ1 e9
  refine mr_aload (pc' := 6) rfl rfl rfl ?_
  refine mr_const (pc' := 7) rfl rfl (by unfold mj_r; decide) ?_
  refine mr_put (pc' := 10) rfl rfl rfl rfl (fun σ2 e9 => ?_)
  replace h := h σ2 e9
  refine mr_aload (pc' := 11) rfl rfl rfl ?_
  refine mr_const (pc' := 12) rfl rfl (by unfold mj_r; decide) ?_
  refine mr_put (pc' := 15) rfl rfl rfl rfl (fun σ3 e9 => ?_)
  replace h := h σ3 e9
  exact mr_ret rfl rfl h
set_option maxRecDepth 20000 in
/-- ListSpeaker$Paper.length -/
theorem wp_c111 {d : Nat} {σ : mj_S} {Q : mj_Q} (h : Q (some (.inl (σ 8 4))) σ) : mj_B mjc_L mjc_Ms (d + 1) 111 [.inr (.inl 8)] σ Q := by
  refine mj_B_of (M := mjcM111) (ls := [some (.inr (.inl 8))]) rfl (mj_c1_all rfl) (Nat.le_of_ble_eq_true rfl) rfl ?_
  refine mr_aload (pc' := 1) rfl rfl rfl ?_
  refine mr_get (ci := 0) (pc' := 4) rfl rfl rfl rfl ?_
  exact mr_iret rfl rfl trivial h
set_option maxRecDepth 20000 in
/-- ListSpeaker$Paper.letter -/
theorem wp_c112 {d : Nat} {σ : mj_S} {Q : mj_Q} {x1 : Int} (h : (x1 < 0 → mj_fit .char 32 ∧ Q (some (.inl 32)) σ) ∧ (0 ≤ x1 → ((σ 8 4) ≤ x1 → mj_fit .char 32 ∧ Q (some (.inl 32)) σ) ∧ (x1 < (σ 8 4) → 0 ≤ x1 ∧ x1 < 400 ∧ mj_fit .char (σ 33 x1.toNat) ∧ Q (some (.inl (σ 33 x1.toNat))) σ))) : mj_B mjc_L mjc_Ms (d + 1) 112 [.inr (.inl 8), .inl x1] σ Q := by
  refine mj_B_of (M := mjcM112) (ls := [some (.inr (.inl 8)), some (.inl x1)]) rfl (mj_c1_all rfl) (Nat.le_of_ble_eq_true rfl) rfl ?_
  refine mr_iload (pc' := 1) rfl rfl rfl ?_
  refine mr_if_lt (pc' := 4) rfl rfl (fun c => ?_) (fun c => ?_)
  · replace h := h.1 c
    refine mr_const (pc' := 23) rfl rfl (by unfold mj_r; decide) ?_
    exact mr_iret rfl rfl h.1 h.2
  · replace h := h.2 c
    refine mr_iload (pc' := 5) rfl rfl rfl ?_
    refine mr_aload (pc' := 6) rfl rfl rfl ?_
    refine mr_get (ci := 0) (pc' := 9) rfl rfl rfl rfl ?_
    refine mr_ic_ge (pc' := 12) rfl rfl (fun c => ?_) (fun c => ?_)
    · replace h := h.1 c
      refine mr_const (pc' := 23) rfl rfl (by unfold mj_r; decide) ?_
      exact mr_iret rfl rfl h.1 h.2
    · replace h := h.2 c
      refine mr_aload (pc' := 13) rfl rfl rfl ?_
      refine mr_getr (ci := 0) (pc' := 16) rfl rfl rfl rfl ?_
      refine mr_iload (pc' := 17) rfl rfl rfl ?_
      obtain ⟨h0, h1, h⟩ := h
      refine mr_cald (pc' := 18) rfl rfl rfl h0 h1 ?_
      refine mr_goto rfl ?_
      exact mr_iret rfl rfl h.1 h.2
set_option maxRecDepth 20000 in
/-- ListSpeaker$Paper.begin -/
theorem wp_c113 {d : Nat} {σ : mj_S} {Q : mj_Q} (h : ∀ σ1, σ1 = mj_up σ 8 4 0 → Q none σ1) : mj_B mjc_L mjc_Ms (d + 1) 113 [.inr (.inl 8)] σ Q := by
  refine mj_B_of (M := mjcM113) (ls := [some (.inr (.inl 8))]) rfl (mj_c1_all rfl) (Nat.le_of_ble_eq_true rfl) rfl ?_
  refine mr_aload (pc' := 1) rfl rfl rfl ?_
  refine mr_const (pc' := 2) rfl rfl (by unfold mj_r; decide) ?_
  refine mr_put (pc' := 5) rfl rfl rfl rfl (fun σ1 e9 => ?_)
  replace h := h σ1 e9
  exact mr_ret rfl rfl h
set_option maxRecDepth 20000 in
/-- ListSpeakerModel.thrown -/
theorem wp_m1 {d : Nat} {σ : mj_S} {Q : mj_Q} (h : Q (some (.inl (σ 0 1))) σ) : mj_B mjm_L mjm_Ms (d + 1) 1 [.inr (.inl 0)] σ Q := by
  refine mj_B_of (M := mjmM1) (ls := [some (.inr (.inl 0))]) rfl (mj_c1_all rfl) (Nat.le_of_ble_eq_true rfl) rfl ?_
  refine mr_aload (pc' := 1) rfl rfl rfl ?_
  refine mr_get (ci := 0) (pc' := 4) rfl rfl rfl rfl ?_
  exact mr_iret rfl rfl trivial h
set_option maxRecDepth 20000 in
/-- ListSpeakerModel.type -/
theorem wp_m9 {d : Nat} {σ : mj_S} {Q : mj_Q} {x1 : Int} (h : ∀ σ1, σ1 = mj_up σ 0 1 0 → (¬ (σ1 0 2) = 300 → 0 ≤ (σ1 0 2) ∧ (σ1 0 2) < 300 ∧ mj_fit .char x1 ∧ ∀ σ2, σ2 = mj_up σ1 1 (σ1 0 2).toNat x1 → mj_r ((σ2 0 2) + 1) ∧ ∀ σ3, σ3 = mj_up σ2 0 2 ((σ2 0 2) + 1) → mj_fit .boolean 1 ∧ Q (some (.inl 1)) σ3) ∧ ((σ1 0 2) = 300 → mj_fit .boolean 0 ∧ Q (some (.inl 0)) σ1)) : mj_B mjm_L mjm_Ms (d + 1) 9 [.inr (.inl 0), .inl x1] σ Q := by
  refine mj_B_of (M := mjmM9) (ls := [some (.inr (.inl 0)), some (.inl x1)]) rfl (mj_c1_all rfl) (Nat.le_of_ble_eq_true rfl) rfl ?_
  refine mr_aload (pc' := 1) rfl rfl rfl ?_
  refine mr_const (pc' := 2) rfl rfl (by unfold mj_r; decide) ?_
  refine mr_put (pc' := 5) rfl rfl rfl rfl (fun σ1 e9 => ?_)
  replace h := h σ1 e9
  refine mr_aload (pc' := 6) rfl rfl rfl ?_
  refine mr_get (ci := 0) (pc' := 9) rfl rfl rfl rfl ?_
  refine mr_const (pc' := 12) rfl rfl (by unfold mj_r; decide) ?_
  refine mr_ic_ne (pc' := 15) rfl rfl (fun c => ?_) (fun c => ?_)
  · replace h := h.1 c
    refine mr_aload (pc' := 18) rfl rfl rfl ?_
    refine mr_getr (ci := 0) (pc' := 21) rfl rfl rfl rfl ?_
    refine mr_aload (pc' := 22) rfl rfl rfl ?_
    refine mr_get (ci := 0) (pc' := 25) rfl rfl rfl rfl ?_
    refine mr_iload (pc' := 26) rfl rfl rfl ?_
    obtain ⟨h0, h1, h2, h⟩ := h
    refine mr_cast (pc' := 27) rfl rfl rfl h0 h1 h2 (fun σ2 e9 => ?_)
    replace h := h σ2 e9
    refine mr_aload (pc' := 28) rfl rfl rfl ?_
    refine mr_dup (pc' := 29) rfl rfl trivial ?_
    refine mr_get (ci := 0) (pc' := 32) rfl rfl rfl rfl ?_
    refine mr_const (pc' := 33) rfl rfl (by unfold mj_r; decide) ?_
    obtain ⟨h0, h⟩ := h
    refine mr_iadd (pc' := 34) rfl rfl h0 ?_
    refine mr_put (pc' := 37) rfl rfl rfl rfl (fun σ3 e9 => ?_)
    replace h := h σ3 e9
    refine mr_const (pc' := 38) rfl rfl (by unfold mj_r; decide) ?_
    exact mr_iret rfl rfl h.1 h.2
  · replace h := h.2 c
    refine mr_const (pc' := 16) rfl rfl (by unfold mj_r; decide) ?_
    exact mr_iret rfl rfl h.1 h.2
set_option maxRecDepth 20000 in
/-- ListSpeakerModel.clear -/
theorem wp_m10 {d : Nat} {σ : mj_S} {Q : mj_Q} (h : ∀ σ1, σ1 = mj_up σ 0 1 0 → ∀ σ2, σ2 = mj_up σ1 0 2 0 → Q (some (.inl (σ1 0 2))) σ2) : mj_B mjm_L mjm_Ms (d + 1) 10 [.inr (.inl 0)] σ Q := by
  refine mj_B_of (M := mjmM10) (ls := [some (.inr (.inl 0)), none]) rfl (mj_c1_all rfl) (Nat.le_of_ble_eq_true rfl) rfl ?_
  refine mr_aload (pc' := 1) rfl rfl rfl ?_
  refine mr_const (pc' := 2) rfl rfl (by unfold mj_r; decide) ?_
  refine mr_put (pc' := 5) rfl rfl rfl rfl (fun σ1 e9 => ?_)
  replace h := h σ1 e9
  refine mr_aload (pc' := 6) rfl rfl rfl ?_
  refine mr_get (ci := 0) (pc' := 9) rfl rfl rfl rfl ?_
  refine mr_istore (pc' := 10) rfl rfl trivial (Nat.le_of_ble_eq_true rfl) rfl ?_
  refine mr_aload (pc' := 11) rfl rfl rfl ?_
  refine mr_const (pc' := 12) rfl rfl (by unfold mj_r; decide) ?_
  refine mr_put (pc' := 15) rfl rfl rfl rfl (fun σ2 e9 => ?_)
  replace h := h σ2 e9
  refine mr_iload (pc' := 16) rfl rfl rfl ?_
  exact mr_iret rfl rfl trivial h
set_option maxRecDepth 20000 in
/-- ListSpeakerModel.look -/
theorem wp_m11 {d : Nat} {σ : mj_S} {Q : mj_Q} (h : ((σ 0 2) ≤ (σ 0 4) → Q (some (.inl (-1))) σ) ∧ ((σ 0 4) < (σ 0 2) → 0 ≤ (σ 0 4) ∧ (σ 0 4) < 300 ∧ Q (some (.inl (σ 1 (σ 0 4).toNat))) σ)) : mj_B mjm_L mjm_Ms (d + 1) 11 [.inr (.inl 0)] σ Q := by
  refine mj_B_of (M := mjmM11) (ls := [some (.inr (.inl 0))]) rfl (mj_c1_all rfl) (Nat.le_of_ble_eq_true rfl) rfl ?_
  refine mr_aload (pc' := 1) rfl rfl rfl ?_
  refine mr_get (ci := 0) (pc' := 4) rfl rfl rfl rfl ?_
  refine mr_aload (pc' := 5) rfl rfl rfl ?_
  refine mr_get (ci := 0) (pc' := 8) rfl rfl rfl rfl ?_
  refine mr_ic_ge (pc' := 11) rfl rfl (fun c => ?_) (fun c => ?_)
  · replace h := h.1 c
    refine mr_const (pc' := 24) rfl rfl (by unfold mj_r; decide) ?_
    exact mr_iret rfl rfl trivial h
  · replace h := h.2 c
    refine mr_aload (pc' := 12) rfl rfl rfl ?_
    refine mr_getr (ci := 0) (pc' := 15) rfl rfl rfl rfl ?_
    refine mr_aload (pc' := 16) rfl rfl rfl ?_
    refine mr_get (ci := 0) (pc' := 19) rfl rfl rfl rfl ?_
    obtain ⟨h0, h1, h⟩ := h
    refine mr_cald (pc' := 20) rfl rfl rfl h0 h1 ?_
    refine mr_goto rfl ?_
    exact mr_iret rfl rfl trivial h
def lh_m12_2 (d : Nat) (Q : mj_Q) (y1 : Int) (σ : mj_S) : Prop := mj_P mjm_L mjm_Ms d mjmo12 ((Option.none : Option Jvm.ClassFile.FieldType)) Q 2 [some (.inr (.inl 0)), some (.inl y1)] [] σ
def lh_m12_48 (d : Nat) (Q : mj_Q) (y1 : Int) (σ : mj_S) : Prop := mj_P mjm_L mjm_Ms d mjmo12 ((Option.none : Option Jvm.ClassFile.FieldType)) Q 48 [some (.inr (.inl 0)), some (.inl y1)] [] σ
set_option maxRecDepth 20000 in
theorem lw_m12_2 {d : Nat} {Q : mj_Q} {y1 : Int} {σ : mj_S} (h : (y1 = 0 → Q none σ) ∧ (¬ y1 = 0 → mj_B mjm_L mjm_Ms d 11 [.inr (.inl 0)] σ (fun r σ1 => ∃ v2, r = some (.inl v2) ∧ (v2 = 32 → mj_B mjm_L mjm_Ms d 11 [.inr (.inl 0)] σ1 (fun r σ3 => ∃ v4, r = some (.inl v4) ∧ (¬ v4 = 59 → mj_r ((σ3 0 4) + 1) ∧ ∀ σ5, σ5 = mj_up σ3 0 4 ((σ3 0 4) + 1) → lh_m12_2 d Q 1 σ5) ∧ (v4 = 59 → lh_m12_48 d Q 1 σ3))) ∧ (¬ v2 = 32 → mj_B mjm_L mjm_Ms d 11 [.inr (.inl 0)] σ1 (fun r σ6 => ∃ v7, r = some (.inl v7) ∧ (v7 = 10 → mj_B mjm_L mjm_Ms d 11 [.inr (.inl 0)] σ6 (fun r σ8 => ∃ v9, r = some (.inl v9) ∧ (¬ v9 = 59 → mj_r ((σ8 0 4) + 1) ∧ ∀ σ10, σ10 = mj_up σ8 0 4 ((σ8 0 4) + 1) → lh_m12_2 d Q 1 σ10) ∧ (v9 = 59 → lh_m12_48 d Q 1 σ8))) ∧ (¬ v7 = 10 → mj_B mjm_L mjm_Ms d 11 [.inr (.inl 0)] σ6 (fun r σ11 => ∃ v12, r = some (.inl v12) ∧ (¬ v12 = 59 → mj_B mjm_L mjm_Ms d 11 [.inr (.inl 0)] σ11 (fun r σ13 => ∃ v14, r = some (.inl v14) ∧ (¬ v14 = 59 → lh_m12_2 d Q 0 σ13) ∧ (v14 = 59 → lh_m12_48 d Q 0 σ13))) ∧ (v12 = 59 → mj_B mjm_L mjm_Ms d 11 [.inr (.inl 0)] σ11 (fun r σ15 => ∃ v16, r = some (.inl v16) ∧ (¬ v16 = 59 → mj_r ((σ15 0 4) + 1) ∧ ∀ σ17, σ17 = mj_up σ15 0 4 ((σ15 0 4) + 1) → lh_m12_2 d Q 1 σ17) ∧ (v16 = 59 → lh_m12_48 d Q 1 σ15)))))))))) : lh_m12_2 d Q y1 σ := by
  show mj_P mjm_L mjm_Ms d mjmo12 ((Option.none : Option Jvm.ClassFile.FieldType)) Q 2 [some (.inr (.inl 0)), some (.inl y1)] [] σ
  refine mr_iload (pc' := 3) rfl rfl rfl ?_
  refine mr_if_eq (pc' := 6) rfl rfl (fun c => ?_) (fun c => ?_)
  · replace h := h.1 c
    exact mr_ret rfl rfl h
  · replace h := h.2 c
    refine mr_aload (pc' := 7) rfl rfl rfl ?_
    refine mr_call (t := [(9, 0)]) (pc' := 10) rfl [.inr (.inl 0)] rfl rfl rfl (mj_recvV rfl) (Nat.le_of_ble_eq_true rfl) (mj_B_mono d _ _ _ _ _ (fun r σ1 h => ?_) h)
    obtain ⟨v2, rfl, h⟩ := h
    refine mr_const (pc' := 12) rfl rfl (by unfold mj_r; decide) ?_
    refine mr_ic_eq (pc' := 15) rfl rfl (fun c => ?_) (fun c => ?_)
    · replace h := h.1 c
      refine mr_const (pc' := 34) rfl rfl (by unfold mj_r; decide) ?_
      refine mr_goto rfl ?_
      refine mr_istore (pc' := 39) rfl rfl trivial (Nat.le_of_ble_eq_true rfl) rfl ?_
      refine mr_aload (pc' := 40) rfl rfl rfl ?_
      refine mr_call (t := [(9, 0)]) (pc' := 43) rfl [.inr (.inl 0)] rfl rfl rfl (mj_recvV rfl) (Nat.le_of_ble_eq_true rfl) (mj_B_mono d _ _ _ _ _ (fun r σ3 h => ?_) h)
      obtain ⟨v4, rfl, h⟩ := h
      refine mr_const (pc' := 45) rfl rfl (by unfold mj_r; decide) ?_
      refine mr_ic_ne (pc' := 48) rfl rfl (fun c => ?_) (fun c => ?_)
      · replace h := h.1 c
        refine mr_iload (pc' := 78) rfl rfl rfl ?_
        refine mr_if_eq (pc' := 81) rfl rfl (fun c => absurd c (by decide)) (fun _ => ?_)
        refine mr_aload (pc' := 82) rfl rfl rfl ?_
        refine mr_dup (pc' := 83) rfl rfl trivial ?_
        refine mr_get (ci := 0) (pc' := 86) rfl rfl rfl rfl ?_
        refine mr_const (pc' := 87) rfl rfl (by unfold mj_r; decide) ?_
        obtain ⟨h0, h⟩ := h
        refine mr_iadd (pc' := 88) rfl rfl h0 ?_
        refine mr_put (pc' := 91) rfl rfl rfl rfl (fun σ5 e9 => ?_)
        replace h := h σ5 e9
        refine mr_goto rfl ?_
        exact mj_W_ls (mj_B_mono d) (mj_lev_of _ _ (by simp [mj_levb])) h
      · replace h := h.2 c
        exact mj_W_ls (mj_B_mono d) (mj_lev_of _ _ (by simp [mj_levb])) h
    · replace h := h.2 c
      refine mr_aload (pc' := 16) rfl rfl rfl ?_
      refine mr_call (t := [(9, 0)]) (pc' := 19) rfl [.inr (.inl 0)] rfl rfl rfl (mj_recvV rfl) (Nat.le_of_ble_eq_true rfl) (mj_B_mono d _ _ _ _ _ (fun r σ6 h => ?_) h)
      obtain ⟨v7, rfl, h⟩ := h
      refine mr_const (pc' := 21) rfl rfl (by unfold mj_r; decide) ?_
      refine mr_ic_eq (pc' := 24) rfl rfl (fun c => ?_) (fun c => ?_)
      · replace h := h.1 c
        refine mr_const (pc' := 34) rfl rfl (by unfold mj_r; decide) ?_
        refine mr_goto rfl ?_
        refine mr_istore (pc' := 39) rfl rfl trivial (Nat.le_of_ble_eq_true rfl) rfl ?_
        refine mr_aload (pc' := 40) rfl rfl rfl ?_
        refine mr_call (t := [(9, 0)]) (pc' := 43) rfl [.inr (.inl 0)] rfl rfl rfl (mj_recvV rfl) (Nat.le_of_ble_eq_true rfl) (mj_B_mono d _ _ _ _ _ (fun r σ8 h => ?_) h)
        obtain ⟨v9, rfl, h⟩ := h
        refine mr_const (pc' := 45) rfl rfl (by unfold mj_r; decide) ?_
        refine mr_ic_ne (pc' := 48) rfl rfl (fun c => ?_) (fun c => ?_)
        · replace h := h.1 c
          refine mr_iload (pc' := 78) rfl rfl rfl ?_
          refine mr_if_eq (pc' := 81) rfl rfl (fun c => absurd c (by decide)) (fun _ => ?_)
          refine mr_aload (pc' := 82) rfl rfl rfl ?_
          refine mr_dup (pc' := 83) rfl rfl trivial ?_
          refine mr_get (ci := 0) (pc' := 86) rfl rfl rfl rfl ?_
          refine mr_const (pc' := 87) rfl rfl (by unfold mj_r; decide) ?_
          obtain ⟨h0, h⟩ := h
          refine mr_iadd (pc' := 88) rfl rfl h0 ?_
          refine mr_put (pc' := 91) rfl rfl rfl rfl (fun σ10 e9 => ?_)
          replace h := h σ10 e9
          refine mr_goto rfl ?_
          exact mj_W_ls (mj_B_mono d) (mj_lev_of _ _ (by simp [mj_levb])) h
        · replace h := h.2 c
          exact mj_W_ls (mj_B_mono d) (mj_lev_of _ _ (by simp [mj_levb])) h
      · replace h := h.2 c
        refine mr_aload (pc' := 25) rfl rfl rfl ?_
        refine mr_call (t := [(9, 0)]) (pc' := 28) rfl [.inr (.inl 0)] rfl rfl rfl (mj_recvV rfl) (Nat.le_of_ble_eq_true rfl) (mj_B_mono d _ _ _ _ _ (fun r σ11 h => ?_) h)
        obtain ⟨v12, rfl, h⟩ := h
        refine mr_const (pc' := 30) rfl rfl (by unfold mj_r; decide) ?_
        refine mr_ic_ne (pc' := 33) rfl rfl (fun c => ?_) (fun c => ?_)
        · replace h := h.1 c
          refine mr_const (pc' := 38) rfl rfl (by unfold mj_r; decide) ?_
          refine mr_istore (pc' := 39) rfl rfl trivial (Nat.le_of_ble_eq_true rfl) rfl ?_
          refine mr_aload (pc' := 40) rfl rfl rfl ?_
          refine mr_call (t := [(9, 0)]) (pc' := 43) rfl [.inr (.inl 0)] rfl rfl rfl (mj_recvV rfl) (Nat.le_of_ble_eq_true rfl) (mj_B_mono d _ _ _ _ _ (fun r σ13 h => ?_) h)
          obtain ⟨v14, rfl, h⟩ := h
          refine mr_const (pc' := 45) rfl rfl (by unfold mj_r; decide) ?_
          refine mr_ic_ne (pc' := 48) rfl rfl (fun c => ?_) (fun c => ?_)
          · replace h := h.1 c
            refine mr_iload (pc' := 78) rfl rfl rfl ?_
            refine mr_if_eq (pc' := 81) rfl rfl (fun _ => ?_) (fun c => absurd c (by decide))
            exact mj_W_ls (mj_B_mono d) (mj_lev_of _ _ (by simp [mj_levb])) h
          · replace h := h.2 c
            exact mj_W_ls (mj_B_mono d) (mj_lev_of _ _ (by simp [mj_levb])) h
        · replace h := h.2 c
          refine mr_const (pc' := 34) rfl rfl (by unfold mj_r; decide) ?_
          refine mr_goto rfl ?_
          refine mr_istore (pc' := 39) rfl rfl trivial (Nat.le_of_ble_eq_true rfl) rfl ?_
          refine mr_aload (pc' := 40) rfl rfl rfl ?_
          refine mr_call (t := [(9, 0)]) (pc' := 43) rfl [.inr (.inl 0)] rfl rfl rfl (mj_recvV rfl) (Nat.le_of_ble_eq_true rfl) (mj_B_mono d _ _ _ _ _ (fun r σ15 h => ?_) h)
          obtain ⟨v16, rfl, h⟩ := h
          refine mr_const (pc' := 45) rfl rfl (by unfold mj_r; decide) ?_
          refine mr_ic_ne (pc' := 48) rfl rfl (fun c => ?_) (fun c => ?_)
          · replace h := h.1 c
            refine mr_iload (pc' := 78) rfl rfl rfl ?_
            refine mr_if_eq (pc' := 81) rfl rfl (fun c => absurd c (by decide)) (fun _ => ?_)
            refine mr_aload (pc' := 82) rfl rfl rfl ?_
            refine mr_dup (pc' := 83) rfl rfl trivial ?_
            refine mr_get (ci := 0) (pc' := 86) rfl rfl rfl rfl ?_
            refine mr_const (pc' := 87) rfl rfl (by unfold mj_r; decide) ?_
            obtain ⟨h0, h⟩ := h
            refine mr_iadd (pc' := 88) rfl rfl h0 ?_
            refine mr_put (pc' := 91) rfl rfl rfl rfl (fun σ17 e9 => ?_)
            replace h := h σ17 e9
            refine mr_goto rfl ?_
            exact mj_W_ls (mj_B_mono d) (mj_lev_of _ _ (by simp [mj_levb])) h
          · replace h := h.2 c
            exact mj_W_ls (mj_B_mono d) (mj_lev_of _ _ (by simp [mj_levb])) h
set_option maxRecDepth 20000 in
theorem lw_m12_48 {d : Nat} {Q : mj_Q} {y1 : Int} {σ : mj_S} (h : mj_B mjm_L mjm_Ms d 11 [.inr (.inl 0)] σ (fun r σ1 => ∃ v2, r = some (.inl v2) ∧ (v2 < 0 → lh_m12_2 d Q y1 σ1) ∧ (0 ≤ v2 → mj_B mjm_L mjm_Ms d 11 [.inr (.inl 0)] σ1 (fun r σ3 => ∃ v4, r = some (.inl v4) ∧ (v4 = 10 → lh_m12_2 d Q y1 σ3) ∧ (¬ v4 = 10 → mj_r ((σ3 0 4) + 1) ∧ ∀ σ5, σ5 = mj_up σ3 0 4 ((σ3 0 4) + 1) → lh_m12_48 d Q y1 σ5))))) : lh_m12_48 d Q y1 σ := by
  show mj_P mjm_L mjm_Ms d mjmo12 ((Option.none : Option Jvm.ClassFile.FieldType)) Q 48 [some (.inr (.inl 0)), some (.inl y1)] [] σ
  refine mr_aload (pc' := 49) rfl rfl rfl ?_
  refine mr_call (t := [(9, 0)]) (pc' := 52) rfl [.inr (.inl 0)] rfl rfl rfl (mj_recvV rfl) (Nat.le_of_ble_eq_true rfl) (mj_B_mono d _ _ _ _ _ (fun r σ1 h => ?_) h)
  obtain ⟨v2, rfl, h⟩ := h
  refine mr_if_lt (pc' := 55) rfl rfl (fun c => ?_) (fun c => ?_)
  · replace h := h.1 c
    exact mj_W_ls (mj_B_mono d) (mj_lev_of _ _ (by simp [mj_levb])) h
  · replace h := h.2 c
    refine mr_aload (pc' := 56) rfl rfl rfl ?_
    refine mr_call (t := [(9, 0)]) (pc' := 59) rfl [.inr (.inl 0)] rfl rfl rfl (mj_recvV rfl) (Nat.le_of_ble_eq_true rfl) (mj_B_mono d _ _ _ _ _ (fun r σ3 h => ?_) h)
    obtain ⟨v4, rfl, h⟩ := h
    refine mr_const (pc' := 61) rfl rfl (by unfold mj_r; decide) ?_
    refine mr_ic_eq (pc' := 64) rfl rfl (fun c => ?_) (fun c => ?_)
    · replace h := h.1 c
      exact mj_W_ls (mj_B_mono d) (mj_lev_of _ _ (by simp [mj_levb])) h
    · replace h := h.2 c
      refine mr_aload (pc' := 65) rfl rfl rfl ?_
      refine mr_dup (pc' := 66) rfl rfl trivial ?_
      refine mr_get (ci := 0) (pc' := 69) rfl rfl rfl rfl ?_
      refine mr_const (pc' := 70) rfl rfl (by unfold mj_r; decide) ?_
      obtain ⟨h0, h⟩ := h
      refine mr_iadd (pc' := 71) rfl rfl h0 ?_
      refine mr_put (pc' := 74) rfl rfl rfl rfl (fun σ5 e9 => ?_)
      replace h := h σ5 e9
      refine mr_goto rfl ?_
      exact mj_W_ls (mj_B_mono d) (mj_lev_of _ _ (by simp [mj_levb])) h
set_option maxRecDepth 20000 in
/-- ListSpeakerModel.skip -/
theorem wp_m12 {d : Nat} {σ : mj_S} {Q : mj_Q} (h : lh_m12_2 d Q 1 σ) : mj_B mjm_L mjm_Ms (d + 1) 12 [.inr (.inl 0)] σ Q := by
  refine mj_B_of (M := mjmM12) (ls := [some (.inr (.inl 0)), none]) rfl (mj_c1_all rfl) (Nat.le_of_ble_eq_true rfl) rfl ?_
  refine mr_const (pc' := 1) rfl rfl (by unfold mj_r; decide) ?_
  refine mr_istore (pc' := 2) rfl rfl trivial (Nat.le_of_ble_eq_true rfl) rfl ?_
  exact mj_W_ls (mj_B_mono d) (mj_lev_of _ _ (by simp [mj_levb])) h
def lh_m59_68 (d : Nat) (Q : mj_Q) (y1 : Int) (σ : mj_S) : Prop := mj_P mjm_L mjm_Ms d mjmo59 ((Option.some Jvm.ClassFile.FieldType.int)) Q 68 [some (.inr (.inl 0)), some (.inl y1)] [] σ
set_option maxRecDepth 20000 in
theorem lw_m59_68 {d : Nat} {Q : mj_Q} {y1 : Int} {σ : mj_S} (h : (¬ (σ 0 5) = 0 → ((σ 0 5) ≤ 0 → ∀ σ1, σ1 = mj_up σ 0 2 0 → Q (some (.inl (σ1 0 5))) σ1) ∧ (0 < (σ 0 5) → mj_B mjm_L mjm_Ms d 54 [.inr (.inl 0), .inl 33] σ (fun r σ2 => r = none ∧ mj_B mjm_L mjm_Ms d 55 [.inr (.inl 0), .inl (σ2 0 5)] σ2 (fun r σ3 => r = none ∧ mj_B mjm_L mjm_Ms d 54 [.inr (.inl 0), .inl 10] σ3 (fun r σ4 => r = none ∧ ∀ σ5, σ5 = mj_up σ4 0 2 0 → Q (some (.inl (σ5 0 5))) σ5))))) ∧ ((σ 0 5) = 0 → ((σ 0 2) ≤ (σ 0 4) → ((σ 0 5) ≤ 0 → ∀ σ6, σ6 = mj_up σ 0 2 0 → Q (some (.inl (σ6 0 5))) σ6) ∧ (0 < (σ 0 5) → mj_B mjm_L mjm_Ms d 54 [.inr (.inl 0), .inl 33] σ (fun r σ7 => r = none ∧ mj_B mjm_L mjm_Ms d 55 [.inr (.inl 0), .inl (σ7 0 5)] σ7 (fun r σ8 => r = none ∧ mj_B mjm_L mjm_Ms d 54 [.inr (.inl 0), .inl 10] σ8 (fun r σ9 => r = none ∧ ∀ σ10, σ10 = mj_up σ9 0 2 0 → Q (some (.inl (σ10 0 5))) σ10))))) ∧ ((σ 0 4) < (σ 0 2) → mj_B mjm_L mjm_Ms d 60 [.inr (.inl 0)] σ (fun r σ11 => r = none ∧ mj_B mjm_L mjm_Ms d 12 [.inr (.inl 0)] σ11 (fun r σ12 => r = none ∧ lh_m59_68 d Q y1 σ12))))) : lh_m59_68 d Q y1 σ := by
  show mj_P mjm_L mjm_Ms d mjmo59 ((Option.some Jvm.ClassFile.FieldType.int)) Q 68 [some (.inr (.inl 0)), some (.inl y1)] [] σ
  refine mr_aload (pc' := 69) rfl rfl rfl ?_
  refine mr_get (ci := 0) (pc' := 72) rfl rfl rfl rfl ?_
  refine mr_if_ne (pc' := 75) rfl rfl (fun c => ?_) (fun c => ?_)
  · replace h := h.1 c
    refine mr_aload (pc' := 98) rfl rfl rfl ?_
    refine mr_get (ci := 0) (pc' := 101) rfl rfl rfl rfl ?_
    refine mr_if_le (pc' := 104) rfl rfl (fun c => ?_) (fun c => ?_)
    · replace h := h.1 c
      refine mr_aload (pc' := 125) rfl rfl rfl ?_
      refine mr_const (pc' := 126) rfl rfl (by unfold mj_r; decide) ?_
      refine mr_put (pc' := 129) rfl rfl rfl rfl (fun σ1 e9 => ?_)
      replace h := h σ1 e9
      refine mr_aload (pc' := 130) rfl rfl rfl ?_
      refine mr_get (ci := 0) (pc' := 133) rfl rfl rfl rfl ?_
      exact mr_iret rfl rfl trivial h
    · replace h := h.2 c
      refine mr_aload (pc' := 105) rfl rfl rfl ?_
      refine mr_const (pc' := 107) rfl rfl (by unfold mj_r; decide) ?_
      refine mr_call (t := [(9, 0)]) (pc' := 110) rfl [.inr (.inl 0), .inl 33] rfl rfl rfl (mj_recvV rfl) (Nat.le_of_ble_eq_true rfl) (mj_B_mono d _ _ _ _ _ (fun r σ2 h => ?_) h)
      obtain ⟨rfl, h⟩ := h
      refine mr_aload (pc' := 111) rfl rfl rfl ?_
      refine mr_aload (pc' := 112) rfl rfl rfl ?_
      refine mr_get (ci := 0) (pc' := 115) rfl rfl rfl rfl ?_
      refine mr_call (t := [(9, 0)]) (pc' := 118) rfl [.inr (.inl 0), .inl (σ2 0 5)] rfl rfl rfl (mj_recvV rfl) (Nat.le_of_ble_eq_true rfl) (mj_B_mono d _ _ _ _ _ (fun r σ3 h => ?_) h)
      obtain ⟨rfl, h⟩ := h
      refine mr_aload (pc' := 119) rfl rfl rfl ?_
      refine mr_const (pc' := 121) rfl rfl (by unfold mj_r; decide) ?_
      refine mr_call (t := [(9, 0)]) (pc' := 124) rfl [.inr (.inl 0), .inl 10] rfl rfl rfl (mj_recvV rfl) (Nat.le_of_ble_eq_true rfl) (mj_B_mono d _ _ _ _ _ (fun r σ4 h => ?_) h)
      obtain ⟨rfl, h⟩ := h
      refine mr_aload (pc' := 125) rfl rfl rfl ?_
      refine mr_const (pc' := 126) rfl rfl (by unfold mj_r; decide) ?_
      refine mr_put (pc' := 129) rfl rfl rfl rfl (fun σ5 e9 => ?_)
      replace h := h σ5 e9
      refine mr_aload (pc' := 130) rfl rfl rfl ?_
      refine mr_get (ci := 0) (pc' := 133) rfl rfl rfl rfl ?_
      exact mr_iret rfl rfl trivial h
  · replace h := h.2 c
    refine mr_aload (pc' := 76) rfl rfl rfl ?_
    refine mr_get (ci := 0) (pc' := 79) rfl rfl rfl rfl ?_
    refine mr_aload (pc' := 80) rfl rfl rfl ?_
    refine mr_get (ci := 0) (pc' := 83) rfl rfl rfl rfl ?_
    refine mr_ic_ge (pc' := 86) rfl rfl (fun c => ?_) (fun c => ?_)
    · replace h := h.1 c
      refine mr_aload (pc' := 98) rfl rfl rfl ?_
      refine mr_get (ci := 0) (pc' := 101) rfl rfl rfl rfl ?_
      refine mr_if_le (pc' := 104) rfl rfl (fun c => ?_) (fun c => ?_)
      · replace h := h.1 c
        refine mr_aload (pc' := 125) rfl rfl rfl ?_
        refine mr_const (pc' := 126) rfl rfl (by unfold mj_r; decide) ?_
        refine mr_put (pc' := 129) rfl rfl rfl rfl (fun σ6 e9 => ?_)
        replace h := h σ6 e9
        refine mr_aload (pc' := 130) rfl rfl rfl ?_
        refine mr_get (ci := 0) (pc' := 133) rfl rfl rfl rfl ?_
        exact mr_iret rfl rfl trivial h
      · replace h := h.2 c
        refine mr_aload (pc' := 105) rfl rfl rfl ?_
        refine mr_const (pc' := 107) rfl rfl (by unfold mj_r; decide) ?_
        refine mr_call (t := [(9, 0)]) (pc' := 110) rfl [.inr (.inl 0), .inl 33] rfl rfl rfl (mj_recvV rfl) (Nat.le_of_ble_eq_true rfl) (mj_B_mono d _ _ _ _ _ (fun r σ7 h => ?_) h)
        obtain ⟨rfl, h⟩ := h
        refine mr_aload (pc' := 111) rfl rfl rfl ?_
        refine mr_aload (pc' := 112) rfl rfl rfl ?_
        refine mr_get (ci := 0) (pc' := 115) rfl rfl rfl rfl ?_
        refine mr_call (t := [(9, 0)]) (pc' := 118) rfl [.inr (.inl 0), .inl (σ7 0 5)] rfl rfl rfl (mj_recvV rfl) (Nat.le_of_ble_eq_true rfl) (mj_B_mono d _ _ _ _ _ (fun r σ8 h => ?_) h)
        obtain ⟨rfl, h⟩ := h
        refine mr_aload (pc' := 119) rfl rfl rfl ?_
        refine mr_const (pc' := 121) rfl rfl (by unfold mj_r; decide) ?_
        refine mr_call (t := [(9, 0)]) (pc' := 124) rfl [.inr (.inl 0), .inl 10] rfl rfl rfl (mj_recvV rfl) (Nat.le_of_ble_eq_true rfl) (mj_B_mono d _ _ _ _ _ (fun r σ9 h => ?_) h)
        obtain ⟨rfl, h⟩ := h
        refine mr_aload (pc' := 125) rfl rfl rfl ?_
        refine mr_const (pc' := 126) rfl rfl (by unfold mj_r; decide) ?_
        refine mr_put (pc' := 129) rfl rfl rfl rfl (fun σ10 e9 => ?_)
        replace h := h σ10 e9
        refine mr_aload (pc' := 130) rfl rfl rfl ?_
        refine mr_get (ci := 0) (pc' := 133) rfl rfl rfl rfl ?_
        exact mr_iret rfl rfl trivial h
    · replace h := h.2 c
      refine mr_aload (pc' := 87) rfl rfl rfl ?_
      refine mr_call (t := [(9, 0)]) (pc' := 90) rfl [.inr (.inl 0)] rfl rfl rfl (mj_recvV rfl) (Nat.le_of_ble_eq_true rfl) (mj_B_mono d _ _ _ _ _ (fun r σ11 h => ?_) h)
      obtain ⟨rfl, h⟩ := h
      refine mr_aload (pc' := 91) rfl rfl rfl ?_
      refine mr_call (t := [(9, 0)]) (pc' := 94) rfl [.inr (.inl 0)] rfl rfl rfl (mj_recvV rfl) (Nat.le_of_ble_eq_true rfl) (mj_B_mono d _ _ _ _ _ (fun r σ12 h => ?_) h)
      obtain ⟨rfl, h⟩ := h
      refine mr_goto rfl ?_
      exact mj_W_ls (mj_B_mono d) (mj_lev_of _ _ (by simp [mj_levb])) h
set_option maxRecDepth 20000 in
/-- ListSpeakerModel.run -/
theorem wp_m59 {d : Nat} {σ : mj_S} {Q : mj_Q} {x1 : Int} (h : (x1 < 0 → ∀ σ1, σ1 = mj_up σ 0 1 1 → ((σ1 0 1) ≤ 0 → ∀ σ2, σ2 = mj_up σ1 0 40 x1 → ∀ σ3, σ3 = mj_up σ2 0 41 0 → ∀ σ4, σ4 = mj_up σ3 0 42 0 → ∀ σ5, σ5 = mj_up σ4 0 43 0 → ∀ σ6, σ6 = mj_up σ5 0 44 0 → ∀ σ7, σ7 = mj_up σ6 0 5 0 → ∀ σ8, σ8 = mj_up σ7 0 4 0 → mj_B mjm_L mjm_Ms d 12 [.inr (.inl 0)] σ8 (fun r σ9 => r = none ∧ lh_m59_68 d Q x1 σ9)) ∧ (0 < (σ1 0 1) → Q (some (.inl 0)) σ1)) ∧ (0 ≤ x1 → (x1 ≤ 20000 → ∀ σ10, σ10 = mj_up σ 0 1 0 → ((σ10 0 1) ≤ 0 → ∀ σ11, σ11 = mj_up σ10 0 40 x1 → ∀ σ12, σ12 = mj_up σ11 0 41 0 → ∀ σ13, σ13 = mj_up σ12 0 42 0 → ∀ σ14, σ14 = mj_up σ13 0 43 0 → ∀ σ15, σ15 = mj_up σ14 0 44 0 → ∀ σ16, σ16 = mj_up σ15 0 5 0 → ∀ σ17, σ17 = mj_up σ16 0 4 0 → mj_B mjm_L mjm_Ms d 12 [.inr (.inl 0)] σ17 (fun r σ18 => r = none ∧ lh_m59_68 d Q x1 σ18)) ∧ (0 < (σ10 0 1) → Q (some (.inl 0)) σ10)) ∧ (20000 < x1 → ∀ σ19, σ19 = mj_up σ 0 1 1 → ((σ19 0 1) ≤ 0 → ∀ σ20, σ20 = mj_up σ19 0 40 x1 → ∀ σ21, σ21 = mj_up σ20 0 41 0 → ∀ σ22, σ22 = mj_up σ21 0 42 0 → ∀ σ23, σ23 = mj_up σ22 0 43 0 → ∀ σ24, σ24 = mj_up σ23 0 44 0 → ∀ σ25, σ25 = mj_up σ24 0 5 0 → ∀ σ26, σ26 = mj_up σ25 0 4 0 → mj_B mjm_L mjm_Ms d 12 [.inr (.inl 0)] σ26 (fun r σ27 => r = none ∧ lh_m59_68 d Q x1 σ27)) ∧ (0 < (σ19 0 1) → Q (some (.inl 0)) σ19)))) : mj_B mjm_L mjm_Ms (d + 1) 59 [.inr (.inl 0), .inl x1] σ Q := by
  refine mj_B_of (M := mjmM59) (ls := [some (.inr (.inl 0)), some (.inl x1)]) rfl (mj_c1_all rfl) (Nat.le_of_ble_eq_true rfl) rfl ?_
  refine mr_aload (pc' := 1) rfl rfl rfl ?_
  refine mr_iload (pc' := 2) rfl rfl rfl ?_
  refine mr_if_lt (pc' := 5) rfl rfl (fun c => ?_) (fun c => ?_)
  · replace h := h.1 c
    refine mr_const (pc' := 13) rfl rfl (by unfold mj_r; decide) ?_
    refine mr_goto rfl ?_
    refine mr_put (pc' := 20) rfl rfl rfl rfl (fun σ1 e9 => ?_)
    replace h := h σ1 e9
    refine mr_aload (pc' := 21) rfl rfl rfl ?_
    refine mr_get (ci := 0) (pc' := 24) rfl rfl rfl rfl ?_
    refine mr_if_le (pc' := 27) rfl rfl (fun c => ?_) (fun c => ?_)
    · replace h := h.1 c
      refine mr_aload (pc' := 30) rfl rfl rfl ?_
      refine mr_iload (pc' := 31) rfl rfl rfl ?_
      refine mr_put (pc' := 34) rfl rfl rfl rfl (fun σ2 e9 => ?_)
      replace h := h σ2 e9
      refine mr_aload (pc' := 35) rfl rfl rfl ?_
      refine mr_const (pc' := 36) rfl rfl (by unfold mj_r; decide) ?_
      refine mr_put (pc' := 39) rfl rfl rfl rfl (fun σ3 e9 => ?_)
      replace h := h σ3 e9
      refine mr_aload (pc' := 40) rfl rfl rfl ?_
      refine mr_const (pc' := 41) rfl rfl (by unfold mj_r; decide) ?_
      refine mr_put (pc' := 44) rfl rfl rfl rfl (fun σ4 e9 => ?_)
      replace h := h σ4 e9
      refine mr_aload (pc' := 45) rfl rfl rfl ?_
      refine mr_const (pc' := 46) rfl rfl (by unfold mj_r; decide) ?_
      refine mr_put (pc' := 49) rfl rfl rfl rfl (fun σ5 e9 => ?_)
      replace h := h σ5 e9
      refine mr_aload (pc' := 50) rfl rfl rfl ?_
      refine mr_const (pc' := 51) rfl rfl (by unfold mj_r; decide) ?_
      refine mr_put (pc' := 54) rfl rfl rfl rfl (fun σ6 e9 => ?_)
      replace h := h σ6 e9
      refine mr_aload (pc' := 55) rfl rfl rfl ?_
      refine mr_const (pc' := 56) rfl rfl (by unfold mj_r; decide) ?_
      refine mr_put (pc' := 59) rfl rfl rfl rfl (fun σ7 e9 => ?_)
      replace h := h σ7 e9
      refine mr_aload (pc' := 60) rfl rfl rfl ?_
      refine mr_const (pc' := 61) rfl rfl (by unfold mj_r; decide) ?_
      refine mr_put (pc' := 64) rfl rfl rfl rfl (fun σ8 e9 => ?_)
      replace h := h σ8 e9
      refine mr_aload (pc' := 65) rfl rfl rfl ?_
      refine mr_call (t := [(9, 0)]) (pc' := 68) rfl [.inr (.inl 0)] rfl rfl rfl (mj_recvV rfl) (Nat.le_of_ble_eq_true rfl) (mj_B_mono d _ _ _ _ _ (fun r σ9 h => ?_) h)
      obtain ⟨rfl, h⟩ := h
      exact mj_W_ls (mj_B_mono d) (mj_lev_of _ _ (by simp [mj_levb])) h
    · replace h := h.2 c
      refine mr_const (pc' := 28) rfl rfl (by unfold mj_r; decide) ?_
      exact mr_iret rfl rfl trivial h
  · replace h := h.2 c
    refine mr_iload (pc' := 6) rfl rfl rfl ?_
    refine mr_const (pc' := 9) rfl rfl (by unfold mj_r; decide) ?_
    refine mr_ic_le (pc' := 12) rfl rfl (fun c => ?_) (fun c => ?_)
    · replace h := h.1 c
      refine mr_const (pc' := 17) rfl rfl (by unfold mj_r; decide) ?_
      refine mr_put (pc' := 20) rfl rfl rfl rfl (fun σ10 e9 => ?_)
      replace h := h σ10 e9
      refine mr_aload (pc' := 21) rfl rfl rfl ?_
      refine mr_get (ci := 0) (pc' := 24) rfl rfl rfl rfl ?_
      refine mr_if_le (pc' := 27) rfl rfl (fun c => ?_) (fun c => ?_)
      · replace h := h.1 c
        refine mr_aload (pc' := 30) rfl rfl rfl ?_
        refine mr_iload (pc' := 31) rfl rfl rfl ?_
        refine mr_put (pc' := 34) rfl rfl rfl rfl (fun σ11 e9 => ?_)
        replace h := h σ11 e9
        refine mr_aload (pc' := 35) rfl rfl rfl ?_
        refine mr_const (pc' := 36) rfl rfl (by unfold mj_r; decide) ?_
        refine mr_put (pc' := 39) rfl rfl rfl rfl (fun σ12 e9 => ?_)
        replace h := h σ12 e9
        refine mr_aload (pc' := 40) rfl rfl rfl ?_
        refine mr_const (pc' := 41) rfl rfl (by unfold mj_r; decide) ?_
        refine mr_put (pc' := 44) rfl rfl rfl rfl (fun σ13 e9 => ?_)
        replace h := h σ13 e9
        refine mr_aload (pc' := 45) rfl rfl rfl ?_
        refine mr_const (pc' := 46) rfl rfl (by unfold mj_r; decide) ?_
        refine mr_put (pc' := 49) rfl rfl rfl rfl (fun σ14 e9 => ?_)
        replace h := h σ14 e9
        refine mr_aload (pc' := 50) rfl rfl rfl ?_
        refine mr_const (pc' := 51) rfl rfl (by unfold mj_r; decide) ?_
        refine mr_put (pc' := 54) rfl rfl rfl rfl (fun σ15 e9 => ?_)
        replace h := h σ15 e9
        refine mr_aload (pc' := 55) rfl rfl rfl ?_
        refine mr_const (pc' := 56) rfl rfl (by unfold mj_r; decide) ?_
        refine mr_put (pc' := 59) rfl rfl rfl rfl (fun σ16 e9 => ?_)
        replace h := h σ16 e9
        refine mr_aload (pc' := 60) rfl rfl rfl ?_
        refine mr_const (pc' := 61) rfl rfl (by unfold mj_r; decide) ?_
        refine mr_put (pc' := 64) rfl rfl rfl rfl (fun σ17 e9 => ?_)
        replace h := h σ17 e9
        refine mr_aload (pc' := 65) rfl rfl rfl ?_
        refine mr_call (t := [(9, 0)]) (pc' := 68) rfl [.inr (.inl 0)] rfl rfl rfl (mj_recvV rfl) (Nat.le_of_ble_eq_true rfl) (mj_B_mono d _ _ _ _ _ (fun r σ18 h => ?_) h)
        obtain ⟨rfl, h⟩ := h
        exact mj_W_ls (mj_B_mono d) (mj_lev_of _ _ (by simp [mj_levb])) h
      · replace h := h.2 c
        refine mr_const (pc' := 28) rfl rfl (by unfold mj_r; decide) ?_
        exact mr_iret rfl rfl trivial h
    · replace h := h.2 c
      refine mr_const (pc' := 13) rfl rfl (by unfold mj_r; decide) ?_
      refine mr_goto rfl ?_
      refine mr_put (pc' := 20) rfl rfl rfl rfl (fun σ19 e9 => ?_)
      replace h := h σ19 e9
      refine mr_aload (pc' := 21) rfl rfl rfl ?_
      refine mr_get (ci := 0) (pc' := 24) rfl rfl rfl rfl ?_
      refine mr_if_le (pc' := 27) rfl rfl (fun c => ?_) (fun c => ?_)
      · replace h := h.1 c
        refine mr_aload (pc' := 30) rfl rfl rfl ?_
        refine mr_iload (pc' := 31) rfl rfl rfl ?_
        refine mr_put (pc' := 34) rfl rfl rfl rfl (fun σ20 e9 => ?_)
        replace h := h σ20 e9
        refine mr_aload (pc' := 35) rfl rfl rfl ?_
        refine mr_const (pc' := 36) rfl rfl (by unfold mj_r; decide) ?_
        refine mr_put (pc' := 39) rfl rfl rfl rfl (fun σ21 e9 => ?_)
        replace h := h σ21 e9
        refine mr_aload (pc' := 40) rfl rfl rfl ?_
        refine mr_const (pc' := 41) rfl rfl (by unfold mj_r; decide) ?_
        refine mr_put (pc' := 44) rfl rfl rfl rfl (fun σ22 e9 => ?_)
        replace h := h σ22 e9
        refine mr_aload (pc' := 45) rfl rfl rfl ?_
        refine mr_const (pc' := 46) rfl rfl (by unfold mj_r; decide) ?_
        refine mr_put (pc' := 49) rfl rfl rfl rfl (fun σ23 e9 => ?_)
        replace h := h σ23 e9
        refine mr_aload (pc' := 50) rfl rfl rfl ?_
        refine mr_const (pc' := 51) rfl rfl (by unfold mj_r; decide) ?_
        refine mr_put (pc' := 54) rfl rfl rfl rfl (fun σ24 e9 => ?_)
        replace h := h σ24 e9
        refine mr_aload (pc' := 55) rfl rfl rfl ?_
        refine mr_const (pc' := 56) rfl rfl (by unfold mj_r; decide) ?_
        refine mr_put (pc' := 59) rfl rfl rfl rfl (fun σ25 e9 => ?_)
        replace h := h σ25 e9
        refine mr_aload (pc' := 60) rfl rfl rfl ?_
        refine mr_const (pc' := 61) rfl rfl (by unfold mj_r; decide) ?_
        refine mr_put (pc' := 64) rfl rfl rfl rfl (fun σ26 e9 => ?_)
        replace h := h σ26 e9
        refine mr_aload (pc' := 65) rfl rfl rfl ?_
        refine mr_call (t := [(9, 0)]) (pc' := 68) rfl [.inr (.inl 0)] rfl rfl rfl (mj_recvV rfl) (Nat.le_of_ble_eq_true rfl) (mj_B_mono d _ _ _ _ _ (fun r σ27 h => ?_) h)
        obtain ⟨rfl, h⟩ := h
        exact mj_W_ls (mj_B_mono d) (mj_lev_of _ _ (by simp [mj_levb])) h
      · replace h := h.2 c
        refine mr_const (pc' := 28) rfl rfl (by unfold mj_r; decide) ?_
        exact mr_iret rfl rfl trivial h
set_option maxRecDepth 20000 in
/-- ListSpeakerModel.output -/
theorem wp_m61 {d : Nat} {σ : mj_S} {Q : mj_Q} {x1 : Int} (h : (x1 < 0 → ∀ σ1, σ1 = mj_up σ 0 1 1 → ((σ1 0 1) ≤ 0 → 0 ≤ x1 ∧ x1 < 400 ∧ mj_fit .char (σ1 24 x1.toNat) ∧ Q (some (.inl (σ1 24 x1.toNat))) σ1) ∧ (0 < (σ1 0 1) → mj_fit .char 32 ∧ Q (some (.inl 32)) σ1)) ∧ (0 ≤ x1 → (x1 < (σ 0 44) → ∀ σ2, σ2 = mj_up σ 0 1 0 → ((σ2 0 1) ≤ 0 → 0 ≤ x1 ∧ x1 < 400 ∧ mj_fit .char (σ2 24 x1.toNat) ∧ Q (some (.inl (σ2 24 x1.toNat))) σ2) ∧ (0 < (σ2 0 1) → mj_fit .char 32 ∧ Q (some (.inl 32)) σ2)) ∧ ((σ 0 44) ≤ x1 → ∀ σ3, σ3 = mj_up σ 0 1 1 → ((σ3 0 1) ≤ 0 → 0 ≤ x1 ∧ x1 < 400 ∧ mj_fit .char (σ3 24 x1.toNat) ∧ Q (some (.inl (σ3 24 x1.toNat))) σ3) ∧ (0 < (σ3 0 1) → mj_fit .char 32 ∧ Q (some (.inl 32)) σ3)))) : mj_B mjm_L mjm_Ms (d + 1) 61 [.inr (.inl 0), .inl x1] σ Q := by
  refine mj_B_of (M := mjmM61) (ls := [some (.inr (.inl 0)), some (.inl x1)]) rfl (mj_c1_all rfl) (Nat.le_of_ble_eq_true rfl) rfl ?_
  refine mr_aload (pc' := 1) rfl rfl rfl ?_
  refine mr_iload (pc' := 2) rfl rfl rfl ?_
  refine mr_if_lt (pc' := 5) rfl rfl (fun c => ?_) (fun c => ?_)
  · replace h := h.1 c
    refine mr_const (pc' := 14) rfl rfl (by unfold mj_r; decide) ?_
    refine mr_goto rfl ?_
    refine mr_put (pc' := 21) rfl rfl rfl rfl (fun σ1 e9 => ?_)
    replace h := h σ1 e9
    refine mr_aload (pc' := 22) rfl rfl rfl ?_
    refine mr_get (ci := 0) (pc' := 25) rfl rfl rfl rfl ?_
    refine mr_if_le (pc' := 28) rfl rfl (fun c => ?_) (fun c => ?_)
    · replace h := h.1 c
      refine mr_aload (pc' := 34) rfl rfl rfl ?_
      refine mr_getr (ci := 0) (pc' := 37) rfl rfl rfl rfl ?_
      refine mr_iload (pc' := 38) rfl rfl rfl ?_
      obtain ⟨h0, h1, h⟩ := h
      refine mr_cald (pc' := 39) rfl rfl rfl h0 h1 ?_
      exact mr_iret rfl rfl h.1 h.2
    · replace h := h.2 c
      refine mr_const (pc' := 30) rfl rfl (by unfold mj_r; decide) ?_
      refine mr_goto rfl ?_
      exact mr_iret rfl rfl h.1 h.2
  · replace h := h.2 c
    refine mr_iload (pc' := 6) rfl rfl rfl ?_
    refine mr_aload (pc' := 7) rfl rfl rfl ?_
    refine mr_get (ci := 0) (pc' := 10) rfl rfl rfl rfl ?_
    refine mr_ic_lt (pc' := 13) rfl rfl (fun c => ?_) (fun c => ?_)
    · replace h := h.1 c
      refine mr_const (pc' := 18) rfl rfl (by unfold mj_r; decide) ?_
      refine mr_put (pc' := 21) rfl rfl rfl rfl (fun σ2 e9 => ?_)
      replace h := h σ2 e9
      refine mr_aload (pc' := 22) rfl rfl rfl ?_
      refine mr_get (ci := 0) (pc' := 25) rfl rfl rfl rfl ?_
      refine mr_if_le (pc' := 28) rfl rfl (fun c => ?_) (fun c => ?_)
      · replace h := h.1 c
        refine mr_aload (pc' := 34) rfl rfl rfl ?_
        refine mr_getr (ci := 0) (pc' := 37) rfl rfl rfl rfl ?_
        refine mr_iload (pc' := 38) rfl rfl rfl ?_
        obtain ⟨h0, h1, h⟩ := h
        refine mr_cald (pc' := 39) rfl rfl rfl h0 h1 ?_
        exact mr_iret rfl rfl h.1 h.2
      · replace h := h.2 c
        refine mr_const (pc' := 30) rfl rfl (by unfold mj_r; decide) ?_
        refine mr_goto rfl ?_
        exact mr_iret rfl rfl h.1 h.2
    · replace h := h.2 c
      refine mr_const (pc' := 14) rfl rfl (by unfold mj_r; decide) ?_
      refine mr_goto rfl ?_
      refine mr_put (pc' := 21) rfl rfl rfl rfl (fun σ3 e9 => ?_)
      replace h := h σ3 e9
      refine mr_aload (pc' := 22) rfl rfl rfl ?_
      refine mr_get (ci := 0) (pc' := 25) rfl rfl rfl rfl ?_
      refine mr_if_le (pc' := 28) rfl rfl (fun c => ?_) (fun c => ?_)
      · replace h := h.1 c
        refine mr_aload (pc' := 34) rfl rfl rfl ?_
        refine mr_getr (ci := 0) (pc' := 37) rfl rfl rfl rfl ?_
        refine mr_iload (pc' := 38) rfl rfl rfl ?_
        obtain ⟨h0, h1, h⟩ := h
        refine mr_cald (pc' := 39) rfl rfl rfl h0 h1 ?_
        exact mr_iret rfl rfl h.1 h.2
      · replace h := h.2 c
        refine mr_const (pc' := 30) rfl rfl (by unfold mj_r; decide) ?_
        refine mr_goto rfl ?_
        exact mr_iret rfl rfl h.1 h.2
set_option maxRecDepth 20000 in
/-- ListSpeakerModel.count -/
theorem wp_m62 {d : Nat} {σ : mj_S} {Q : mj_Q} {x1 : Int} (h : ∀ σ1, σ1 = mj_up σ 0 1 0 → (x1 = 0 → Q (some (.inl (σ1 0 44))) σ1) ∧ (x1 = 1 → Q (some (.inl (σ1 0 22))) σ1) ∧ (x1 = 2 → Q (some (.inl (σ1 0 6))) σ1) ∧ (x1 = 3 → Q (some (.inl (σ1 0 11))) σ1) ∧ (x1 = 4 → Q (some (.inl (σ1 0 12))) σ1) ∧ (x1 = 5 → Q (some (.inl (σ1 0 13))) σ1) ∧ (x1 = 6 → Q (some (.inl (σ1 0 41))) σ1) ∧ (x1 = 7 → Q (some (.inl (σ1 0 43))) σ1) ∧ (x1 = 8 → Q (some (.inl (σ1 0 42))) σ1) ∧ (¬ (0 ≤ x1 ∧ x1 ≤ 8) → Q (some (.inl (-1))) σ1)) : mj_B mjm_L mjm_Ms (d + 1) 62 [.inr (.inl 0), .inl x1] σ Q := by
  refine mj_B_of (M := mjmM62) (ls := [some (.inr (.inl 0)), some (.inl x1)]) rfl (mj_c1_all rfl) (Nat.le_of_ble_eq_true rfl) rfl ?_
  refine mr_aload (pc' := 1) rfl rfl rfl ?_
  refine mr_const (pc' := 2) rfl rfl (by unfold mj_r; decide) ?_
  refine mr_put (pc' := 5) rfl rfl rfl rfl (fun σ1 e9 => ?_)
  replace h := h σ1 e9
  refine mr_iload (pc' := 6) rfl rfl rfl ?_
  refine mr_tsw rfl ?_
  obtain ⟨g0, g1, g2, g3, g4, g5, g6, g7, g8, g9⟩ := h
  by_cases c0 : x1 = 0
  · have h := g0 c0
    rw [c0]
    show mj_P mjm_L mjm_Ms d mjmo62 ((Option.some Jvm.ClassFile.FieldType.int)) Q 56 _ _ _
    refine mr_aload (pc' := 57) rfl rfl rfl ?_
    refine mr_get (ci := 0) (pc' := 60) rfl rfl rfl rfl ?_
    exact mr_iret rfl rfl trivial h
  by_cases c1 : x1 = 1
  · have h := g1 c1
    rw [c1]
    show mj_P mjm_L mjm_Ms d mjmo62 ((Option.some Jvm.ClassFile.FieldType.int)) Q 61 _ _ _
    refine mr_aload (pc' := 62) rfl rfl rfl ?_
    refine mr_get (ci := 0) (pc' := 65) rfl rfl rfl rfl ?_
    exact mr_iret rfl rfl trivial h
  by_cases c2 : x1 = 2
  · have h := g2 c2
    rw [c2]
    show mj_P mjm_L mjm_Ms d mjmo62 ((Option.some Jvm.ClassFile.FieldType.int)) Q 66 _ _ _
    refine mr_aload (pc' := 67) rfl rfl rfl ?_
    refine mr_get (ci := 0) (pc' := 70) rfl rfl rfl rfl ?_
    exact mr_iret rfl rfl trivial h
  by_cases c3 : x1 = 3
  · have h := g3 c3
    rw [c3]
    show mj_P mjm_L mjm_Ms d mjmo62 ((Option.some Jvm.ClassFile.FieldType.int)) Q 71 _ _ _
    refine mr_aload (pc' := 72) rfl rfl rfl ?_
    refine mr_get (ci := 0) (pc' := 75) rfl rfl rfl rfl ?_
    exact mr_iret rfl rfl trivial h
  by_cases c4 : x1 = 4
  · have h := g4 c4
    rw [c4]
    show mj_P mjm_L mjm_Ms d mjmo62 ((Option.some Jvm.ClassFile.FieldType.int)) Q 76 _ _ _
    refine mr_aload (pc' := 77) rfl rfl rfl ?_
    refine mr_get (ci := 0) (pc' := 80) rfl rfl rfl rfl ?_
    exact mr_iret rfl rfl trivial h
  by_cases c5 : x1 = 5
  · have h := g5 c5
    rw [c5]
    show mj_P mjm_L mjm_Ms d mjmo62 ((Option.some Jvm.ClassFile.FieldType.int)) Q 81 _ _ _
    refine mr_aload (pc' := 82) rfl rfl rfl ?_
    refine mr_get (ci := 0) (pc' := 85) rfl rfl rfl rfl ?_
    exact mr_iret rfl rfl trivial h
  by_cases c6 : x1 = 6
  · have h := g6 c6
    rw [c6]
    show mj_P mjm_L mjm_Ms d mjmo62 ((Option.some Jvm.ClassFile.FieldType.int)) Q 86 _ _ _
    refine mr_aload (pc' := 87) rfl rfl rfl ?_
    refine mr_get (ci := 0) (pc' := 90) rfl rfl rfl rfl ?_
    exact mr_iret rfl rfl trivial h
  by_cases c7 : x1 = 7
  · have h := g7 c7
    rw [c7]
    show mj_P mjm_L mjm_Ms d mjmo62 ((Option.some Jvm.ClassFile.FieldType.int)) Q 91 _ _ _
    refine mr_aload (pc' := 92) rfl rfl rfl ?_
    refine mr_get (ci := 0) (pc' := 95) rfl rfl rfl rfl ?_
    exact mr_iret rfl rfl trivial h
  by_cases c8 : x1 = 8
  · have h := g8 c8
    rw [c8]
    show mj_P mjm_L mjm_Ms d mjmo62 ((Option.some Jvm.ClassFile.FieldType.int)) Q 96 _ _ _
    refine mr_aload (pc' := 97) rfl rfl rfl ?_
    refine mr_get (ci := 0) (pc' := 100) rfl rfl rfl rfl ?_
    exact mr_iret rfl rfl trivial h
  have h := g9 (by omega)
  rw [show mj_sw 0 [(0, 56), (1, 61), (2, 66), (3, 71), (4, 76), (5, 81), (6, 86), (7, 91), (8, 96)] 101 x1 = 101 from if_neg (by simp; omega)]
  refine mr_const (pc' := 102) rfl rfl (by unfold mj_r; decide) ?_
  exact mr_iret rfl rfl trivial h
