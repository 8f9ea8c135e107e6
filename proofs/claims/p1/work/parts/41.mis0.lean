set_option maxRecDepth 100000 in
theorem mjmi0 : ∀ (pc : Nat) (o : mj_O), mjmo0[pc]? = some o → mj_is mj_kl mjmM0.1.cls mj_WS mj_NWs mjm_Ms mjmM0.2.1 pc o := by
  have h : mj_all (mj_is mj_kl mjmM0.1.cls mj_WS mj_NWs mjm_Ms mjmM0.2.1) 0 mjmo0 := by
    unfold mjmo0
    refine mj_all_cons 1 rfl (Or.inl ⟨by decide +kernel, rfl⟩) ?_
    refine mj_all_cons 2 rfl (Or.inr ⟨by decide +kernel, rfl⟩) ?_
    refine mj_all_cons 3 rfl (trivial) ?_
    refine mj_all_cons 4 rfl (Or.inr ⟨by decide +kernel, rfl⟩) ?_
    refine mj_all_cons 5 rfl (trivial) ?_
    refine mj_all_cons 6 rfl (Or.inr (Or.inl ⟨by decide +kernel, rfl, by decide⟩)) ?_
    refine mj_all_cons 7 rfl (trivial) ?_
    refine mj_all_cons 8 rfl (show _ = _ from by decide +kernel) ?_
    refine mj_all_cons 9 rfl (trivial) ?_
    refine mj_all_cons 10 rfl (trivial) ?_
    refine mj_all_cons 11 rfl (Or.inr ⟨by decide +kernel, rfl⟩) ?_
    refine mj_all_cons 12 rfl (trivial) ?_
    refine mj_all_cons 13 rfl (show _ = _ from by decide +kernel) ?_
    refine mj_all_cons 14 rfl (trivial) ?_
    refine mj_all_cons 15 rfl (trivial) ?_
    refine mj_all_cons 16 rfl (Or.inl ⟨1, by decide +kernel, rfl, rfl⟩) ?_
    refine mj_all_cons 17 rfl (show _ = _ from by decide +kernel) ?_
    refine mj_all_cons 18 rfl (trivial) ?_
    refine mj_all_cons 19 rfl (trivial) ?_
    refine mj_all_cons 20 rfl (Or.inr ⟨by decide +kernel, rfl⟩) ?_
    refine mj_all_cons 21 rfl (trivial) ?_
    refine mj_all_cons 22 rfl (Or.inl ⟨by decide +kernel, rfl⟩) ?_
    refine mj_all_cons 23 rfl (show _ = _ from by decide +kernel) ?_
    refine mj_all_cons 24 rfl (trivial) ?_
    refine mj_all_cons 25 rfl (trivial) ?_
    refine mj_all_cons 26 rfl (Or.inl ⟨2, by decide +kernel, rfl, rfl⟩) ?_
    refine mj_all_cons 27 rfl (show _ = _ from by decide +kernel) ?_
    refine mj_all_cons 28 rfl (trivial) ?_
    refine mj_all_cons 29 rfl (trivial) ?_
    refine mj_all_cons 30 rfl (Or.inr ⟨by decide +kernel, rfl⟩) ?_
    refine mj_all_cons 31 rfl (trivial) ?_
    refine mj_all_cons 32 rfl (Or.inl ⟨by decide +kernel, rfl⟩) ?_
    refine mj_all_cons 33 rfl (show _ = _ from by decide +kernel) ?_
    refine mj_all_cons 34 rfl (trivial) ?_
    refine mj_all_cons 35 rfl (trivial) ?_
    refine mj_all_cons 36 rfl (Or.inl ⟨3, by decide +kernel, rfl, rfl⟩) ?_
    refine mj_all_cons 37 rfl (show _ = _ from by decide +kernel) ?_
    refine mj_all_cons 38 rfl (trivial) ?_
    refine mj_all_cons 39 rfl (trivial) ?_
    refine mj_all_cons 40 rfl (Or.inr ⟨by decide +kernel, rfl⟩) ?_
    refine mj_all_cons 41 rfl (trivial) ?_
    refine mj_all_cons 42 rfl (Or.inl ⟨by decide +kernel, rfl⟩) ?_
    refine mj_all_cons 43 rfl (show _ = _ from by decide +kernel) ?_
    refine mj_all_cons 44 rfl (trivial) ?_
    refine mj_all_cons 45 rfl (trivial) ?_
    refine mj_all_cons 46 rfl (Or.inr ⟨by decide +kernel, rfl⟩) ?_
    refine mj_all_cons 47 rfl (trivial) ?_
    refine mj_all_cons 48 rfl (show _ = _ from by decide +kernel) ?_
    refine mj_all_cons 49 rfl (trivial) ?_
    refine mj_all_cons 50 rfl (trivial) ?_
    refine mj_all_cons 51 rfl (Or.inr ⟨by decide +kernel, rfl⟩) ?_
    refine mj_all_cons 52 rfl (trivial) ?_
    refine mj_all_cons 53 rfl (Or.inl ⟨by decide +kernel, rfl⟩) ?_
    refine mj_all_cons 54 rfl (show _ = _ from by decide +kernel) ?_
    refine mj_all_cons 55 rfl (trivial) ?_
    refine mj_all_cons 56 rfl (trivial) ?_
    refine mj_all_cons 57 rfl (Or.inr ⟨by decide +kernel, rfl⟩) ?_
    refine mj_all_cons 58 rfl (trivial) ?_
    refine mj_all_cons 59 rfl (show _ = _ from by decide +kernel) ?_
    refine mj_all_cons 60 rfl (trivial) ?_
    refine mj_all_cons 61 rfl (trivial) ?_
    refine mj_all_cons 62 rfl (Or.inr ⟨by decide +kernel, rfl⟩) ?_
    refine mj_all_cons 63 rfl (trivial) ?_
    refine mj_all_cons 64 rfl (Or.inl ⟨by decide +kernel, rfl⟩) ?_
    refine mj_all_cons 65 rfl (show _ = _ from by decide +kernel) ?_
    refine mj_all_cons 66 rfl (trivial) ?_
    refine mj_all_cons 67 rfl (trivial) ?_
    refine mj_all_cons 68 rfl (Or.inr ⟨by decide +kernel, rfl⟩) ?_
    refine mj_all_cons 69 rfl (trivial) ?_
    refine mj_all_cons 70 rfl (show _ = _ from by decide +kernel) ?_
    refine mj_all_cons 71 rfl (trivial) ?_
    refine mj_all_cons 72 rfl (trivial) ?_
    refine mj_all_cons 73 rfl (Or.inr ⟨by decide +kernel, rfl⟩) ?_
    refine mj_all_cons 74 rfl (trivial) ?_
    refine mj_all_cons 75 rfl (Or.inr ⟨by decide +kernel, rfl⟩) ?_
    refine mj_all_cons 76 rfl (trivial) ?_
    refine mj_all_cons 77 rfl (Or.inl ⟨0, by decide +kernel, rfl, rfl⟩) ?_
    refine mj_all_cons 78 rfl (⟨13, "ListSpeakerModel", mjF9, 46, by decide +kernel, rfl, by decide, mw_982, mjw9⟩) ?_
    refine mj_all_cons 79 rfl (trivial) ?_
    refine mj_all_cons 80 rfl (trivial) ?_
    refine mj_all_cons 81 rfl (Or.inr (Or.inl ⟨by decide +kernel, rfl, by decide⟩)) ?_
    refine mj_all_cons 82 rfl (trivial) ?_
    refine mj_all_cons 83 rfl (Or.inl ⟨0, by decide +kernel, rfl, rfl⟩) ?_
    refine mj_all_cons 84 rfl (⟨92, "ListSpeakerModel", mjF9, 46, by decide +kernel, rfl, by decide, mw_981, mjw9⟩) ?_
    refine mj_all_cons 85 rfl (trivial) ?_
    refine mj_all_cons 86 rfl (trivial) ?_
    refine mj_all_cons 87 rfl (show _ = _ from by decide +kernel) ?_
    refine mj_all_cons 88 rfl (Or.inr ⟨by decide +kernel, rfl⟩) ?_
    refine mj_all_cons 89 rfl (trivial) ?_
    refine mj_all_cons 90 rfl (show _ = _ from by decide +kernel) ?_
    refine mj_all_cons 91 rfl (Or.inr ⟨by decide +kernel, rfl⟩) ?_
    refine mj_all_cons 92 rfl (trivial) ?_
    refine mj_all_cons 93 rfl (show _ = _ from by decide +kernel) ?_
    refine mj_all_cons 94 rfl (show _ = _ from by decide +kernel) ?_
    refine mj_all_cons 95 rfl (Or.inl ⟨0, by decide +kernel, rfl, rfl⟩) ?_
    refine mj_all_cons 96 rfl (⟨16, "ListSpeakerModel", mjF9, 46, by decide +kernel, rfl, by decide, mw_983, mjw9⟩) ?_
    refine mj_all_cons 97 rfl (trivial) ?_
    refine mj_all_cons 98 rfl (trivial) ?_
    refine mj_all_cons 99 rfl (Or.inl ⟨0, by decide +kernel, rfl, rfl⟩) ?_
    refine mj_all_cons 100 rfl (⟨92, "ListSpeakerModel", mjF9, 46, by decide +kernel, rfl, by decide, mw_981, mjw9⟩) ?_
    refine mj_all_cons 101 rfl (trivial) ?_
    refine mj_all_cons 102 rfl (trivial) ?_
    refine mj_all_cons 103 rfl (show _ = _ from by decide +kernel) ?_
    refine mj_all_cons 104 rfl (show _ = _ from by decide +kernel) ?_
    refine mj_all_cons 105 rfl (Or.inr ⟨by decide +kernel, rfl⟩) ?_
    refine mj_all_cons 106 rfl (trivial) ?_
    refine mj_all_cons 107 rfl (show _ = _ from by decide +kernel) ?_
    refine mj_all_cons 108 rfl (trivial) ?_
    refine mj_all_cons 109 rfl (trivial) ?_
    refine mj_all_cons 110 rfl (Or.inl ⟨by decide +kernel, rfl⟩) ?_
    refine mj_all_cons 111 rfl (show _ = _ from by decide +kernel) ?_
    refine mj_all_cons 112 rfl (trivial) ?_
    refine mj_all_cons 113 rfl (trivial) ?_
    refine mj_all_cons 114 rfl (Or.inl ⟨by decide +kernel, rfl⟩) ?_
    refine mj_all_cons 115 rfl (show _ = _ from by decide +kernel) ?_
    refine mj_all_cons 116 rfl (show _ = _ from by decide +kernel) ?_
    refine mj_all_cons 117 rfl (show _ = _ from by decide +kernel) ?_
    refine mj_all_cons 118 rfl (trivial) ?_
    refine mj_all_cons 119 rfl (trivial) ?_
    refine mj_all_cons 120 rfl (show _ = _ from by decide +kernel) ?_
    refine mj_all_cons 121 rfl (trivial) ?_
    refine mj_all_cons 122 rfl (trivial) ?_
    refine mj_all_cons 123 rfl (Or.inl ⟨0, by decide +kernel, rfl, rfl⟩) ?_
    refine mj_all_cons 124 rfl (show _ = _ from by decide +kernel) ?_
    refine mj_all_cons 125 rfl (⟨92, "ListSpeakerModel", mjF9, 46, by decide +kernel, rfl, by decide, mw_981, mjw9⟩) ?_
    refine mj_all_cons 126 rfl (trivial) ?_
    refine mj_all_cons 127 rfl (trivial) ?_
    refine mj_all_cons 128 rfl (Or.inl ⟨by decide +kernel, rfl⟩) ?_
    refine mj_all_cons 129 rfl (show _ = _ from by decide +kernel) ?_
    refine mj_all_cons 130 rfl (⟨92, "ListSpeakerModel", mjF9, 46, mjt9, by decide +kernel, rfl, by decide, mw_981, mjw9, mjk9, mjn9, rfl, by decide +kernel⟩) ?_
    refine mj_all_cons 131 rfl (trivial) ?_
    refine mj_all_cons 132 rfl (trivial) ?_
    refine mj_all_cons 133 rfl (show _ = _ from by decide +kernel) ?_
    exact trivial
  intro pc o ho
  have := mj_all_get _ 0 h pc o ho
  rw [Nat.zero_add] at this
  exact this
set_option maxRecDepth 100000 in
theorem mjmi1 : ∀ (pc : Nat) (o : mj_O), mjmo1[pc]? = some o → mj_is mj_kl mjmM1.1.cls mj_WS mj_NWs mjm_Ms mjmM1.2.1 pc o := by
  have h : mj_all (mj_is mj_kl mjmM1.1.cls mj_WS mj_NWs mjm_Ms mjmM1.2.1) 0 mjmo1 := by
    unfold mjmo1
    refine mj_all_cons 1 rfl (Or.inl ⟨0, by decide +kernel, rfl, rfl⟩) ?_
    refine mj_all_cons 2 rfl (⟨95, "ListSpeakerModel", mjF9, 46, by decide +kernel, rfl, by decide, mw_976, mjw9⟩) ?_
    refine mj_all_cons 3 rfl (trivial) ?_
    refine mj_all_cons 4 rfl (trivial) ?_
    refine mj_all_cons 5 rfl (show _ = _ from by decide +kernel) ?_
    exact trivial
  intro pc o ho
  have := mj_all_get _ 0 h pc o ho
  rw [Nat.zero_add] at this
  exact this
set_option maxRecDepth 100000 in
theorem mjmi2 : ∀ (pc : Nat) (o : mj_O), mjmo2[pc]? = some o → mj_is mj_kl mjmM2.1.cls mj_WS mj_NWs mjm_Ms mjmM2.2.1 pc o := by
  have h : mj_all (mj_is mj_kl mjmM2.1.cls mj_WS mj_NWs mjm_Ms mjmM2.2.1) 0 mjmo2 := by
    unfold mjmo2
    refine mj_all_cons 1 rfl (Or.inl ⟨0, by decide +kernel, rfl, rfl⟩) ?_
    refine mj_all_cons 2 rfl (⟨98, "ListSpeakerModel", mjF9, 46, by decide +kernel, rfl, by decide, mw_980, mjw9⟩) ?_
    refine mj_all_cons 3 rfl (trivial) ?_
    refine mj_all_cons 4 rfl (trivial) ?_
    refine mj_all_cons 5 rfl (show _ = _ from by decide +kernel) ?_
    refine mj_all_cons 6 rfl (trivial) ?_
    refine mj_all_cons 7 rfl (trivial) ?_
    refine mj_all_cons 8 rfl (Or.inl ⟨0, by decide +kernel, rfl, rfl⟩) ?_
    refine mj_all_cons 9 rfl (Or.inl ⟨1, by decide +kernel, rfl, rfl⟩) ?_
    refine mj_all_cons 10 rfl (⟨98, "ListSpeakerModel", mjF9, 46, mjt9, by decide +kernel, rfl, by decide, mw_980, mjw9, mjk9, mjn9, rfl, by decide +kernel⟩) ?_
    refine mj_all_cons 11 rfl (trivial) ?_
    refine mj_all_cons 12 rfl (trivial) ?_
    refine mj_all_cons 13 rfl (Or.inr (Or.inr (Or.inr (Or.inl ⟨101, by decide +kernel, rfl, mw_1150⟩)))) ?_
    refine mj_all_cons 14 rfl (trivial) ?_
    refine mj_all_cons 15 rfl (show _ = _ from by decide +kernel) ?_
    exact trivial
  intro pc o ho
  have := mj_all_get _ 0 h pc o ho
  rw [Nat.zero_add] at this
  exact this
set_option maxRecDepth 100000 in
theorem mjmi3 : ∀ (pc : Nat) (o : mj_O), mjmo3[pc]? = some o → mj_is mj_kl mjmM3.1.cls mj_WS mj_NWs mjm_Ms mjmM3.2.1 pc o := by
  have h : mj_all (mj_is mj_kl mjmM3.1.cls mj_WS mj_NWs mjm_Ms mjmM3.2.1) 0 mjmo3 := by
    unfold mjmo3
    refine mj_all_cons 1 rfl (Or.inl ⟨0, by decide +kernel, rfl, rfl⟩) ?_
    refine mj_all_cons 2 rfl (Or.inr (Or.inr (Or.inr (Or.inl ⟨102, by decide +kernel, rfl, mw_1192⟩)))) ?_
    refine mj_all_cons 3 rfl (trivial) ?_
    refine mj_all_cons 4 rfl (show _ = _ from by decide +kernel) ?_
    refine mj_all_cons 5 rfl (trivial) ?_
    refine mj_all_cons 6 rfl (trivial) ?_
    refine mj_all_cons 7 rfl (Or.inl ⟨by decide +kernel, rfl⟩) ?_
    refine mj_all_cons 8 rfl (show _ = _ from by decide +kernel) ?_
    refine mj_all_cons 9 rfl (trivial) ?_
    refine mj_all_cons 10 rfl (trivial) ?_
    refine mj_all_cons 11 rfl (Or.inl ⟨by decide +kernel, rfl⟩) ?_
    refine mj_all_cons 12 rfl (show _ = _ from by decide +kernel) ?_
    exact trivial
  intro pc o ho
  have := mj_all_get _ 0 h pc o ho
  rw [Nat.zero_add] at this
  exact this
set_option maxRecDepth 100000 in
theorem mjmi4 : ∀ (pc : Nat) (o : mj_O), mjmo4[pc]? = some o → mj_is mj_kl mjmM4.1.cls mj_WS mj_NWs mjm_Ms mjmM4.2.1 pc o := by
  have h : mj_all (mj_is mj_kl mjmM4.1.cls mj_WS mj_NWs mjm_Ms mjmM4.2.1) 0 mjmo4 := by
    unfold mjmo4
    refine mj_all_cons 1 rfl (Or.inl ⟨0, by decide +kernel, rfl, rfl⟩) ?_
    refine mj_all_cons 2 rfl (Or.inr (Or.inr (Or.inr (Or.inl ⟨101, by decide +kernel, rfl, mw_1150⟩)))) ?_
    refine mj_all_cons 3 rfl (trivial) ?_
    refine mj_all_cons 4 rfl (show _ = _ from by decide +kernel) ?_
    refine mj_all_cons 5 rfl (trivial) ?_
    refine mj_all_cons 6 rfl (trivial) ?_
    refine mj_all_cons 7 rfl (Or.inl ⟨0, by decide +kernel, rfl, rfl⟩) ?_
    refine mj_all_cons 8 rfl (Or.inr (Or.inr (Or.inr (Or.inl ⟨102, by decide +kernel, rfl, mw_1192⟩)))) ?_
    refine mj_all_cons 9 rfl (trivial) ?_
    refine mj_all_cons 10 rfl (show _ = _ from by decide +kernel) ?_
    refine mj_all_cons 11 rfl (trivial) ?_
    refine mj_all_cons 12 rfl (trivial) ?_
    refine mj_all_cons 13 rfl (Or.inl ⟨by decide +kernel, rfl⟩) ?_
    refine mj_all_cons 14 rfl (show _ = _ from by decide +kernel) ?_
    refine mj_all_cons 15 rfl (trivial) ?_
    refine mj_all_cons 16 rfl (trivial) ?_
    refine mj_all_cons 17 rfl (Or.inl ⟨by decide +kernel, rfl⟩) ?_
    refine mj_all_cons 18 rfl (show _ = _ from by decide +kernel) ?_
    exact trivial
  intro pc o ho
  have := mj_all_get _ 0 h pc o ho
  rw [Nat.zero_add] at this
  exact this
set_option maxRecDepth 100000 in
theorem mjmi5 : ∀ (pc : Nat) (o : mj_O), mjmo5[pc]? = some o → mj_is mj_kl mjmM5.1.cls mj_WS mj_NWs mjm_Ms mjmM5.2.1 pc o := by
  have h : mj_all (mj_is mj_kl mjmM5.1.cls mj_WS mj_NWs mjm_Ms mjmM5.2.1) 0 mjmo5 := by
    unfold mjmo5
    refine mj_all_cons 1 rfl (Or.inl ⟨0, by decide +kernel, rfl, rfl⟩) ?_
    refine mj_all_cons 2 rfl (⟨20, "ListSpeakerModel", mjF9, 46, by decide +kernel, rfl, by decide, mw_984, mjw9⟩) ?_
    refine mj_all_cons 3 rfl (trivial) ?_
    refine mj_all_cons 4 rfl (trivial) ?_
    refine mj_all_cons 5 rfl (Or.inl ⟨1, by decide +kernel, rfl, rfl⟩) ?_
    refine mj_all_cons 6 rfl (Or.inr (Or.inr (Or.inr (Or.inl ⟨102, by decide +kernel, rfl, mw_1192⟩)))) ?_
    refine mj_all_cons 7 rfl (trivial) ?_
    refine mj_all_cons 8 rfl (show _ = _ from by decide +kernel) ?_
    refine mj_all_cons 9 rfl (show _ = _ from by decide +kernel) ?_
    refine mj_all_cons 10 rfl (show _ = _ from by decide +kernel) ?_
    exact trivial
  intro pc o ho
  have := mj_all_get _ 0 h pc o ho
  rw [Nat.zero_add] at this
  exact this
set_option maxRecDepth 100000 in
theorem mjmi6 : ∀ (pc : Nat) (o : mj_O), mjmo6[pc]? = some o → mj_is mj_kl mjmM6.1.cls mj_WS mj_NWs mjm_Ms mjmM6.2.1 pc o := by
  have h : mj_all (mj_is mj_kl mjmM6.1.cls mj_WS mj_NWs mjm_Ms mjmM6.2.1) 0 mjmo6 := by
    unfold mjmo6
    refine mj_all_cons 1 rfl (Or.inl ⟨0, by decide +kernel, rfl, rfl⟩) ?_
    refine mj_all_cons 2 rfl (⟨23, "ListSpeakerModel", mjF9, 46, by decide +kernel, rfl, by decide, mw_985, mjw9⟩) ?_
    refine mj_all_cons 3 rfl (trivial) ?_
    refine mj_all_cons 4 rfl (trivial) ?_
    refine mj_all_cons 5 rfl (Or.inl ⟨1, by decide +kernel, rfl, rfl⟩) ?_
    refine mj_all_cons 6 rfl (Or.inr (Or.inr (Or.inr (Or.inl ⟨102, by decide +kernel, rfl, mw_1192⟩)))) ?_
    refine mj_all_cons 7 rfl (trivial) ?_
    refine mj_all_cons 8 rfl (show _ = _ from by decide +kernel) ?_
    refine mj_all_cons 9 rfl (show _ = _ from by decide +kernel) ?_
    refine mj_all_cons 10 rfl (show _ = _ from by decide +kernel) ?_
    exact trivial
  intro pc o ho
  have := mj_all_get _ 0 h pc o ho
  rw [Nat.zero_add] at this
  exact this
set_option maxRecDepth 100000 in
theorem mjmi7 : ∀ (pc : Nat) (o : mj_O), mjmo7[pc]? = some o → mj_is mj_kl mjmM7.1.cls mj_WS mj_NWs mjm_Ms mjmM7.2.1 pc o := by
  have h : mj_all (mj_is mj_kl mjmM7.1.cls mj_WS mj_NWs mjm_Ms mjmM7.2.1) 0 mjmo7 := by
    unfold mjmo7
    refine mj_all_cons 1 rfl (Or.inl ⟨by decide +kernel, rfl⟩) ?_
    refine mj_all_cons 2 rfl (Or.inl ⟨2, by decide +kernel, rfl, rfl⟩) ?_
    refine mj_all_cons 3 rfl (Or.inl ⟨1, by decide +kernel, rfl, rfl⟩) ?_
    refine mj_all_cons 4 rfl (Or.inl ⟨3, by decide +kernel, rfl, rfl⟩) ?_
    refine mj_all_cons 5 rfl (Or.inl ⟨3, by decide +kernel, rfl, rfl⟩) ?_
    refine mj_all_cons 6 rfl (⟨mjmM3, 103, 1, rfl, by decide, mjmd3, mw_16, Or.inr (Or.inl ⟨by decide +kernel, rfl, rfl, mw_1194, mw_1195⟩)⟩) ?_
    refine mj_all_cons 7 rfl (trivial) ?_
    refine mj_all_cons 8 rfl (trivial) ?_
    refine mj_all_cons 9 rfl (show _ = _ from by decide +kernel) ?_
    refine mj_all_cons 10 rfl (trivial) ?_
    refine mj_all_cons 11 rfl (trivial) ?_
    refine mj_all_cons 12 rfl (show _ = _ from by decide +kernel) ?_
    refine mj_all_cons 13 rfl (trivial) ?_
    refine mj_all_cons 14 rfl (trivial) ?_
    refine mj_all_cons 15 rfl (Or.inl ⟨0, by decide +kernel, rfl, rfl⟩) ?_
    refine mj_all_cons 16 rfl (Or.inl ⟨3, by decide +kernel, rfl, rfl⟩) ?_
    refine mj_all_cons 17 rfl (⟨mjmM6, 107, 1, rfl, by decide, mjmd6, mw_16, Or.inl ⟨9, mjF9, 46, by decide +kernel, rfl, rfl, rfl, mw_1210, mw_1212, mjsel_77⟩⟩) ?_
    refine mj_all_cons 18 rfl (trivial) ?_
    refine mj_all_cons 19 rfl (trivial) ?_
    refine mj_all_cons 20 rfl (Or.inl ⟨3, by decide +kernel, rfl, rfl⟩) ?_
    refine mj_all_cons 21 rfl (show _ = _ from by decide +kernel) ?_
    refine mj_all_cons 22 rfl (trivial) ?_
    refine mj_all_cons 23 rfl (trivial) ?_
    refine mj_all_cons 24 rfl (Or.inl ⟨3, by decide +kernel, rfl, rfl⟩) ?_
    refine mj_all_cons 25 rfl (Or.inr (Or.inr (Or.inr (Or.inl ⟨101, by decide +kernel, rfl, mw_1150⟩)))) ?_
    refine mj_all_cons 26 rfl (trivial) ?_
    refine mj_all_cons 27 rfl (show _ = _ from by decide +kernel) ?_
    refine mj_all_cons 28 rfl (trivial) ?_
    refine mj_all_cons 29 rfl (trivial) ?_
    refine mj_all_cons 30 rfl (Or.inl ⟨2, by decide +kernel, rfl, rfl⟩) ?_
    refine mj_all_cons 31 rfl (show _ = _ from by decide +kernel) ?_
    refine mj_all_cons 32 rfl (trivial) ?_
    refine mj_all_cons 33 rfl (trivial) ?_
    refine mj_all_cons 34 rfl (Or.inl ⟨by decide +kernel, rfl⟩) ?_
    refine mj_all_cons 35 rfl (show _ = _ from by decide +kernel) ?_
    exact trivial
  intro pc o ho
  have := mj_all_get _ 0 h pc o ho
  rw [Nat.zero_add] at this
  exact this
set_option maxRecDepth 100000 in
theorem mjmi8 : ∀ (pc : Nat) (o : mj_O), mjmo8[pc]? = some o → mj_is mj_kl mjmM8.1.cls mj_WS mj_NWs mjm_Ms mjmM8.2.1 pc o := by
  have h : mj_all (mj_is mj_kl mjmM8.1.cls mj_WS mj_NWs mjm_Ms mjmM8.2.1) 0 mjmo8 := by
    unfold mjmo8
    refine mj_all_cons 1 rfl (Or.inl ⟨1, by decide +kernel, rfl, rfl⟩) ?_
    refine mj_all_cons 2 rfl (Or.inl ⟨3, by decide +kernel, rfl, rfl⟩) ?_
    refine mj_all_cons 3 rfl (Or.inl ⟨by decide +kernel, rfl⟩) ?_
    refine mj_all_cons 4 rfl (Or.inr ⟨by decide +kernel, rfl⟩) ?_
    refine mj_all_cons 5 rfl (trivial) ?_
    refine mj_all_cons 6 rfl (Or.inr ⟨by decide +kernel, rfl⟩) ?_
    refine mj_all_cons 7 rfl (trivial) ?_
    refine mj_all_cons 8 rfl (Or.inl ⟨2, by decide +kernel, rfl, rfl⟩) ?_
    refine mj_all_cons 9 rfl (show _ = _ from by decide +kernel) ?_
    refine mj_all_cons 10 rfl (trivial) ?_
    refine mj_all_cons 11 rfl (trivial) ?_
    refine mj_all_cons 12 rfl (Or.inl ⟨0, by decide +kernel, rfl, rfl⟩) ?_
    refine mj_all_cons 13 rfl (Or.inl ⟨3, by decide +kernel, rfl, rfl⟩) ?_
    refine mj_all_cons 14 rfl (⟨mjmM6, 107, 1, rfl, by decide, mjmd6, mw_16, Or.inl ⟨9, mjF9, 46, by decide +kernel, rfl, rfl, rfl, mw_1210, mw_1212, mjsel_77⟩⟩) ?_
    refine mj_all_cons 15 rfl (trivial) ?_
    refine mj_all_cons 16 rfl (trivial) ?_
    refine mj_all_cons 17 rfl (Or.inl ⟨3, by decide +kernel, rfl, rfl⟩) ?_
    refine mj_all_cons 18 rfl (show _ = _ from by decide +kernel) ?_
    refine mj_all_cons 19 rfl (trivial) ?_
    refine mj_all_cons 20 rfl (trivial) ?_
    refine mj_all_cons 21 rfl (show _ = _ from by decide +kernel) ?_
    refine mj_all_cons 22 rfl (trivial) ?_
    refine mj_all_cons 23 rfl (trivial) ?_
    refine mj_all_cons 24 rfl (Or.inl ⟨0, by decide +kernel, rfl, rfl⟩) ?_
    refine mj_all_cons 25 rfl (Or.inl ⟨3, by decide +kernel, rfl, rfl⟩) ?_
    refine mj_all_cons 26 rfl (⟨mjmM5, 111, 1, rfl, by decide, mjmd5, mw_16, Or.inl ⟨9, mjF9, 46, by decide +kernel, rfl, rfl, rfl, mw_1197, mw_1199, mjsel_74⟩⟩) ?_
    refine mj_all_cons 27 rfl (trivial) ?_
    refine mj_all_cons 28 rfl (trivial) ?_
    refine mj_all_cons 29 rfl (show _ = _ from by decide +kernel) ?_
    exact trivial
  intro pc o ho
  have := mj_all_get _ 0 h pc o ho
  rw [Nat.zero_add] at this
  exact this
set_option maxRecDepth 100000 in
theorem mjmi9 : ∀ (pc : Nat) (o : mj_O), mjmo9[pc]? = some o → mj_is mj_kl mjmM9.1.cls mj_WS mj_NWs mjm_Ms mjmM9.2.1 pc o := by
  have h : mj_all (mj_is mj_kl mjmM9.1.cls mj_WS mj_NWs mjm_Ms mjmM9.2.1) 0 mjmo9 := by
    unfold mjmo9
    refine mj_all_cons 1 rfl (Or.inl ⟨0, by decide +kernel, rfl, rfl⟩) ?_
    refine mj_all_cons 2 rfl (Or.inl ⟨by decide +kernel, rfl⟩) ?_
    refine mj_all_cons 3 rfl (⟨95, "ListSpeakerModel", mjF9, 46, mjt9, by decide +kernel, rfl, by decide, mw_976, mjw9, mjk9, mjn9, rfl, by decide +kernel⟩) ?_
    refine mj_all_cons 4 rfl (trivial) ?_
    refine mj_all_cons 5 rfl (trivial) ?_
    refine mj_all_cons 6 rfl (Or.inl ⟨0, by decide +kernel, rfl, rfl⟩) ?_
    refine mj_all_cons 7 rfl (⟨113, "ListSpeakerModel", mjF9, 46, by decide +kernel, rfl, by decide, mw_977, mjw9⟩) ?_
    refine mj_all_cons 8 rfl (trivial) ?_
    refine mj_all_cons 9 rfl (trivial) ?_
    refine mj_all_cons 10 rfl (Or.inr (Or.inr (Or.inl ⟨by decide +kernel, rfl, by decide⟩))) ?_
    refine mj_all_cons 11 rfl (trivial) ?_
    refine mj_all_cons 12 rfl (trivial) ?_
    refine mj_all_cons 13 rfl (show _ = _ from by decide +kernel) ?_
    refine mj_all_cons 14 rfl (trivial) ?_
    refine mj_all_cons 15 rfl (trivial) ?_
    refine mj_all_cons 16 rfl (Or.inl ⟨by decide +kernel, rfl⟩) ?_
    refine mj_all_cons 17 rfl (show _ = _ from by decide +kernel) ?_
    refine mj_all_cons 18 rfl (Or.inl ⟨0, by decide +kernel, rfl, rfl⟩) ?_
    refine mj_all_cons 19 rfl (⟨9, "ListSpeakerModel", mjF9, 46, by decide +kernel, rfl, by decide, mw_978, mjw9⟩) ?_
    refine mj_all_cons 20 rfl (trivial) ?_
    refine mj_all_cons 21 rfl (trivial) ?_
    refine mj_all_cons 22 rfl (Or.inl ⟨0, by decide +kernel, rfl, rfl⟩) ?_
    refine mj_all_cons 23 rfl (⟨113, "ListSpeakerModel", mjF9, 46, by decide +kernel, rfl, by decide, mw_977, mjw9⟩) ?_
    refine mj_all_cons 24 rfl (trivial) ?_
    refine mj_all_cons 25 rfl (trivial) ?_
    refine mj_all_cons 26 rfl (Or.inl ⟨1, by decide +kernel, rfl, rfl⟩) ?_
    refine mj_all_cons 27 rfl (show _ = _ from by decide +kernel) ?_
    refine mj_all_cons 28 rfl (Or.inl ⟨0, by decide +kernel, rfl, rfl⟩) ?_
    refine mj_all_cons 29 rfl (show _ = _ from by decide +kernel) ?_
    refine mj_all_cons 30 rfl (⟨113, "ListSpeakerModel", mjF9, 46, by decide +kernel, rfl, by decide, mw_977, mjw9⟩) ?_
    refine mj_all_cons 31 rfl (trivial) ?_
    refine mj_all_cons 32 rfl (trivial) ?_
    refine mj_all_cons 33 rfl (Or.inl ⟨by decide +kernel, rfl⟩) ?_
    refine mj_all_cons 34 rfl (show _ = _ from by decide +kernel) ?_
    refine mj_all_cons 35 rfl (⟨113, "ListSpeakerModel", mjF9, 46, mjt9, by decide +kernel, rfl, by decide, mw_977, mjw9, mjk9, mjn9, rfl, by decide +kernel⟩) ?_
    refine mj_all_cons 36 rfl (trivial) ?_
    refine mj_all_cons 37 rfl (trivial) ?_
    refine mj_all_cons 38 rfl (Or.inl ⟨by decide +kernel, rfl⟩) ?_
    refine mj_all_cons 39 rfl (show _ = _ from by decide +kernel) ?_
    exact trivial
  intro pc o ho
  have := mj_all_get _ 0 h pc o ho
  rw [Nat.zero_add] at this
  exact this
set_option maxRecDepth 100000 in
theorem mjmi10 : ∀ (pc : Nat) (o : mj_O), mjmo10[pc]? = some o → mj_is mj_kl mjmM10.1.cls mj_WS mj_NWs mjm_Ms mjmM10.2.1 pc o := by
  have h : mj_all (mj_is mj_kl mjmM10.1.cls mj_WS mj_NWs mjm_Ms mjmM10.2.1) 0 mjmo10 := by
    unfold mjmo10
    refine mj_all_cons 1 rfl (Or.inl ⟨0, by decide +kernel, rfl, rfl⟩) ?_
    refine mj_all_cons 2 rfl (Or.inl ⟨by decide +kernel, rfl⟩) ?_
    refine mj_all_cons 3 rfl (⟨95, "ListSpeakerModel", mjF9, 46, mjt9, by decide +kernel, rfl, by decide, mw_976, mjw9, mjk9, mjn9, rfl, by decide +kernel⟩) ?_
    refine mj_all_cons 4 rfl (trivial) ?_
    refine mj_all_cons 5 rfl (trivial) ?_
    refine mj_all_cons 6 rfl (Or.inl ⟨0, by decide +kernel, rfl, rfl⟩) ?_
    refine mj_all_cons 7 rfl (⟨113, "ListSpeakerModel", mjF9, 46, by decide +kernel, rfl, by decide, mw_977, mjw9⟩) ?_
    refine mj_all_cons 8 rfl (trivial) ?_
    refine mj_all_cons 9 rfl (trivial) ?_
    refine mj_all_cons 10 rfl (Or.inl ⟨1, by decide +kernel, rfl, rfl⟩) ?_
    refine mj_all_cons 11 rfl (Or.inl ⟨0, by decide +kernel, rfl, rfl⟩) ?_
    refine mj_all_cons 12 rfl (Or.inl ⟨by decide +kernel, rfl⟩) ?_
    refine mj_all_cons 13 rfl (⟨113, "ListSpeakerModel", mjF9, 46, mjt9, by decide +kernel, rfl, by decide, mw_977, mjw9, mjk9, mjn9, rfl, by decide +kernel⟩) ?_
    refine mj_all_cons 14 rfl (trivial) ?_
    refine mj_all_cons 15 rfl (trivial) ?_
    refine mj_all_cons 16 rfl (Or.inl ⟨1, by decide +kernel, rfl, rfl⟩) ?_
    refine mj_all_cons 17 rfl (show _ = _ from by decide +kernel) ?_
    exact trivial
  intro pc o ho
  have := mj_all_get _ 0 h pc o ho
  rw [Nat.zero_add] at this
  exact this
set_option maxRecDepth 100000 in
theorem mjmi11 : ∀ (pc : Nat) (o : mj_O), mjmo11[pc]? = some o → mj_is mj_kl mjmM11.1.cls mj_WS mj_NWs mjm_Ms mjmM11.2.1 pc o := by
  have h : mj_all (mj_is mj_kl mjmM11.1.cls mj_WS mj_NWs mjm_Ms mjmM11.2.1) 0 mjmo11 := by
    unfold mjmo11
    refine mj_all_cons 1 rfl (Or.inl ⟨0, by decide +kernel, rfl, rfl⟩) ?_
    refine mj_all_cons 2 rfl (⟨116, "ListSpeakerModel", mjF9, 46, by decide +kernel, rfl, by decide, mw_979, mjw9⟩) ?_
    refine mj_all_cons 3 rfl (trivial) ?_
    refine mj_all_cons 4 rfl (trivial) ?_
    refine mj_all_cons 5 rfl (Or.inl ⟨0, by decide +kernel, rfl, rfl⟩) ?_
    refine mj_all_cons 6 rfl (⟨113, "ListSpeakerModel", mjF9, 46, by decide +kernel, rfl, by decide, mw_977, mjw9⟩) ?_
    refine mj_all_cons 7 rfl (trivial) ?_
    refine mj_all_cons 8 rfl (trivial) ?_
    refine mj_all_cons 9 rfl (show _ = _ from by decide +kernel) ?_
    refine mj_all_cons 10 rfl (trivial) ?_
    refine mj_all_cons 11 rfl (trivial) ?_
    refine mj_all_cons 12 rfl (Or.inl ⟨0, by decide +kernel, rfl, rfl⟩) ?_
    refine mj_all_cons 13 rfl (⟨9, "ListSpeakerModel", mjF9, 46, by decide +kernel, rfl, by decide, mw_978, mjw9⟩) ?_
    refine mj_all_cons 14 rfl (trivial) ?_
    refine mj_all_cons 15 rfl (trivial) ?_
    refine mj_all_cons 16 rfl (Or.inl ⟨0, by decide +kernel, rfl, rfl⟩) ?_
    refine mj_all_cons 17 rfl (⟨116, "ListSpeakerModel", mjF9, 46, by decide +kernel, rfl, by decide, mw_979, mjw9⟩) ?_
    refine mj_all_cons 18 rfl (trivial) ?_
    refine mj_all_cons 19 rfl (trivial) ?_
    refine mj_all_cons 20 rfl (show _ = _ from by decide +kernel) ?_
    refine mj_all_cons 21 rfl (show _ = _ from by decide +kernel) ?_
    refine mj_all_cons 22 rfl (trivial) ?_
    refine mj_all_cons 23 rfl (trivial) ?_
    refine mj_all_cons 24 rfl (Or.inl ⟨by decide +kernel, rfl⟩) ?_
    refine mj_all_cons 25 rfl (show _ = _ from by decide +kernel) ?_
    exact trivial
  intro pc o ho
  have := mj_all_get _ 0 h pc o ho
  rw [Nat.zero_add] at this
  exact this
set_option maxRecDepth 100000 in
theorem mjmi12 : ∀ (pc : Nat) (o : mj_O), mjmo12[pc]? = some o → mj_is mj_kl mjmM12.1.cls mj_WS mj_NWs mjm_Ms mjmM12.2.1 pc o := by
  have h : mj_all (mj_is mj_kl mjmM12.1.cls mj_WS mj_NWs mjm_Ms mjmM12.2.1) 0 mjmo12 := by
    unfold mjmo12
    refine mj_all_cons 1 rfl (Or.inl ⟨by decide +kernel, rfl⟩) ?_
    refine mj_all_cons 2 rfl (Or.inl ⟨1, by decide +kernel, rfl, rfl⟩) ?_
    refine mj_all_cons 3 rfl (Or.inl ⟨1, by decide +kernel, rfl, rfl⟩) ?_
    refine mj_all_cons 4 rfl (show _ = _ from by decide +kernel) ?_
    refine mj_all_cons 5 rfl (trivial) ?_
    refine mj_all_cons 6 rfl (trivial) ?_
    refine mj_all_cons 7 rfl (Or.inl ⟨0, by decide +kernel, rfl, rfl⟩) ?_
    refine mj_all_cons 8 rfl (⟨mjmM11, 119, 0, rfl, by decide, mjmd11, mw_16, Or.inl ⟨9, mjF9, 46, by decide +kernel, rfl, rfl, rfl, mw_1134, mw_1136, mjsel_62⟩⟩) ?_
    refine mj_all_cons 9 rfl (trivial) ?_
    refine mj_all_cons 10 rfl (trivial) ?_
    refine mj_all_cons 11 rfl (Or.inr (Or.inl ⟨by decide +kernel, rfl, by decide⟩)) ?_
    refine mj_all_cons 12 rfl (trivial) ?_
    refine mj_all_cons 13 rfl (show _ = _ from by decide +kernel) ?_
    refine mj_all_cons 14 rfl (trivial) ?_
    refine mj_all_cons 15 rfl (trivial) ?_
    refine mj_all_cons 16 rfl (Or.inl ⟨0, by decide +kernel, rfl, rfl⟩) ?_
    refine mj_all_cons 17 rfl (⟨mjmM11, 119, 0, rfl, by decide, mjmd11, mw_16, Or.inl ⟨9, mjF9, 46, by decide +kernel, rfl, rfl, rfl, mw_1134, mw_1136, mjsel_62⟩⟩) ?_
    refine mj_all_cons 18 rfl (trivial) ?_
    refine mj_all_cons 19 rfl (trivial) ?_
    refine mj_all_cons 20 rfl (Or.inr (Or.inl ⟨by decide +kernel, rfl, by decide⟩)) ?_
    refine mj_all_cons 21 rfl (trivial) ?_
    refine mj_all_cons 22 rfl (show _ = _ from by decide +kernel) ?_
    refine mj_all_cons 23 rfl (trivial) ?_
    refine mj_all_cons 24 rfl (trivial) ?_
    refine mj_all_cons 25 rfl (Or.inl ⟨0, by decide +kernel, rfl, rfl⟩) ?_
    refine mj_all_cons 26 rfl (⟨mjmM11, 119, 0, rfl, by decide, mjmd11, mw_16, Or.inl ⟨9, mjF9, 46, by decide +kernel, rfl, rfl, rfl, mw_1134, mw_1136, mjsel_62⟩⟩) ?_
    refine mj_all_cons 27 rfl (trivial) ?_
    refine mj_all_cons 28 rfl (trivial) ?_
    refine mj_all_cons 29 rfl (Or.inr (Or.inl ⟨by decide +kernel, rfl, by decide⟩)) ?_
    refine mj_all_cons 30 rfl (trivial) ?_
    refine mj_all_cons 31 rfl (show _ = _ from by decide +kernel) ?_
    refine mj_all_cons 32 rfl (trivial) ?_
    refine mj_all_cons 33 rfl (trivial) ?_
    refine mj_all_cons 34 rfl (Or.inl ⟨by decide +kernel, rfl⟩) ?_
    refine mj_all_cons 35 rfl (show _ = _ from by decide +kernel) ?_
    refine mj_all_cons 36 rfl (trivial) ?_
    refine mj_all_cons 37 rfl (trivial) ?_
    refine mj_all_cons 38 rfl (Or.inl ⟨by decide +kernel, rfl⟩) ?_
    refine mj_all_cons 39 rfl (Or.inl ⟨1, by decide +kernel, rfl, rfl⟩) ?_
    refine mj_all_cons 40 rfl (Or.inl ⟨0, by decide +kernel, rfl, rfl⟩) ?_
    refine mj_all_cons 41 rfl (⟨mjmM11, 119, 0, rfl, by decide, mjmd11, mw_16, Or.inl ⟨9, mjF9, 46, by decide +kernel, rfl, rfl, rfl, mw_1134, mw_1136, mjsel_62⟩⟩) ?_
    refine mj_all_cons 42 rfl (trivial) ?_
    refine mj_all_cons 43 rfl (trivial) ?_
    refine mj_all_cons 44 rfl (Or.inr (Or.inl ⟨by decide +kernel, rfl, by decide⟩)) ?_
    refine mj_all_cons 45 rfl (trivial) ?_
    refine mj_all_cons 46 rfl (show _ = _ from by decide +kernel) ?_
    refine mj_all_cons 47 rfl (trivial) ?_
    refine mj_all_cons 48 rfl (trivial) ?_
    refine mj_all_cons 49 rfl (Or.inl ⟨0, by decide +kernel, rfl, rfl⟩) ?_
    refine mj_all_cons 50 rfl (⟨mjmM11, 119, 0, rfl, by decide, mjmd11, mw_16, Or.inl ⟨9, mjF9, 46, by decide +kernel, rfl, rfl, rfl, mw_1134, mw_1136, mjsel_62⟩⟩) ?_
    refine mj_all_cons 51 rfl (trivial) ?_
    refine mj_all_cons 52 rfl (trivial) ?_
    refine mj_all_cons 53 rfl (show _ = _ from by decide +kernel) ?_
    refine mj_all_cons 54 rfl (trivial) ?_
    refine mj_all_cons 55 rfl (trivial) ?_
    refine mj_all_cons 56 rfl (Or.inl ⟨0, by decide +kernel, rfl, rfl⟩) ?_
    refine mj_all_cons 57 rfl (⟨mjmM11, 119, 0, rfl, by decide, mjmd11, mw_16, Or.inl ⟨9, mjF9, 46, by decide +kernel, rfl, rfl, rfl, mw_1134, mw_1136, mjsel_62⟩⟩) ?_
    refine mj_all_cons 58 rfl (trivial) ?_
    refine mj_all_cons 59 rfl (trivial) ?_
    refine mj_all_cons 60 rfl (Or.inr (Or.inl ⟨by decide +kernel, rfl, by decide⟩)) ?_
    refine mj_all_cons 61 rfl (trivial) ?_
    refine mj_all_cons 62 rfl (show _ = _ from by decide +kernel) ?_
    refine mj_all_cons 63 rfl (trivial) ?_
    refine mj_all_cons 64 rfl (trivial) ?_
    refine mj_all_cons 65 rfl (Or.inl ⟨0, by decide +kernel, rfl, rfl⟩) ?_
    refine mj_all_cons 66 rfl (show _ = _ from by decide +kernel) ?_
    refine mj_all_cons 67 rfl (⟨116, "ListSpeakerModel", mjF9, 46, by decide +kernel, rfl, by decide, mw_979, mjw9⟩) ?_
    refine mj_all_cons 68 rfl (trivial) ?_
    refine mj_all_cons 69 rfl (trivial) ?_
    refine mj_all_cons 70 rfl (Or.inl ⟨by decide +kernel, rfl⟩) ?_
    refine mj_all_cons 71 rfl (show _ = _ from by decide +kernel) ?_
    refine mj_all_cons 72 rfl (⟨116, "ListSpeakerModel", mjF9, 46, mjt9, by decide +kernel, rfl, by decide, mw_979, mjw9, mjk9, mjn9, rfl, by decide +kernel⟩) ?_
    refine mj_all_cons 73 rfl (trivial) ?_
    refine mj_all_cons 74 rfl (trivial) ?_
    refine mj_all_cons 75 rfl (show _ = _ from by decide +kernel) ?_
    refine mj_all_cons 76 rfl (trivial) ?_
    refine mj_all_cons 77 rfl (trivial) ?_
    refine mj_all_cons 78 rfl (Or.inl ⟨1, by decide +kernel, rfl, rfl⟩) ?_
    refine mj_all_cons 79 rfl (show _ = _ from by decide +kernel) ?_
    refine mj_all_cons 80 rfl (trivial) ?_
    refine mj_all_cons 81 rfl (trivial) ?_
    refine mj_all_cons 82 rfl (Or.inl ⟨0, by decide +kernel, rfl, rfl⟩) ?_
    refine mj_all_cons 83 rfl (show _ = _ from by decide +kernel) ?_
    refine mj_all_cons 84 rfl (⟨116, "ListSpeakerModel", mjF9, 46, by decide +kernel, rfl, by decide, mw_979, mjw9⟩) ?_
    refine mj_all_cons 85 rfl (trivial) ?_
    refine mj_all_cons 86 rfl (trivial) ?_
    refine mj_all_cons 87 rfl (Or.inl ⟨by decide +kernel, rfl⟩) ?_
    refine mj_all_cons 88 rfl (show _ = _ from by decide +kernel) ?_
    refine mj_all_cons 89 rfl (⟨116, "ListSpeakerModel", mjF9, 46, mjt9, by decide +kernel, rfl, by decide, mw_979, mjw9, mjk9, mjn9, rfl, by decide +kernel⟩) ?_
    refine mj_all_cons 90 rfl (trivial) ?_
    refine mj_all_cons 91 rfl (trivial) ?_
    refine mj_all_cons 92 rfl (show _ = _ from by decide +kernel) ?_
    refine mj_all_cons 93 rfl (trivial) ?_
    refine mj_all_cons 94 rfl (trivial) ?_
    refine mj_all_cons 95 rfl (show _ = _ from by decide +kernel) ?_
    exact trivial
  intro pc o ho
  have := mj_all_get _ 0 h pc o ho
  rw [Nat.zero_add] at this
  exact this
set_option maxRecDepth 100000 in
theorem mjmi13 : ∀ (pc : Nat) (o : mj_O), mjmo13[pc]? = some o → mj_is mj_kl mjmM13.1.cls mj_WS mj_NWs mjm_Ms mjmM13.2.1 pc o := by
  have h : mj_all (mj_is mj_kl mjmM13.1.cls mj_WS mj_NWs mjm_Ms mjmM13.2.1) 0 mjmo13 := by
    unfold mjmo13
    refine mj_all_cons 1 rfl (Or.inl ⟨1, by decide +kernel, rfl, rfl⟩) ?_
    refine mj_all_cons 2 rfl (show _ = _ from by decide +kernel) ?_
    refine mj_all_cons 3 rfl (trivial) ?_
    refine mj_all_cons 4 rfl (trivial) ?_
    refine mj_all_cons 5 rfl (Or.inl ⟨1, by decide +kernel, rfl, rfl⟩) ?_
    refine mj_all_cons 6 rfl (Or.inr (Or.inl ⟨by decide +kernel, rfl, by decide⟩)) ?_
    refine mj_all_cons 7 rfl (trivial) ?_
    refine mj_all_cons 8 rfl (show _ = _ from by decide +kernel) ?_
    refine mj_all_cons 9 rfl (trivial) ?_
    refine mj_all_cons 10 rfl (trivial) ?_
    refine mj_all_cons 11 rfl (Or.inl ⟨1, by decide +kernel, rfl, rfl⟩) ?_
    refine mj_all_cons 12 rfl (Or.inr (Or.inl ⟨by decide +kernel, rfl, by decide⟩)) ?_
    refine mj_all_cons 13 rfl (trivial) ?_
    refine mj_all_cons 14 rfl (show _ = _ from by decide +kernel) ?_
    refine mj_all_cons 15 rfl (trivial) ?_
    refine mj_all_cons 16 rfl (trivial) ?_
    refine mj_all_cons 17 rfl (Or.inl ⟨1, by decide +kernel, rfl, rfl⟩) ?_
    refine mj_all_cons 18 rfl (Or.inr (Or.inl ⟨by decide +kernel, rfl, by decide⟩)) ?_
    refine mj_all_cons 19 rfl (trivial) ?_
    refine mj_all_cons 20 rfl (show _ = _ from by decide +kernel) ?_
    refine mj_all_cons 21 rfl (trivial) ?_
    refine mj_all_cons 22 rfl (trivial) ?_
    refine mj_all_cons 23 rfl (Or.inl ⟨1, by decide +kernel, rfl, rfl⟩) ?_
    refine mj_all_cons 24 rfl (Or.inr (Or.inl ⟨by decide +kernel, rfl, by decide⟩)) ?_
    refine mj_all_cons 25 rfl (trivial) ?_
    refine mj_all_cons 26 rfl (show _ = _ from by decide +kernel) ?_
    refine mj_all_cons 27 rfl (trivial) ?_
    refine mj_all_cons 28 rfl (trivial) ?_
    refine mj_all_cons 29 rfl (Or.inl ⟨1, by decide +kernel, rfl, rfl⟩) ?_
    refine mj_all_cons 30 rfl (Or.inr (Or.inl ⟨by decide +kernel, rfl, by decide⟩)) ?_
    refine mj_all_cons 31 rfl (trivial) ?_
    refine mj_all_cons 32 rfl (show _ = _ from by decide +kernel) ?_
    refine mj_all_cons 33 rfl (trivial) ?_
    refine mj_all_cons 34 rfl (trivial) ?_
    refine mj_all_cons 35 rfl (Or.inl ⟨1, by decide +kernel, rfl, rfl⟩) ?_
    refine mj_all_cons 36 rfl (Or.inr (Or.inl ⟨by decide +kernel, rfl, by decide⟩)) ?_
    refine mj_all_cons 37 rfl (trivial) ?_
    refine mj_all_cons 38 rfl (show _ = _ from by decide +kernel) ?_
    refine mj_all_cons 39 rfl (trivial) ?_
    refine mj_all_cons 40 rfl (trivial) ?_
    refine mj_all_cons 41 rfl (Or.inl ⟨by decide +kernel, rfl⟩) ?_
    refine mj_all_cons 42 rfl (show _ = _ from by decide +kernel) ?_
    refine mj_all_cons 43 rfl (trivial) ?_
    refine mj_all_cons 44 rfl (trivial) ?_
    refine mj_all_cons 45 rfl (Or.inl ⟨by decide +kernel, rfl⟩) ?_
    refine mj_all_cons 46 rfl (show _ = _ from by decide +kernel) ?_
    exact trivial
  intro pc o ho
  have := mj_all_get _ 0 h pc o ho
  rw [Nat.zero_add] at this
  exact this
set_option maxRecDepth 100000 in
theorem mjmi14 : ∀ (pc : Nat) (o : mj_O), mjmo14[pc]? = some o → mj_is mj_kl mjmM14.1.cls mj_WS mj_NWs mjm_Ms mjmM14.2.1 pc o := by
  have h : mj_all (mj_is mj_kl mjmM14.1.cls mj_WS mj_NWs mjm_Ms mjmM14.2.1) 0 mjmo14 := by
    unfold mjmo14
    refine mj_all_cons 1 rfl (Or.inl ⟨0, by decide +kernel, rfl, rfl⟩) ?_
    refine mj_all_cons 2 rfl (Or.inr (Or.inl ⟨by decide +kernel, rfl, by decide⟩)) ?_
    refine mj_all_cons 3 rfl (trivial) ?_
    refine mj_all_cons 4 rfl (show _ = _ from by decide +kernel) ?_
    refine mj_all_cons 5 rfl (trivial) ?_
    refine mj_all_cons 6 rfl (trivial) ?_
    refine mj_all_cons 7 rfl (Or.inl ⟨0, by decide +kernel, rfl, rfl⟩) ?_
    refine mj_all_cons 8 rfl (Or.inr (Or.inl ⟨by decide +kernel, rfl, by decide⟩)) ?_
    refine mj_all_cons 9 rfl (trivial) ?_
    refine mj_all_cons 10 rfl (show _ = _ from by decide +kernel) ?_
    refine mj_all_cons 11 rfl (trivial) ?_
    refine mj_all_cons 12 rfl (trivial) ?_
    refine mj_all_cons 13 rfl (Or.inl ⟨by decide +kernel, rfl⟩) ?_
    refine mj_all_cons 14 rfl (show _ = _ from by decide +kernel) ?_
    refine mj_all_cons 15 rfl (trivial) ?_
    refine mj_all_cons 16 rfl (trivial) ?_
    refine mj_all_cons 17 rfl (Or.inl ⟨by decide +kernel, rfl⟩) ?_
    refine mj_all_cons 18 rfl (show _ = _ from by decide +kernel) ?_
    exact trivial
  intro pc o ho
  have := mj_all_get _ 0 h pc o ho
  rw [Nat.zero_add] at this
  exact this
set_option maxRecDepth 100000 in
theorem mjmi15 : ∀ (pc : Nat) (o : mj_O), mjmo15[pc]? = some o → mj_is mj_kl mjmM15.1.cls mj_WS mj_NWs mjm_Ms mjmM15.2.1 pc o := by
  have h : mj_all (mj_is mj_kl mjmM15.1.cls mj_WS mj_NWs mjm_Ms mjmM15.2.1) 0 mjmo15 := by
    unfold mjmo15
    refine mj_all_cons 1 rfl (Or.inl ⟨0, by decide +kernel, rfl, rfl⟩) ?_
    refine mj_all_cons 2 rfl (Or.inr (Or.inl ⟨by decide +kernel, rfl, by decide⟩)) ?_
    refine mj_all_cons 3 rfl (trivial) ?_
    refine mj_all_cons 4 rfl (show _ = _ from by decide +kernel) ?_
    refine mj_all_cons 5 rfl (trivial) ?_
    refine mj_all_cons 6 rfl (trivial) ?_
    refine mj_all_cons 7 rfl (Or.inl ⟨0, by decide +kernel, rfl, rfl⟩) ?_
    refine mj_all_cons 8 rfl (Or.inr (Or.inl ⟨by decide +kernel, rfl, by decide⟩)) ?_
    refine mj_all_cons 9 rfl (trivial) ?_
    refine mj_all_cons 10 rfl (show _ = _ from by decide +kernel) ?_
    refine mj_all_cons 11 rfl (trivial) ?_
    refine mj_all_cons 12 rfl (trivial) ?_
    refine mj_all_cons 13 rfl (Or.inl ⟨0, by decide +kernel, rfl, rfl⟩) ?_
    refine mj_all_cons 14 rfl (Or.inr (Or.inl ⟨by decide +kernel, rfl, by decide⟩)) ?_
    refine mj_all_cons 15 rfl (trivial) ?_
    refine mj_all_cons 16 rfl (show _ = _ from by decide +kernel) ?_
    refine mj_all_cons 17 rfl (trivial) ?_
    refine mj_all_cons 18 rfl (trivial) ?_
    refine mj_all_cons 19 rfl (Or.inl ⟨0, by decide +kernel, rfl, rfl⟩) ?_
    refine mj_all_cons 20 rfl (Or.inr (Or.inl ⟨by decide +kernel, rfl, by decide⟩)) ?_
    refine mj_all_cons 21 rfl (trivial) ?_
    refine mj_all_cons 22 rfl (show _ = _ from by decide +kernel) ?_
    refine mj_all_cons 23 rfl (trivial) ?_
    refine mj_all_cons 24 rfl (trivial) ?_
    refine mj_all_cons 25 rfl (Or.inl ⟨0, by decide +kernel, rfl, rfl⟩) ?_
    refine mj_all_cons 26 rfl (Or.inr (Or.inl ⟨by decide +kernel, rfl, by decide⟩)) ?_
    refine mj_all_cons 27 rfl (trivial) ?_
    refine mj_all_cons 28 rfl (show _ = _ from by decide +kernel) ?_
    refine mj_all_cons 29 rfl (trivial) ?_
    refine mj_all_cons 30 rfl (trivial) ?_
    refine mj_all_cons 31 rfl (Or.inl ⟨0, by decide +kernel, rfl, rfl⟩) ?_
    refine mj_all_cons 32 rfl (Or.inr (Or.inl ⟨by decide +kernel, rfl, by decide⟩)) ?_
    refine mj_all_cons 33 rfl (trivial) ?_
    refine mj_all_cons 34 rfl (show _ = _ from by decide +kernel) ?_
    refine mj_all_cons 35 rfl (trivial) ?_
    refine mj_all_cons 36 rfl (trivial) ?_
    refine mj_all_cons 37 rfl (Or.inl ⟨0, by decide +kernel, rfl, rfl⟩) ?_
    refine mj_all_cons 38 rfl (Or.inr (Or.inl ⟨by decide +kernel, rfl, by decide⟩)) ?_
    refine mj_all_cons 39 rfl (trivial) ?_
    refine mj_all_cons 40 rfl (show _ = _ from by decide +kernel) ?_
    refine mj_all_cons 41 rfl (trivial) ?_
    refine mj_all_cons 42 rfl (trivial) ?_
    refine mj_all_cons 43 rfl (Or.inl ⟨0, by decide +kernel, rfl, rfl⟩) ?_
    refine mj_all_cons 44 rfl (Or.inr (Or.inl ⟨by decide +kernel, rfl, by decide⟩)) ?_
    refine mj_all_cons 45 rfl (trivial) ?_
    refine mj_all_cons 46 rfl (show _ = _ from by decide +kernel) ?_
    refine mj_all_cons 47 rfl (trivial) ?_
    refine mj_all_cons 48 rfl (trivial) ?_
    refine mj_all_cons 49 rfl (Or.inl ⟨by decide +kernel, rfl⟩) ?_
    refine mj_all_cons 50 rfl (show _ = _ from by decide +kernel) ?_
    refine mj_all_cons 51 rfl (trivial) ?_
    refine mj_all_cons 52 rfl (trivial) ?_
    refine mj_all_cons 53 rfl (Or.inl ⟨by decide +kernel, rfl⟩) ?_
    refine mj_all_cons 54 rfl (show _ = _ from by decide +kernel) ?_
    exact trivial
  intro pc o ho
  have := mj_all_get _ 0 h pc o ho
  rw [Nat.zero_add] at this
  exact this
set_option maxRecDepth 100000 in
theorem mjmi16 : ∀ (pc : Nat) (o : mj_O), mjmo16[pc]? = some o → mj_is mj_kl mjmM16.1.cls mj_WS mj_NWs mjm_Ms mjmM16.2.1 pc o := by
  have h : mj_all (mj_is mj_kl mjmM16.1.cls mj_WS mj_NWs mjm_Ms mjmM16.2.1) 0 mjmo16 := by
    unfold mjmo16
    refine mj_all_cons 1 rfl (Or.inl ⟨0, by decide +kernel, rfl, rfl⟩) ?_
    refine mj_all_cons 2 rfl (⟨116, "ListSpeakerModel", mjF9, 46, by decide +kernel, rfl, by decide, mw_979, mjw9⟩) ?_
    refine mj_all_cons 3 rfl (trivial) ?_
    refine mj_all_cons 4 rfl (trivial) ?_
    refine mj_all_cons 5 rfl (Or.inl ⟨1, by decide +kernel, rfl, rfl⟩) ?_
    refine mj_all_cons 6 rfl (Or.inl ⟨by decide +kernel, rfl⟩) ?_
    refine mj_all_cons 7 rfl (Or.inl ⟨2, by decide +kernel, rfl, rfl⟩) ?_
    refine mj_all_cons 8 rfl (Or.inl ⟨by decide +kernel, rfl⟩) ?_
    refine mj_all_cons 9 rfl (Or.inl ⟨3, by decide +kernel, rfl, rfl⟩) ?_
    refine mj_all_cons 10 rfl (Or.inl ⟨0, by decide +kernel, rfl, rfl⟩) ?_
    refine mj_all_cons 11 rfl (Or.inr ⟨by decide +kernel, rfl⟩) ?_
    refine mj_all_cons 12 rfl (trivial) ?_
    refine mj_all_cons 13 rfl (Or.inl ⟨0, by decide +kernel, rfl, rfl⟩) ?_
    refine mj_all_cons 14 rfl (Or.inl ⟨0, by decide +kernel, rfl, rfl⟩) ?_
    refine mj_all_cons 15 rfl (⟨mjmM11, 119, 0, rfl, by decide, mjmd11, mw_16, Or.inl ⟨9, mjF9, 46, by decide +kernel, rfl, rfl, rfl, mw_1134, mw_1136, mjsel_62⟩⟩) ?_
    refine mj_all_cons 16 rfl (trivial) ?_
    refine mj_all_cons 17 rfl (trivial) ?_
    refine mj_all_cons 18 rfl (⟨mjmM13, 123, 1, rfl, by decide, mjmd13, mw_16, Or.inl ⟨9, mjF9, 46, by decide +kernel, rfl, rfl, rfl, mw_1163, mw_1165, mjsel_69⟩⟩) ?_
    refine mj_all_cons 19 rfl (trivial) ?_
    refine mj_all_cons 20 rfl (trivial) ?_
    refine mj_all_cons 21 rfl (show _ = _ from by decide +kernel) ?_
    refine mj_all_cons 22 rfl (trivial) ?_
    refine mj_all_cons 23 rfl (trivial) ?_
    refine mj_all_cons 24 rfl (Or.inl ⟨0, by decide +kernel, rfl, rfl⟩) ?_
    refine mj_all_cons 25 rfl (⟨mjmM11, 119, 0, rfl, by decide, mjmd11, mw_16, Or.inl ⟨9, mjF9, 46, by decide +kernel, rfl, rfl, rfl, mw_1134, mw_1136, mjsel_62⟩⟩) ?_
    refine mj_all_cons 26 rfl (trivial) ?_
    refine mj_all_cons 27 rfl (trivial) ?_
    refine mj_all_cons 28 rfl (Or.inr ⟨by decide +kernel, rfl⟩) ?_
    refine mj_all_cons 29 rfl (trivial) ?_
    refine mj_all_cons 30 rfl (Or.inl ⟨2, by decide +kernel, rfl, rfl⟩) ?_
    refine mj_all_cons 31 rfl (show _ = _ from by decide +kernel) ?_
    refine mj_all_cons 32 rfl (trivial) ?_
    refine mj_all_cons 33 rfl (trivial) ?_
    refine mj_all_cons 34 rfl (Or.inr ⟨by decide +kernel, rfl⟩) ?_
    refine mj_all_cons 35 rfl (trivial) ?_
    refine mj_all_cons 36 rfl (⟨mjmM14, 126, 1, rfl, by decide, mjmd14, mw_16, Or.inr (Or.inl ⟨by decide +kernel, rfl, rfl, mw_1167, mw_1168⟩)⟩) ?_
    refine mj_all_cons 37 rfl (trivial) ?_
    refine mj_all_cons 38 rfl (trivial) ?_
    refine mj_all_cons 39 rfl (show _ = _ from by decide +kernel) ?_
    refine mj_all_cons 40 rfl (trivial) ?_
    refine mj_all_cons 41 rfl (trivial) ?_
    refine mj_all_cons 42 rfl (Or.inl ⟨by decide +kernel, rfl⟩) ?_
    refine mj_all_cons 43 rfl (show _ = _ from by decide +kernel) ?_
    refine mj_all_cons 44 rfl (trivial) ?_
    refine mj_all_cons 45 rfl (trivial) ?_
    refine mj_all_cons 46 rfl (Or.inl ⟨by decide +kernel, rfl⟩) ?_
    refine mj_all_cons 47 rfl (Or.inl ⟨2, by decide +kernel, rfl, rfl⟩) ?_
    refine mj_all_cons 48 rfl (Or.inl ⟨3, by decide +kernel, rfl, rfl⟩) ?_
    refine mj_all_cons 49 rfl (show _ = _ from by decide +kernel) ?_
    refine mj_all_cons 50 rfl (trivial) ?_
    refine mj_all_cons 51 rfl (trivial) ?_
    refine mj_all_cons 52 rfl (Or.inr ⟨by decide +kernel, rfl⟩) ?_
    refine mj_all_cons 53 rfl (trivial) ?_
    refine mj_all_cons 54 rfl (⟨mjmM15, 129, 1, rfl, by decide, mjmd15, mw_16, Or.inr (Or.inl ⟨by decide +kernel, rfl, rfl, mw_1170, mw_1171⟩)⟩) ?_
    refine mj_all_cons 55 rfl (trivial) ?_
    refine mj_all_cons 56 rfl (trivial) ?_
    refine mj_all_cons 57 rfl (show _ = _ from by decide +kernel) ?_
    refine mj_all_cons 58 rfl (trivial) ?_
    refine mj_all_cons 59 rfl (trivial) ?_
    refine mj_all_cons 60 rfl (Or.inr ⟨by decide +kernel, rfl⟩) ?_
    refine mj_all_cons 61 rfl (trivial) ?_
    refine mj_all_cons 62 rfl (⟨mjmM14, 126, 1, rfl, by decide, mjmd14, mw_16, Or.inr (Or.inl ⟨by decide +kernel, rfl, rfl, mw_1167, mw_1168⟩)⟩) ?_
    refine mj_all_cons 63 rfl (trivial) ?_
    refine mj_all_cons 64 rfl (trivial) ?_
    refine mj_all_cons 65 rfl (show _ = _ from by decide +kernel) ?_
    refine mj_all_cons 66 rfl (trivial) ?_
    refine mj_all_cons 67 rfl (trivial) ?_
    refine mj_all_cons 68 rfl (Or.inl ⟨by decide +kernel, rfl⟩) ?_
    refine mj_all_cons 69 rfl (show _ = _ from by decide +kernel) ?_
    refine mj_all_cons 70 rfl (trivial) ?_
    refine mj_all_cons 71 rfl (trivial) ?_
    refine mj_all_cons 72 rfl (Or.inl ⟨by decide +kernel, rfl⟩) ?_
    refine mj_all_cons 73 rfl (Or.inl ⟨3, by decide +kernel, rfl, rfl⟩) ?_
    refine mj_all_cons 74 rfl (Or.inl ⟨2, by decide +kernel, rfl, rfl⟩) ?_
    refine mj_all_cons 75 rfl (show _ = _ from by decide +kernel) ?_
    refine mj_all_cons 76 rfl (trivial) ?_
    refine mj_all_cons 77 rfl (trivial) ?_
    refine mj_all_cons 78 rfl (Or.inr ⟨by decide +kernel, rfl⟩) ?_
    refine mj_all_cons 79 rfl (trivial) ?_
    refine mj_all_cons 80 rfl (Or.inr ⟨132, by decide +kernel, rfl, mw_1173⟩) ?_
    refine mj_all_cons 81 rfl (trivial) ?_
    refine mj_all_cons 82 rfl (trivial) ?_
    refine mj_all_cons 83 rfl (show _ = _ from by decide +kernel) ?_
    refine mj_all_cons 84 rfl (show _ = _ from by decide +kernel) ?_
    refine mj_all_cons 85 rfl (trivial) ?_
    refine mj_all_cons 86 rfl (trivial) ?_
    refine mj_all_cons 87 rfl (Or.inr ⟨by decide +kernel, rfl⟩) ?_
    refine mj_all_cons 88 rfl (trivial) ?_
    refine mj_all_cons 89 rfl (show _ = _ from by decide +kernel) ?_
    refine mj_all_cons 90 rfl (trivial) ?_
    refine mj_all_cons 91 rfl (trivial) ?_
    refine mj_all_cons 92 rfl (Or.inr ⟨134, by decide +kernel, rfl, mw_1174⟩) ?_
    refine mj_all_cons 93 rfl (trivial) ?_
    refine mj_all_cons 94 rfl (trivial) ?_
    refine mj_all_cons 95 rfl (Or.inr ⟨by decide +kernel, rfl⟩) ?_
    refine mj_all_cons 96 rfl (trivial) ?_
    refine mj_all_cons 97 rfl (show _ = _ from by decide +kernel) ?_
    refine mj_all_cons 98 rfl (Or.inr ⟨by decide +kernel, rfl⟩) ?_
    refine mj_all_cons 99 rfl (trivial) ?_
    refine mj_all_cons 100 rfl (show _ = _ from by decide +kernel) ?_
    refine mj_all_cons 101 rfl (show _ = _ from by decide +kernel) ?_
    refine mj_all_cons 102 rfl (Or.inr ⟨136, by decide +kernel, rfl, mw_1175⟩) ?_
    refine mj_all_cons 103 rfl (trivial) ?_
    refine mj_all_cons 104 rfl (trivial) ?_
    refine mj_all_cons 105 rfl (show _ = _ from by decide +kernel) ?_
    refine mj_all_cons 106 rfl (Or.inr ⟨by decide +kernel, rfl⟩) ?_
    refine mj_all_cons 107 rfl (trivial) ?_
    refine mj_all_cons 108 rfl (Or.inl ⟨0, by decide +kernel, rfl, rfl⟩) ?_
    refine mj_all_cons 109 rfl (show _ = _ from by decide +kernel) ?_
    refine mj_all_cons 110 rfl (⟨116, "ListSpeakerModel", mjF9, 46, by decide +kernel, rfl, by decide, mw_979, mjw9⟩) ?_
    refine mj_all_cons 111 rfl (trivial) ?_
    refine mj_all_cons 112 rfl (trivial) ?_
    refine mj_all_cons 113 rfl (Or.inl ⟨by decide +kernel, rfl⟩) ?_
    refine mj_all_cons 114 rfl (show _ = _ from by decide +kernel) ?_
    refine mj_all_cons 115 rfl (⟨116, "ListSpeakerModel", mjF9, 46, mjt9, by decide +kernel, rfl, by decide, mw_979, mjw9, mjk9, mjn9, rfl, by decide +kernel⟩) ?_
    refine mj_all_cons 116 rfl (trivial) ?_
    refine mj_all_cons 117 rfl (trivial) ?_
    refine mj_all_cons 118 rfl (show _ = _ from by decide +kernel) ?_
    refine mj_all_cons 119 rfl (trivial) ?_
    refine mj_all_cons 120 rfl (trivial) ?_
    refine mj_all_cons 121 rfl (Or.inl ⟨0, by decide +kernel, rfl, rfl⟩) ?_
    refine mj_all_cons 122 rfl (⟨116, "ListSpeakerModel", mjF9, 46, by decide +kernel, rfl, by decide, mw_979, mjw9⟩) ?_
    refine mj_all_cons 123 rfl (trivial) ?_
    refine mj_all_cons 124 rfl (trivial) ?_
    refine mj_all_cons 125 rfl (Or.inl ⟨1, by decide +kernel, rfl, rfl⟩) ?_
    refine mj_all_cons 126 rfl (show _ = _ from by decide +kernel) ?_
    refine mj_all_cons 127 rfl (Or.inr ⟨by decide +kernel, rfl⟩) ?_
    refine mj_all_cons 128 rfl (trivial) ?_
    refine mj_all_cons 129 rfl (Or.inr ⟨by decide +kernel, rfl⟩) ?_
    refine mj_all_cons 130 rfl (trivial) ?_
    refine mj_all_cons 131 rfl (Or.inl ⟨by decide +kernel, rfl⟩) ?_
    refine mj_all_cons 132 rfl (show _ = _ from by decide +kernel) ?_
    refine mj_all_cons 133 rfl (trivial) ?_
    refine mj_all_cons 134 rfl (trivial) ?_
    refine mj_all_cons 135 rfl (Or.inl ⟨0, by decide +kernel, rfl, rfl⟩) ?_
    refine mj_all_cons 136 rfl (⟨9, "ListSpeakerModel", mjF9, 46, by decide +kernel, rfl, by decide, mw_978, mjw9⟩) ?_
    refine mj_all_cons 137 rfl (trivial) ?_
    refine mj_all_cons 138 rfl (trivial) ?_
    refine mj_all_cons 139 rfl (Or.inl ⟨1, by decide +kernel, rfl, rfl⟩) ?_
    refine mj_all_cons 140 rfl (show _ = _ from by decide +kernel) ?_
    refine mj_all_cons 141 rfl (Or.inr (Or.inl ⟨by decide +kernel, rfl, by decide⟩)) ?_
    refine mj_all_cons 142 rfl (trivial) ?_
    refine mj_all_cons 143 rfl (show _ = _ from by decide +kernel) ?_
    refine mj_all_cons 144 rfl (trivial) ?_
    refine mj_all_cons 145 rfl (trivial) ?_
    refine mj_all_cons 146 rfl (Or.inl ⟨by decide +kernel, rfl⟩) ?_
    refine mj_all_cons 147 rfl (show _ = _ from by decide +kernel) ?_
    refine mj_all_cons 148 rfl (Or.inl ⟨2, by decide +kernel, rfl, rfl⟩) ?_
    refine mj_all_cons 149 rfl (show _ = _ from by decide +kernel) ?_
    refine mj_all_cons 150 rfl (trivial) ?_
    refine mj_all_cons 151 rfl (trivial) ?_
    refine mj_all_cons 152 rfl (Or.inr ⟨by decide +kernel, rfl⟩) ?_
    refine mj_all_cons 153 rfl (trivial) ?_
    refine mj_all_cons 154 rfl (Or.inr ⟨132, by decide +kernel, rfl, mw_1173⟩) ?_
    refine mj_all_cons 155 rfl (trivial) ?_
    refine mj_all_cons 156 rfl (trivial) ?_
    refine mj_all_cons 157 rfl (show _ = _ from by decide +kernel) ?_
    refine mj_all_cons 158 rfl (show _ = _ from by decide +kernel) ?_
    refine mj_all_cons 159 rfl (trivial) ?_
    refine mj_all_cons 160 rfl (trivial) ?_
    refine mj_all_cons 161 rfl (Or.inl ⟨0, by decide +kernel, rfl, rfl⟩) ?_
    refine mj_all_cons 162 rfl (Or.inl ⟨by decide +kernel, rfl⟩) ?_
    refine mj_all_cons 163 rfl (⟨mjmM2, 138, 1, rfl, by decide, mjmd2, mw_16, Or.inl ⟨9, mjF9, 46, by decide +kernel, rfl, rfl, rfl, mw_1146, mw_1148, mjsel_65⟩⟩) ?_
    refine mj_all_cons 164 rfl (trivial) ?_
    refine mj_all_cons 165 rfl (trivial) ?_
    refine mj_all_cons 166 rfl (show _ = _ from by decide +kernel) ?_
    refine mj_all_cons 167 rfl (trivial) ?_
    refine mj_all_cons 168 rfl (trivial) ?_
    refine mj_all_cons 169 rfl (Or.inr ⟨by decide +kernel, rfl⟩) ?_
    refine mj_all_cons 170 rfl (trivial) ?_
    refine mj_all_cons 171 rfl (show _ = _ from by decide +kernel) ?_
    refine mj_all_cons 172 rfl (show _ = _ from by decide +kernel) ?_
    refine mj_all_cons 173 rfl (Or.inl ⟨3, by decide +kernel, rfl, rfl⟩) ?_
    refine mj_all_cons 174 rfl (show _ = _ from by decide +kernel) ?_
    refine mj_all_cons 175 rfl (trivial) ?_
    refine mj_all_cons 176 rfl (trivial) ?_
    refine mj_all_cons 177 rfl (Or.inr ⟨by decide +kernel, rfl⟩) ?_
    refine mj_all_cons 178 rfl (trivial) ?_
    refine mj_all_cons 179 rfl (Or.inr (Or.inl ⟨by decide +kernel, rfl, by decide⟩)) ?_
    refine mj_all_cons 180 rfl (trivial) ?_
    refine mj_all_cons 181 rfl (show _ = _ from by decide +kernel) ?_
    refine mj_all_cons 182 rfl (trivial) ?_
    refine mj_all_cons 183 rfl (trivial) ?_
    refine mj_all_cons 184 rfl (Or.inl ⟨0, by decide +kernel, rfl, rfl⟩) ?_
    refine mj_all_cons 185 rfl (⟨9, "ListSpeakerModel", mjF9, 46, by decide +kernel, rfl, by decide, mw_978, mjw9⟩) ?_
    refine mj_all_cons 186 rfl (trivial) ?_
    refine mj_all_cons 187 rfl (trivial) ?_
    refine mj_all_cons 188 rfl (Or.inl ⟨1, by decide +kernel, rfl, rfl⟩) ?_
    refine mj_all_cons 189 rfl (show _ = _ from by decide +kernel) ?_
    refine mj_all_cons 190 rfl (⟨mjmM14, 126, 1, rfl, by decide, mjmd14, mw_16, Or.inr (Or.inl ⟨by decide +kernel, rfl, rfl, mw_1167, mw_1168⟩)⟩) ?_
    refine mj_all_cons 191 rfl (trivial) ?_
    refine mj_all_cons 192 rfl (trivial) ?_
    refine mj_all_cons 193 rfl (show _ = _ from by decide +kernel) ?_
    refine mj_all_cons 194 rfl (trivial) ?_
    refine mj_all_cons 195 rfl (trivial) ?_
    refine mj_all_cons 196 rfl (Or.inl ⟨0, by decide +kernel, rfl, rfl⟩) ?_
    refine mj_all_cons 197 rfl (Or.inl ⟨by decide +kernel, rfl⟩) ?_
    refine mj_all_cons 198 rfl (⟨mjmM2, 138, 1, rfl, by decide, mjmd2, mw_16, Or.inl ⟨9, mjF9, 46, by decide +kernel, rfl, rfl, rfl, mw_1146, mw_1148, mjsel_65⟩⟩) ?_
    refine mj_all_cons 199 rfl (trivial) ?_
    refine mj_all_cons 200 rfl (trivial) ?_
    refine mj_all_cons 201 rfl (show _ = _ from by decide +kernel) ?_
    refine mj_all_cons 202 rfl (Or.inl ⟨0, by decide +kernel, rfl, rfl⟩) ?_
    refine mj_all_cons 203 rfl (Or.inl ⟨1, by decide +kernel, rfl, rfl⟩) ?_
    refine mj_all_cons 204 rfl (Or.inr ⟨by decide +kernel, rfl⟩) ?_
    refine mj_all_cons 205 rfl (trivial) ?_
    refine mj_all_cons 206 rfl (⟨mjmM17, 141, 2, rfl, by decide, mjmd17, mw_16, Or.inl ⟨9, mjF9, 46, by decide +kernel, rfl, rfl, rfl, mw_1176, mw_1178, mjsel_70⟩⟩) ?_
    refine mj_all_cons 207 rfl (trivial) ?_
    refine mj_all_cons 208 rfl (trivial) ?_
    refine mj_all_cons 209 rfl (show _ = _ from by decide +kernel) ?_
    exact trivial
  intro pc o ho
  have := mj_all_get _ 0 h pc o ho
  rw [Nat.zero_add] at this
  exact this
set_option maxRecDepth 100000 in
theorem mjmi17 : ∀ (pc : Nat) (o : mj_O), mjmo17[pc]? = some o → mj_is mj_kl mjmM17.1.cls mj_WS mj_NWs mjm_Ms mjmM17.2.1 pc o := by
  have h : mj_all (mj_is mj_kl mjmM17.1.cls mj_WS mj_NWs mjm_Ms mjmM17.2.1) 0 mjmo17 := by
    unfold mjmo17
    refine mj_all_cons 1 rfl (Or.inl ⟨by decide +kernel, rfl⟩) ?_
    refine mj_all_cons 2 rfl (Or.inl ⟨3, by decide +kernel, rfl, rfl⟩) ?_
    refine mj_all_cons 3 rfl (Or.inl ⟨3, by decide +kernel, rfl, rfl⟩) ?_
    refine mj_all_cons 4 rfl (Or.inl ⟨0, by decide +kernel, rfl, rfl⟩) ?_
    refine mj_all_cons 5 rfl (⟨92, "ListSpeakerModel", mjF9, 46, by decide +kernel, rfl, by decide, mw_981, mjw9⟩) ?_
    refine mj_all_cons 6 rfl (trivial) ?_
    refine mj_all_cons 7 rfl (trivial) ?_
    refine mj_all_cons 8 rfl (show _ = _ from by decide +kernel) ?_
    refine mj_all_cons 9 rfl (trivial) ?_
    refine mj_all_cons 10 rfl (trivial) ?_
    refine mj_all_cons 11 rfl (Or.inl ⟨0, by decide +kernel, rfl, rfl⟩) ?_
    refine mj_all_cons 12 rfl (⟨16, "ListSpeakerModel", mjF9, 46, by decide +kernel, rfl, by decide, mw_983, mjw9⟩) ?_
    refine mj_all_cons 13 rfl (trivial) ?_
    refine mj_all_cons 14 rfl (trivial) ?_
    refine mj_all_cons 15 rfl (Or.inl ⟨3, by decide +kernel, rfl, rfl⟩) ?_
    refine mj_all_cons 16 rfl (show _ = _ from by decide +kernel) ?_
    refine mj_all_cons 17 rfl (Or.inl ⟨2, by decide +kernel, rfl, rfl⟩) ?_
    refine mj_all_cons 18 rfl (show _ = _ from by decide +kernel) ?_
    refine mj_all_cons 19 rfl (trivial) ?_
    refine mj_all_cons 20 rfl (trivial) ?_
    refine mj_all_cons 21 rfl (Or.inl ⟨by decide +kernel, rfl⟩) ?_
    refine mj_all_cons 22 rfl (show _ = _ from by decide +kernel) ?_
    refine mj_all_cons 23 rfl (trivial) ?_
    refine mj_all_cons 24 rfl (trivial) ?_
    refine mj_all_cons 25 rfl (Or.inl ⟨by decide +kernel, rfl⟩) ?_
    refine mj_all_cons 26 rfl (Or.inr ⟨by decide +kernel, rfl⟩) ?_
    refine mj_all_cons 27 rfl (trivial) ?_
    refine mj_all_cons 28 rfl (Or.inl ⟨by decide +kernel, rfl⟩) ?_
    refine mj_all_cons 29 rfl (Or.inr ⟨by decide +kernel, rfl⟩) ?_
    refine mj_all_cons 30 rfl (trivial) ?_
    refine mj_all_cons 31 rfl (Or.inr ⟨by decide +kernel, rfl⟩) ?_
    refine mj_all_cons 32 rfl (trivial) ?_
    refine mj_all_cons 33 rfl (Or.inl ⟨2, by decide +kernel, rfl, rfl⟩) ?_
    refine mj_all_cons 34 rfl (show _ = _ from by decide +kernel) ?_
    refine mj_all_cons 35 rfl (trivial) ?_
    refine mj_all_cons 36 rfl (trivial) ?_
    refine mj_all_cons 37 rfl (Or.inr ⟨by decide +kernel, rfl⟩) ?_
    refine mj_all_cons 38 rfl (trivial) ?_
    refine mj_all_cons 39 rfl (show _ = _ from by decide +kernel) ?_
    refine mj_all_cons 40 rfl (trivial) ?_
    refine mj_all_cons 41 rfl (trivial) ?_
    refine mj_all_cons 42 rfl (Or.inl ⟨0, by decide +kernel, rfl, rfl⟩) ?_
    refine mj_all_cons 43 rfl (⟨13, "ListSpeakerModel", mjF9, 46, by decide +kernel, rfl, by decide, mw_982, mjw9⟩) ?_
    refine mj_all_cons 44 rfl (trivial) ?_
    refine mj_all_cons 45 rfl (trivial) ?_
    refine mj_all_cons 46 rfl (Or.inr (Or.inl ⟨by decide +kernel, rfl, by decide⟩)) ?_
    refine mj_all_cons 47 rfl (trivial) ?_
    refine mj_all_cons 48 rfl (Or.inl ⟨3, by decide +kernel, rfl, rfl⟩) ?_
    refine mj_all_cons 49 rfl (show _ = _ from by decide +kernel) ?_
    refine mj_all_cons 50 rfl (Or.inr ⟨by decide +kernel, rfl⟩) ?_
    refine mj_all_cons 51 rfl (trivial) ?_
    refine mj_all_cons 52 rfl (show _ = _ from by decide +kernel) ?_
    refine mj_all_cons 53 rfl (show _ = _ from by decide +kernel) ?_
    refine mj_all_cons 54 rfl (Or.inl ⟨0, by decide +kernel, rfl, rfl⟩) ?_
    refine mj_all_cons 55 rfl (⟨9, "ListSpeakerModel", mjF9, 46, by decide +kernel, rfl, by decide, mw_978, mjw9⟩) ?_
    refine mj_all_cons 56 rfl (trivial) ?_
    refine mj_all_cons 57 rfl (trivial) ?_
    refine mj_all_cons 58 rfl (Or.inl ⟨1, by decide +kernel, rfl, rfl⟩) ?_
    refine mj_all_cons 59 rfl (Or.inr ⟨by decide +kernel, rfl⟩) ?_
    refine mj_all_cons 60 rfl (trivial) ?_
    refine mj_all_cons 61 rfl (show _ = _ from by decide +kernel) ?_
    refine mj_all_cons 62 rfl (show _ = _ from by decide +kernel) ?_
    refine mj_all_cons 63 rfl (show _ = _ from by decide +kernel) ?_
    refine mj_all_cons 64 rfl (trivial) ?_
    refine mj_all_cons 65 rfl (trivial) ?_
    refine mj_all_cons 66 rfl (Or.inl ⟨by decide +kernel, rfl⟩) ?_
    refine mj_all_cons 67 rfl (show _ = _ from by decide +kernel) ?_
    refine mj_all_cons 68 rfl (trivial) ?_
    refine mj_all_cons 69 rfl (trivial) ?_
    refine mj_all_cons 70 rfl (Or.inl ⟨by decide +kernel, rfl⟩) ?_
    refine mj_all_cons 71 rfl (Or.inr ⟨by decide +kernel, rfl⟩) ?_
    refine mj_all_cons 72 rfl (trivial) ?_
    refine mj_all_cons 73 rfl (show _ = _ from by decide +kernel) ?_
    refine mj_all_cons 74 rfl (trivial) ?_
    refine mj_all_cons 75 rfl (trivial) ?_
    refine mj_all_cons 76 rfl (show _ = _ from by decide +kernel) ?_
    refine mj_all_cons 77 rfl (trivial) ?_
    refine mj_all_cons 78 rfl (trivial) ?_
    refine mj_all_cons 79 rfl (Or.inr ⟨by decide +kernel, rfl⟩) ?_
    refine mj_all_cons 80 rfl (trivial) ?_
    refine mj_all_cons 81 rfl (show _ = _ from by decide +kernel) ?_
    refine mj_all_cons 82 rfl (trivial) ?_
    refine mj_all_cons 83 rfl (trivial) ?_
    refine mj_all_cons 84 rfl (Or.inr (Or.inr (Or.inr (Or.inl ⟨101, by decide +kernel, rfl, mw_1150⟩)))) ?_
    refine mj_all_cons 85 rfl (trivial) ?_
    refine mj_all_cons 86 rfl (Or.inl ⟨3, by decide +kernel, rfl, rfl⟩) ?_
    refine mj_all_cons 87 rfl (show _ = _ from by decide +kernel) ?_
    refine mj_all_cons 88 rfl (show _ = _ from by decide +kernel) ?_
    refine mj_all_cons 89 rfl (show _ = _ from by decide +kernel) ?_
    refine mj_all_cons 90 rfl (trivial) ?_
    refine mj_all_cons 91 rfl (trivial) ?_
    refine mj_all_cons 92 rfl (show _ = _ from by decide +kernel) ?_
    refine mj_all_cons 93 rfl (trivial) ?_
    refine mj_all_cons 94 rfl (trivial) ?_
    refine mj_all_cons 95 rfl (Or.inl ⟨0, by decide +kernel, rfl, rfl⟩) ?_
    refine mj_all_cons 96 rfl (⟨92, "ListSpeakerModel", mjF9, 46, by decide +kernel, rfl, by decide, mw_981, mjw9⟩) ?_
    refine mj_all_cons 97 rfl (trivial) ?_
    refine mj_all_cons 98 rfl (trivial) ?_
    refine mj_all_cons 99 rfl (Or.inr (Or.inl ⟨by decide +kernel, rfl, by decide⟩)) ?_
    refine mj_all_cons 100 rfl (trivial) ?_
    refine mj_all_cons 101 rfl (show _ = _ from by decide +kernel) ?_
    refine mj_all_cons 102 rfl (trivial) ?_
    refine mj_all_cons 103 rfl (trivial) ?_
    refine mj_all_cons 104 rfl (Or.inl ⟨0, by decide +kernel, rfl, rfl⟩) ?_
    refine mj_all_cons 105 rfl (Or.inr (Or.inl ⟨by decide +kernel, rfl, by decide⟩)) ?_
    refine mj_all_cons 106 rfl (trivial) ?_
    refine mj_all_cons 107 rfl (⟨mjmM2, 138, 1, rfl, by decide, mjmd2, mw_16, Or.inl ⟨9, mjF9, 46, by decide +kernel, rfl, rfl, rfl, mw_1146, mw_1148, mjsel_65⟩⟩) ?_
    refine mj_all_cons 108 rfl (trivial) ?_
    refine mj_all_cons 109 rfl (trivial) ?_
    refine mj_all_cons 110 rfl (show _ = _ from by decide +kernel) ?_
    refine mj_all_cons 111 rfl (Or.inl ⟨by decide +kernel, rfl⟩) ?_
    refine mj_all_cons 112 rfl (Or.inl ⟨3, by decide +kernel, rfl, rfl⟩) ?_
    refine mj_all_cons 113 rfl (Or.inl ⟨3, by decide +kernel, rfl, rfl⟩) ?_
    refine mj_all_cons 114 rfl (Or.inl ⟨2, by decide +kernel, rfl, rfl⟩) ?_
    refine mj_all_cons 115 rfl (show _ = _ from by decide +kernel) ?_
    refine mj_all_cons 116 rfl (trivial) ?_
    refine mj_all_cons 117 rfl (trivial) ?_
    refine mj_all_cons 118 rfl (Or.inl ⟨0, by decide +kernel, rfl, rfl⟩) ?_
    refine mj_all_cons 119 rfl (⟨13, "ListSpeakerModel", mjF9, 46, by decide +kernel, rfl, by decide, mw_982, mjw9⟩) ?_
    refine mj_all_cons 120 rfl (trivial) ?_
    refine mj_all_cons 121 rfl (trivial) ?_
    refine mj_all_cons 122 rfl (Or.inr (Or.inl ⟨by decide +kernel, rfl, by decide⟩)) ?_
    refine mj_all_cons 123 rfl (trivial) ?_
    refine mj_all_cons 124 rfl (Or.inl ⟨0, by decide +kernel, rfl, rfl⟩) ?_
    refine mj_all_cons 125 rfl (⟨92, "ListSpeakerModel", mjF9, 46, by decide +kernel, rfl, by decide, mw_981, mjw9⟩) ?_
    refine mj_all_cons 126 rfl (trivial) ?_
    refine mj_all_cons 127 rfl (trivial) ?_
    refine mj_all_cons 128 rfl (show _ = _ from by decide +kernel) ?_
    refine mj_all_cons 129 rfl (Or.inl ⟨3, by decide +kernel, rfl, rfl⟩) ?_
    refine mj_all_cons 130 rfl (show _ = _ from by decide +kernel) ?_
    refine mj_all_cons 131 rfl (Or.inl ⟨0, by decide +kernel, rfl, rfl⟩) ?_
    refine mj_all_cons 132 rfl (⟨9, "ListSpeakerModel", mjF9, 46, by decide +kernel, rfl, by decide, mw_978, mjw9⟩) ?_
    refine mj_all_cons 133 rfl (trivial) ?_
    refine mj_all_cons 134 rfl (trivial) ?_
    refine mj_all_cons 135 rfl (Or.inl ⟨1, by decide +kernel, rfl, rfl⟩) ?_
    refine mj_all_cons 136 rfl (Or.inl ⟨3, by decide +kernel, rfl, rfl⟩) ?_
    refine mj_all_cons 137 rfl (show _ = _ from by decide +kernel) ?_
    refine mj_all_cons 138 rfl (show _ = _ from by decide +kernel) ?_
    refine mj_all_cons 139 rfl (show _ = _ from by decide +kernel) ?_
    refine mj_all_cons 140 rfl (show _ = _ from by decide +kernel) ?_
    refine mj_all_cons 141 rfl (trivial) ?_
    refine mj_all_cons 142 rfl (trivial) ?_
    refine mj_all_cons 143 rfl (show _ = _ from by decide +kernel) ?_
    refine mj_all_cons 144 rfl (trivial) ?_
    refine mj_all_cons 145 rfl (trivial) ?_
    refine mj_all_cons 146 rfl (Or.inl ⟨0, by decide +kernel, rfl, rfl⟩) ?_
    refine mj_all_cons 147 rfl (⟨16, "ListSpeakerModel", mjF9, 46, by decide +kernel, rfl, by decide, mw_983, mjw9⟩) ?_
    refine mj_all_cons 148 rfl (trivial) ?_
    refine mj_all_cons 149 rfl (trivial) ?_
    refine mj_all_cons 150 rfl (Or.inl ⟨0, by decide +kernel, rfl, rfl⟩) ?_
    refine mj_all_cons 151 rfl (⟨92, "ListSpeakerModel", mjF9, 46, by decide +kernel, rfl, by decide, mw_981, mjw9⟩) ?_
    refine mj_all_cons 152 rfl (trivial) ?_
    refine mj_all_cons 153 rfl (trivial) ?_
    refine mj_all_cons 154 rfl (Or.inl ⟨2, by decide +kernel, rfl, rfl⟩) ?_
    refine mj_all_cons 155 rfl (show _ = _ from by decide +kernel) ?_
    refine mj_all_cons 156 rfl (Or.inl ⟨0, by decide +kernel, rfl, rfl⟩) ?_
    refine mj_all_cons 157 rfl (show _ = _ from by decide +kernel) ?_
    refine mj_all_cons 158 rfl (⟨92, "ListSpeakerModel", mjF9, 46, by decide +kernel, rfl, by decide, mw_981, mjw9⟩) ?_
    refine mj_all_cons 159 rfl (trivial) ?_
    refine mj_all_cons 160 rfl (trivial) ?_
    refine mj_all_cons 161 rfl (Or.inl ⟨by decide +kernel, rfl⟩) ?_
    refine mj_all_cons 162 rfl (show _ = _ from by decide +kernel) ?_
    refine mj_all_cons 163 rfl (⟨92, "ListSpeakerModel", mjF9, 46, mjt9, by decide +kernel, rfl, by decide, mw_981, mjw9, mjk9, mjn9, rfl, by decide +kernel⟩) ?_
    refine mj_all_cons 164 rfl (trivial) ?_
    refine mj_all_cons 165 rfl (trivial) ?_
    refine mj_all_cons 166 rfl (Or.inr (Or.inr (Or.inr (Or.inl ⟨101, by decide +kernel, rfl, mw_1150⟩)))) ?_
    refine mj_all_cons 167 rfl (trivial) ?_
    refine mj_all_cons 168 rfl (Or.inl ⟨0, by decide +kernel, rfl, rfl⟩) ?_
    refine mj_all_cons 169 rfl (⟨92, "ListSpeakerModel", mjF9, 46, by decide +kernel, rfl, by decide, mw_981, mjw9⟩) ?_
    refine mj_all_cons 170 rfl (trivial) ?_
    refine mj_all_cons 171 rfl (trivial) ?_
    refine mj_all_cons 172 rfl (show _ = _ from by decide +kernel) ?_
    refine mj_all_cons 173 rfl (Or.inl ⟨by decide +kernel, rfl⟩) ?_
    refine mj_all_cons 174 rfl (show _ = _ from by decide +kernel) ?_
    refine mj_all_cons 175 rfl (show _ = _ from by decide +kernel) ?_
    exact trivial
  intro pc o ho
  have := mj_all_get _ 0 h pc o ho
  rw [Nat.zero_add] at this
  exact this
