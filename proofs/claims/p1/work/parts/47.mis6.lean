set_option maxRecDepth 100000 in
theorem mjmi58 : ∀ (pc : Nat) (o : mj_O), mjmo58[pc]? = some o → mj_is mj_kl mjmM58.1.cls mj_WS mj_NWs mjm_Ms mjmM58.2.1 pc o := by
  have h : mj_all (mj_is mj_kl mjmM58.1.cls mj_WS mj_NWs mjm_Ms mjmM58.2.1) 0 mjmo58 := by
    unfold mjmo58
    refine mj_all_cons 1 rfl (Or.inl ⟨2, by decide +kernel, rfl, rfl⟩) ?_
    refine mj_all_cons 2 rfl (Or.inl ⟨3, by decide +kernel, rfl, rfl⟩) ?_
    refine mj_all_cons 3 rfl (Or.inl ⟨1, by decide +kernel, rfl, rfl⟩) ?_
    refine mj_all_cons 4 rfl (Or.inr ⟨by decide +kernel, rfl⟩) ?_
    refine mj_all_cons 5 rfl (trivial) ?_
    refine mj_all_cons 6 rfl (Or.inr ⟨by decide +kernel, rfl⟩) ?_
    refine mj_all_cons 7 rfl (trivial) ?_
    refine mj_all_cons 8 rfl (⟨mjmM3, 103, 1, rfl, by decide, mjmd3, mw_16, Or.inr (Or.inl ⟨by decide +kernel, rfl, rfl, mw_1194, mw_1195⟩)⟩) ?_
    refine mj_all_cons 9 rfl (trivial) ?_
    refine mj_all_cons 10 rfl (trivial) ?_
    refine mj_all_cons 11 rfl (show _ = _ from by decide +kernel) ?_
    refine mj_all_cons 12 rfl (trivial) ?_
    refine mj_all_cons 13 rfl (trivial) ?_
    refine mj_all_cons 14 rfl (Or.inl ⟨0, by decide +kernel, rfl, rfl⟩) ?_
    refine mj_all_cons 15 rfl (⟨315, "ListSpeakerModel", mjF9, 46, by decide +kernel, rfl, by decide, mw_1019, mjw9⟩) ?_
    refine mj_all_cons 16 rfl (trivial) ?_
    refine mj_all_cons 17 rfl (trivial) ?_
    refine mj_all_cons 18 rfl (Or.inr (Or.inr (Or.inl ⟨by decide +kernel, rfl, by decide⟩))) ?_
    refine mj_all_cons 19 rfl (trivial) ?_
    refine mj_all_cons 20 rfl (trivial) ?_
    refine mj_all_cons 21 rfl (show _ = _ from by decide +kernel) ?_
    refine mj_all_cons 22 rfl (trivial) ?_
    refine mj_all_cons 23 rfl (trivial) ?_
    refine mj_all_cons 24 rfl (Or.inl ⟨0, by decide +kernel, rfl, rfl⟩) ?_
    refine mj_all_cons 25 rfl (Or.inr (Or.inl ⟨by decide +kernel, rfl, by decide⟩)) ?_
    refine mj_all_cons 26 rfl (trivial) ?_
    refine mj_all_cons 27 rfl (⟨mjmM54, 318, 1, rfl, by decide, mjmd54, mw_16, Or.inl ⟨9, mjF9, 46, by decide +kernel, rfl, rfl, rfl, mw_1343, mw_1345, mjsel_107⟩⟩) ?_
    refine mj_all_cons 28 rfl (trivial) ?_
    refine mj_all_cons 29 rfl (trivial) ?_
    refine mj_all_cons 30 rfl (Or.inl ⟨0, by decide +kernel, rfl, rfl⟩) ?_
    refine mj_all_cons 31 rfl (⟨33, "ListSpeakerModel", mjF9, 46, by decide +kernel, rfl, by decide, mw_991, mjw9⟩) ?_
    refine mj_all_cons 32 rfl (trivial) ?_
    refine mj_all_cons 33 rfl (trivial) ?_
    refine mj_all_cons 34 rfl (Or.inl ⟨3, by decide +kernel, rfl, rfl⟩) ?_
    refine mj_all_cons 35 rfl (Or.inl ⟨0, by decide +kernel, rfl, rfl⟩) ?_
    refine mj_all_cons 36 rfl (Or.inr ⟨by decide +kernel, rfl⟩) ?_
    refine mj_all_cons 37 rfl (trivial) ?_
    refine mj_all_cons 38 rfl (⟨mjmM6, 107, 1, rfl, by decide, mjmd6, mw_16, Or.inl ⟨9, mjF9, 46, by decide +kernel, rfl, rfl, rfl, mw_1210, mw_1212, mjsel_77⟩⟩) ?_
    refine mj_all_cons 39 rfl (trivial) ?_
    refine mj_all_cons 40 rfl (trivial) ?_
    refine mj_all_cons 41 rfl (show _ = _ from by decide +kernel) ?_
    refine mj_all_cons 42 rfl (show _ = _ from by decide +kernel) ?_
    refine mj_all_cons 43 rfl (trivial) ?_
    refine mj_all_cons 44 rfl (trivial) ?_
    refine mj_all_cons 45 rfl (Or.inl ⟨0, by decide +kernel, rfl, rfl⟩) ?_
    refine mj_all_cons 46 rfl (Or.inr ⟨by decide +kernel, rfl⟩) ?_
    refine mj_all_cons 47 rfl (trivial) ?_
    refine mj_all_cons 48 rfl (⟨mjmM5, 111, 1, rfl, by decide, mjmd5, mw_16, Or.inl ⟨9, mjF9, 46, by decide +kernel, rfl, rfl, rfl, mw_1197, mw_1199, mjsel_74⟩⟩) ?_
    refine mj_all_cons 49 rfl (trivial) ?_
    refine mj_all_cons 50 rfl (trivial) ?_
    refine mj_all_cons 51 rfl (Or.inr ⟨by decide +kernel, rfl⟩) ?_
    refine mj_all_cons 52 rfl (trivial) ?_
    refine mj_all_cons 53 rfl (show _ = _ from by decide +kernel) ?_
    refine mj_all_cons 54 rfl (trivial) ?_
    refine mj_all_cons 55 rfl (trivial) ?_
    refine mj_all_cons 56 rfl (Or.inr ⟨by decide +kernel, rfl⟩) ?_
    refine mj_all_cons 57 rfl (trivial) ?_
    refine mj_all_cons 58 rfl (⟨mjmM3, 103, 1, rfl, by decide, mjmd3, mw_16, Or.inr (Or.inl ⟨by decide +kernel, rfl, rfl, mw_1194, mw_1195⟩)⟩) ?_
    refine mj_all_cons 59 rfl (trivial) ?_
    refine mj_all_cons 60 rfl (trivial) ?_
    refine mj_all_cons 61 rfl (show _ = _ from by decide +kernel) ?_
    refine mj_all_cons 62 rfl (trivial) ?_
    refine mj_all_cons 63 rfl (trivial) ?_
    refine mj_all_cons 64 rfl (Or.inl ⟨0, by decide +kernel, rfl, rfl⟩) ?_
    refine mj_all_cons 65 rfl (Or.inr ⟨by decide +kernel, rfl⟩) ?_
    refine mj_all_cons 66 rfl (trivial) ?_
    refine mj_all_cons 67 rfl (⟨mjmM56, 327, 1, rfl, by decide, mjmd56, mw_16, Or.inl ⟨9, mjF9, 46, by decide +kernel, rfl, rfl, rfl, mw_1351, mw_1353, mjsel_109⟩⟩) ?_
    refine mj_all_cons 68 rfl (trivial) ?_
    refine mj_all_cons 69 rfl (trivial) ?_
    refine mj_all_cons 70 rfl (Or.inl ⟨3, by decide +kernel, rfl, rfl⟩) ?_
    refine mj_all_cons 71 rfl (show _ = _ from by decide +kernel) ?_
    exact trivial
  intro pc o ho
  have := mj_all_get _ 0 h pc o ho
  rw [Nat.zero_add] at this
  exact this
set_option maxRecDepth 100000 in
theorem mjmi59 : ∀ (pc : Nat) (o : mj_O), mjmo59[pc]? = some o → mj_is mj_kl mjmM59.1.cls mj_WS mj_NWs mjm_Ms mjmM59.2.1 pc o := by
  have h : mj_all (mj_is mj_kl mjmM59.1.cls mj_WS mj_NWs mjm_Ms mjmM59.2.1) 0 mjmo59 := by
    unfold mjmo59
    refine mj_all_cons 1 rfl (Or.inl ⟨0, by decide +kernel, rfl, rfl⟩) ?_
    refine mj_all_cons 2 rfl (Or.inl ⟨1, by decide +kernel, rfl, rfl⟩) ?_
    refine mj_all_cons 3 rfl (show _ = _ from by decide +kernel) ?_
    refine mj_all_cons 4 rfl (trivial) ?_
    refine mj_all_cons 5 rfl (trivial) ?_
    refine mj_all_cons 6 rfl (Or.inl ⟨1, by decide +kernel, rfl, rfl⟩) ?_
    refine mj_all_cons 7 rfl (Or.inr (Or.inr (Or.inl ⟨by decide +kernel, rfl, by decide⟩))) ?_
    refine mj_all_cons 8 rfl (trivial) ?_
    refine mj_all_cons 9 rfl (trivial) ?_
    refine mj_all_cons 10 rfl (show _ = _ from by decide +kernel) ?_
    refine mj_all_cons 11 rfl (trivial) ?_
    refine mj_all_cons 12 rfl (trivial) ?_
    refine mj_all_cons 13 rfl (Or.inl ⟨by decide +kernel, rfl⟩) ?_
    refine mj_all_cons 14 rfl (show _ = _ from by decide +kernel) ?_
    refine mj_all_cons 15 rfl (trivial) ?_
    refine mj_all_cons 16 rfl (trivial) ?_
    refine mj_all_cons 17 rfl (Or.inl ⟨by decide +kernel, rfl⟩) ?_
    refine mj_all_cons 18 rfl (⟨95, "ListSpeakerModel", mjF9, 46, mjt9, by decide +kernel, rfl, by decide, mw_976, mjw9, mjk9, mjn9, rfl, by decide +kernel⟩) ?_
    refine mj_all_cons 19 rfl (trivial) ?_
    refine mj_all_cons 20 rfl (trivial) ?_
    refine mj_all_cons 21 rfl (Or.inl ⟨0, by decide +kernel, rfl, rfl⟩) ?_
    refine mj_all_cons 22 rfl (⟨95, "ListSpeakerModel", mjF9, 46, by decide +kernel, rfl, by decide, mw_976, mjw9⟩) ?_
    refine mj_all_cons 23 rfl (trivial) ?_
    refine mj_all_cons 24 rfl (trivial) ?_
    refine mj_all_cons 25 rfl (show _ = _ from by decide +kernel) ?_
    refine mj_all_cons 26 rfl (trivial) ?_
    refine mj_all_cons 27 rfl (trivial) ?_
    refine mj_all_cons 28 rfl (Or.inl ⟨by decide +kernel, rfl⟩) ?_
    refine mj_all_cons 29 rfl (show _ = _ from by decide +kernel) ?_
    refine mj_all_cons 30 rfl (Or.inl ⟨0, by decide +kernel, rfl, rfl⟩) ?_
    refine mj_all_cons 31 rfl (Or.inl ⟨1, by decide +kernel, rfl, rfl⟩) ?_
    refine mj_all_cons 32 rfl (⟨244, "ListSpeakerModel", mjF9, 46, mjt9, by decide +kernel, rfl, by decide, mw_1015, mjw9, mjk9, mjn9, rfl, by decide +kernel⟩) ?_
    refine mj_all_cons 33 rfl (trivial) ?_
    refine mj_all_cons 34 rfl (trivial) ?_
    refine mj_all_cons 35 rfl (Or.inl ⟨0, by decide +kernel, rfl, rfl⟩) ?_
    refine mj_all_cons 36 rfl (Or.inl ⟨by decide +kernel, rfl⟩) ?_
    refine mj_all_cons 37 rfl (⟨241, "ListSpeakerModel", mjF9, 46, mjt9, by decide +kernel, rfl, by decide, mw_1016, mjw9, mjk9, mjn9, rfl, by decide +kernel⟩) ?_
    refine mj_all_cons 38 rfl (trivial) ?_
    refine mj_all_cons 39 rfl (trivial) ?_
    refine mj_all_cons 40 rfl (Or.inl ⟨0, by decide +kernel, rfl, rfl⟩) ?_
    refine mj_all_cons 41 rfl (Or.inl ⟨by decide +kernel, rfl⟩) ?_
    refine mj_all_cons 42 rfl (⟨250, "ListSpeakerModel", mjF9, 46, mjt9, by decide +kernel, rfl, by decide, mw_1017, mjw9, mjk9, mjn9, rfl, by decide +kernel⟩) ?_
    refine mj_all_cons 43 rfl (trivial) ?_
    refine mj_all_cons 44 rfl (trivial) ?_
    refine mj_all_cons 45 rfl (Or.inl ⟨0, by decide +kernel, rfl, rfl⟩) ?_
    refine mj_all_cons 46 rfl (Or.inl ⟨by decide +kernel, rfl⟩) ?_
    refine mj_all_cons 47 rfl (⟨330, "ListSpeakerModel", mjF9, 46, mjt9, by decide +kernel, rfl, by decide, mw_1018, mjw9, mjk9, mjn9, rfl, by decide +kernel⟩) ?_
    refine mj_all_cons 48 rfl (trivial) ?_
    refine mj_all_cons 49 rfl (trivial) ?_
    refine mj_all_cons 50 rfl (Or.inl ⟨0, by decide +kernel, rfl, rfl⟩) ?_
    refine mj_all_cons 51 rfl (Or.inl ⟨by decide +kernel, rfl⟩) ?_
    refine mj_all_cons 52 rfl (⟨315, "ListSpeakerModel", mjF9, 46, mjt9, by decide +kernel, rfl, by decide, mw_1019, mjw9, mjk9, mjn9, rfl, by decide +kernel⟩) ?_
    refine mj_all_cons 53 rfl (trivial) ?_
    refine mj_all_cons 54 rfl (trivial) ?_
    refine mj_all_cons 55 rfl (Or.inl ⟨0, by decide +kernel, rfl, rfl⟩) ?_
    refine mj_all_cons 56 rfl (Or.inl ⟨by decide +kernel, rfl⟩) ?_
    refine mj_all_cons 57 rfl (⟨98, "ListSpeakerModel", mjF9, 46, mjt9, by decide +kernel, rfl, by decide, mw_980, mjw9, mjk9, mjn9, rfl, by decide +kernel⟩) ?_
    refine mj_all_cons 58 rfl (trivial) ?_
    refine mj_all_cons 59 rfl (trivial) ?_
    refine mj_all_cons 60 rfl (Or.inl ⟨0, by decide +kernel, rfl, rfl⟩) ?_
    refine mj_all_cons 61 rfl (Or.inl ⟨by decide +kernel, rfl⟩) ?_
    refine mj_all_cons 62 rfl (⟨116, "ListSpeakerModel", mjF9, 46, mjt9, by decide +kernel, rfl, by decide, mw_979, mjw9, mjk9, mjn9, rfl, by decide +kernel⟩) ?_
    refine mj_all_cons 63 rfl (trivial) ?_
    refine mj_all_cons 64 rfl (trivial) ?_
    refine mj_all_cons 65 rfl (Or.inl ⟨0, by decide +kernel, rfl, rfl⟩) ?_
    refine mj_all_cons 66 rfl (⟨mjmM12, 151, 0, rfl, by decide, mjmd12, mw_16, Or.inl ⟨9, mjF9, 46, by decide +kernel, rfl, rfl, rfl, mw_1130, mw_1132, mjsel_61⟩⟩) ?_
    refine mj_all_cons 67 rfl (trivial) ?_
    refine mj_all_cons 68 rfl (trivial) ?_
    refine mj_all_cons 69 rfl (Or.inl ⟨0, by decide +kernel, rfl, rfl⟩) ?_
    refine mj_all_cons 70 rfl (⟨98, "ListSpeakerModel", mjF9, 46, by decide +kernel, rfl, by decide, mw_980, mjw9⟩) ?_
    refine mj_all_cons 71 rfl (trivial) ?_
    refine mj_all_cons 72 rfl (trivial) ?_
    refine mj_all_cons 73 rfl (show _ = _ from by decide +kernel) ?_
    refine mj_all_cons 74 rfl (trivial) ?_
    refine mj_all_cons 75 rfl (trivial) ?_
    refine mj_all_cons 76 rfl (Or.inl ⟨0, by decide +kernel, rfl, rfl⟩) ?_
    refine mj_all_cons 77 rfl (⟨116, "ListSpeakerModel", mjF9, 46, by decide +kernel, rfl, by decide, mw_979, mjw9⟩) ?_
    refine mj_all_cons 78 rfl (trivial) ?_
    refine mj_all_cons 79 rfl (trivial) ?_
    refine mj_all_cons 80 rfl (Or.inl ⟨0, by decide +kernel, rfl, rfl⟩) ?_
    refine mj_all_cons 81 rfl (⟨113, "ListSpeakerModel", mjF9, 46, by decide +kernel, rfl, by decide, mw_977, mjw9⟩) ?_
    refine mj_all_cons 82 rfl (trivial) ?_
    refine mj_all_cons 83 rfl (trivial) ?_
    refine mj_all_cons 84 rfl (show _ = _ from by decide +kernel) ?_
    refine mj_all_cons 85 rfl (trivial) ?_
    refine mj_all_cons 86 rfl (trivial) ?_
    refine mj_all_cons 87 rfl (Or.inl ⟨0, by decide +kernel, rfl, rfl⟩) ?_
    refine mj_all_cons 88 rfl (⟨mjmM60, 333, 0, rfl, by decide, mjmd60, mw_16, Or.inl ⟨9, mjF9, 46, by decide +kernel, rfl, rfl, rfl, mw_1138, mw_1140, mjsel_63⟩⟩) ?_
    refine mj_all_cons 89 rfl (trivial) ?_
    refine mj_all_cons 90 rfl (trivial) ?_
    refine mj_all_cons 91 rfl (Or.inl ⟨0, by decide +kernel, rfl, rfl⟩) ?_
    refine mj_all_cons 92 rfl (⟨mjmM12, 151, 0, rfl, by decide, mjmd12, mw_16, Or.inl ⟨9, mjF9, 46, by decide +kernel, rfl, rfl, rfl, mw_1130, mw_1132, mjsel_61⟩⟩) ?_
    refine mj_all_cons 93 rfl (trivial) ?_
    refine mj_all_cons 94 rfl (trivial) ?_
    refine mj_all_cons 95 rfl (show _ = _ from by decide +kernel) ?_
    refine mj_all_cons 96 rfl (trivial) ?_
    refine mj_all_cons 97 rfl (trivial) ?_
    refine mj_all_cons 98 rfl (Or.inl ⟨0, by decide +kernel, rfl, rfl⟩) ?_
    refine mj_all_cons 99 rfl (⟨98, "ListSpeakerModel", mjF9, 46, by decide +kernel, rfl, by decide, mw_980, mjw9⟩) ?_
    refine mj_all_cons 100 rfl (trivial) ?_
    refine mj_all_cons 101 rfl (trivial) ?_
    refine mj_all_cons 102 rfl (show _ = _ from by decide +kernel) ?_
    refine mj_all_cons 103 rfl (trivial) ?_
    refine mj_all_cons 104 rfl (trivial) ?_
    refine mj_all_cons 105 rfl (Or.inl ⟨0, by decide +kernel, rfl, rfl⟩) ?_
    refine mj_all_cons 106 rfl (Or.inr (Or.inl ⟨by decide +kernel, rfl, by decide⟩)) ?_
    refine mj_all_cons 107 rfl (trivial) ?_
    refine mj_all_cons 108 rfl (⟨mjmM54, 318, 1, rfl, by decide, mjmd54, mw_16, Or.inl ⟨9, mjF9, 46, by decide +kernel, rfl, rfl, rfl, mw_1343, mw_1345, mjsel_107⟩⟩) ?_
    refine mj_all_cons 109 rfl (trivial) ?_
    refine mj_all_cons 110 rfl (trivial) ?_
    refine mj_all_cons 111 rfl (Or.inl ⟨0, by decide +kernel, rfl, rfl⟩) ?_
    refine mj_all_cons 112 rfl (Or.inl ⟨0, by decide +kernel, rfl, rfl⟩) ?_
    refine mj_all_cons 113 rfl (⟨98, "ListSpeakerModel", mjF9, 46, by decide +kernel, rfl, by decide, mw_980, mjw9⟩) ?_
    refine mj_all_cons 114 rfl (trivial) ?_
    refine mj_all_cons 115 rfl (trivial) ?_
    refine mj_all_cons 116 rfl (⟨mjmM55, 321, 1, rfl, by decide, mjmd55, mw_16, Or.inl ⟨9, mjF9, 46, by decide +kernel, rfl, rfl, rfl, mw_1355, mw_1357, mjsel_110⟩⟩) ?_
    refine mj_all_cons 117 rfl (trivial) ?_
    refine mj_all_cons 118 rfl (trivial) ?_
    refine mj_all_cons 119 rfl (Or.inl ⟨0, by decide +kernel, rfl, rfl⟩) ?_
    refine mj_all_cons 120 rfl (Or.inr (Or.inl ⟨by decide +kernel, rfl, by decide⟩)) ?_
    refine mj_all_cons 121 rfl (trivial) ?_
    refine mj_all_cons 122 rfl (⟨mjmM54, 318, 1, rfl, by decide, mjmd54, mw_16, Or.inl ⟨9, mjF9, 46, by decide +kernel, rfl, rfl, rfl, mw_1343, mw_1345, mjsel_107⟩⟩) ?_
    refine mj_all_cons 123 rfl (trivial) ?_
    refine mj_all_cons 124 rfl (trivial) ?_
    refine mj_all_cons 125 rfl (Or.inl ⟨0, by decide +kernel, rfl, rfl⟩) ?_
    refine mj_all_cons 126 rfl (Or.inl ⟨by decide +kernel, rfl⟩) ?_
    refine mj_all_cons 127 rfl (⟨113, "ListSpeakerModel", mjF9, 46, mjt9, by decide +kernel, rfl, by decide, mw_977, mjw9, mjk9, mjn9, rfl, by decide +kernel⟩) ?_
    refine mj_all_cons 128 rfl (trivial) ?_
    refine mj_all_cons 129 rfl (trivial) ?_
    refine mj_all_cons 130 rfl (Or.inl ⟨0, by decide +kernel, rfl, rfl⟩) ?_
    refine mj_all_cons 131 rfl (⟨98, "ListSpeakerModel", mjF9, 46, by decide +kernel, rfl, by decide, mw_980, mjw9⟩) ?_
    refine mj_all_cons 132 rfl (trivial) ?_
    refine mj_all_cons 133 rfl (trivial) ?_
    refine mj_all_cons 134 rfl (show _ = _ from by decide +kernel) ?_
    exact trivial
  intro pc o ho
  have := mj_all_get _ 0 h pc o ho
  rw [Nat.zero_add] at this
  exact this
set_option maxRecDepth 100000 in
theorem mjmi60 : ∀ (pc : Nat) (o : mj_O), mjmo60[pc]? = some o → mj_is mj_kl mjmM60.1.cls mj_WS mj_NWs mjm_Ms mjmM60.2.1 pc o := by
  have h : mj_all (mj_is mj_kl mjmM60.1.cls mj_WS mj_NWs mjm_Ms mjmM60.2.1) 0 mjmo60 := by
    unfold mjmo60
    refine mj_all_cons 1 rfl (Or.inl ⟨0, by decide +kernel, rfl, rfl⟩) ?_
    refine mj_all_cons 2 rfl (⟨145, "ListSpeakerModel", mjF9, 46, by decide +kernel, rfl, by decide, mw_986, mjw9⟩) ?_
    refine mj_all_cons 3 rfl (trivial) ?_
    refine mj_all_cons 4 rfl (trivial) ?_
    refine mj_all_cons 5 rfl (Or.inl ⟨1, by decide +kernel, rfl, rfl⟩) ?_
    refine mj_all_cons 6 rfl (Or.inl ⟨0, by decide +kernel, rfl, rfl⟩) ?_
    refine mj_all_cons 7 rfl (⟨220, "ListSpeakerModel", mjF9, 46, by decide +kernel, rfl, by decide, mw_997, mjw9⟩) ?_
    refine mj_all_cons 8 rfl (trivial) ?_
    refine mj_all_cons 9 rfl (trivial) ?_
    refine mj_all_cons 10 rfl (Or.inl ⟨2, by decide +kernel, rfl, rfl⟩) ?_
    refine mj_all_cons 11 rfl (Or.inl ⟨0, by decide +kernel, rfl, rfl⟩) ?_
    refine mj_all_cons 12 rfl (⟨mjmM20, 336, 0, rfl, by decide, mjmd20, mw_16, Or.inl ⟨9, mjF9, 46, by decide +kernel, rfl, rfl, rfl, mw_1142, mw_1144, mjsel_64⟩⟩) ?_
    refine mj_all_cons 13 rfl (trivial) ?_
    refine mj_all_cons 14 rfl (trivial) ?_
    refine mj_all_cons 15 rfl (Or.inl ⟨3, by decide +kernel, rfl, rfl⟩) ?_
    refine mj_all_cons 16 rfl (Or.inl ⟨0, by decide +kernel, rfl, rfl⟩) ?_
    refine mj_all_cons 17 rfl (Or.inl ⟨by decide +kernel, rfl⟩) ?_
    refine mj_all_cons 18 rfl (⟨177, "ListSpeakerModel", mjF9, 46, mjt9, by decide +kernel, rfl, by decide, mw_1008, mjw9, mjk9, mjn9, rfl, by decide +kernel⟩) ?_
    refine mj_all_cons 19 rfl (trivial) ?_
    refine mj_all_cons 20 rfl (trivial) ?_
    refine mj_all_cons 21 rfl (Or.inl ⟨0, by decide +kernel, rfl, rfl⟩) ?_
    refine mj_all_cons 22 rfl (Or.inl ⟨by decide +kernel, rfl⟩) ?_
    refine mj_all_cons 23 rfl (⟨180, "ListSpeakerModel", mjF9, 46, mjt9, by decide +kernel, rfl, by decide, mw_1011, mjw9, mjk9, mjn9, rfl, by decide +kernel⟩) ?_
    refine mj_all_cons 24 rfl (trivial) ?_
    refine mj_all_cons 25 rfl (trivial) ?_
    refine mj_all_cons 26 rfl (Or.inl ⟨0, by decide +kernel, rfl, rfl⟩) ?_
    refine mj_all_cons 27 rfl (⟨98, "ListSpeakerModel", mjF9, 46, by decide +kernel, rfl, by decide, mw_980, mjw9⟩) ?_
    refine mj_all_cons 28 rfl (trivial) ?_
    refine mj_all_cons 29 rfl (trivial) ?_
    refine mj_all_cons 30 rfl (show _ = _ from by decide +kernel) ?_
    refine mj_all_cons 31 rfl (trivial) ?_
    refine mj_all_cons 32 rfl (trivial) ?_
    refine mj_all_cons 33 rfl (Or.inl ⟨3, by decide +kernel, rfl, rfl⟩) ?_
    refine mj_all_cons 34 rfl (⟨mjmM3, 103, 1, rfl, by decide, mjmd3, mw_16, Or.inr (Or.inl ⟨by decide +kernel, rfl, rfl, mw_1194, mw_1195⟩)⟩) ?_
    refine mj_all_cons 35 rfl (trivial) ?_
    refine mj_all_cons 36 rfl (trivial) ?_
    refine mj_all_cons 37 rfl (show _ = _ from by decide +kernel) ?_
    refine mj_all_cons 38 rfl (trivial) ?_
    refine mj_all_cons 39 rfl (trivial) ?_
    refine mj_all_cons 40 rfl (Or.inl ⟨0, by decide +kernel, rfl, rfl⟩) ?_
    refine mj_all_cons 41 rfl (Or.inl ⟨3, by decide +kernel, rfl, rfl⟩) ?_
    refine mj_all_cons 42 rfl (⟨mjmM5, 111, 1, rfl, by decide, mjmd5, mw_16, Or.inl ⟨9, mjF9, 46, by decide +kernel, rfl, rfl, rfl, mw_1197, mw_1199, mjsel_74⟩⟩) ?_
    refine mj_all_cons 43 rfl (trivial) ?_
    refine mj_all_cons 44 rfl (trivial) ?_
    refine mj_all_cons 45 rfl (Or.inr (Or.inr (Or.inr (Or.inl ⟨216, by decide +kernel, rfl, mw_1201⟩)))) ?_
    refine mj_all_cons 46 rfl (trivial) ?_
    refine mj_all_cons 47 rfl (show _ = _ from by decide +kernel) ?_
    refine mj_all_cons 48 rfl (trivial) ?_
    refine mj_all_cons 49 rfl (trivial) ?_
    refine mj_all_cons 50 rfl (Or.inl ⟨by decide +kernel, rfl⟩) ?_
    refine mj_all_cons 51 rfl (show _ = _ from by decide +kernel) ?_
    refine mj_all_cons 52 rfl (trivial) ?_
    refine mj_all_cons 53 rfl (trivial) ?_
    refine mj_all_cons 54 rfl (Or.inl ⟨by decide +kernel, rfl⟩) ?_
    refine mj_all_cons 55 rfl (Or.inr ⟨by decide +kernel, rfl⟩) ?_
    refine mj_all_cons 56 rfl (trivial) ?_
    refine mj_all_cons 57 rfl (Or.inr (Or.inr (Or.inr (Or.inl ⟨101, by decide +kernel, rfl, mw_1150⟩)))) ?_
    refine mj_all_cons 58 rfl (trivial) ?_
    refine mj_all_cons 59 rfl (Or.inr ⟨by decide +kernel, rfl⟩) ?_
    refine mj_all_cons 60 rfl (trivial) ?_
    refine mj_all_cons 61 rfl (Or.inr ⟨by decide +kernel, rfl⟩) ?_
    refine mj_all_cons 62 rfl (trivial) ?_
    refine mj_all_cons 63 rfl (show _ = _ from by decide +kernel) ?_
    refine mj_all_cons 64 rfl (trivial) ?_
    refine mj_all_cons 65 rfl (trivial) ?_
    refine mj_all_cons 66 rfl (Or.inl ⟨0, by decide +kernel, rfl, rfl⟩) ?_
    refine mj_all_cons 67 rfl (Or.inl ⟨3, by decide +kernel, rfl, rfl⟩) ?_
    refine mj_all_cons 68 rfl (⟨mjmM35, 339, 1, rfl, by decide, mjmd35, mw_16, Or.inl ⟨9, mjF9, 46, by decide +kernel, rfl, rfl, rfl, mw_1202, mw_1204, mjsel_75⟩⟩) ?_
    refine mj_all_cons 69 rfl (trivial) ?_
    refine mj_all_cons 70 rfl (trivial) ?_
    refine mj_all_cons 71 rfl (show _ = _ from by decide +kernel) ?_
    refine mj_all_cons 72 rfl (trivial) ?_
    refine mj_all_cons 73 rfl (trivial) ?_
    refine mj_all_cons 74 rfl (Or.inl ⟨0, by decide +kernel, rfl, rfl⟩) ?_
    refine mj_all_cons 75 rfl (Or.inl ⟨3, by decide +kernel, rfl, rfl⟩) ?_
    refine mj_all_cons 76 rfl (Or.inl ⟨by decide +kernel, rfl⟩) ?_
    refine mj_all_cons 77 rfl (⟨mjmM8, 193, 2, rfl, by decide, mjmd8, mw_16, Or.inl ⟨9, mjF9, 46, by decide +kernel, rfl, rfl, rfl, mw_1214, mw_1216, mjsel_78⟩⟩) ?_
    refine mj_all_cons 78 rfl (trivial) ?_
    refine mj_all_cons 79 rfl (trivial) ?_
    refine mj_all_cons 80 rfl (show _ = _ from by decide +kernel) ?_
    refine mj_all_cons 81 rfl (trivial) ?_
    refine mj_all_cons 82 rfl (trivial) ?_
    refine mj_all_cons 83 rfl (Or.inr (Or.inr (Or.inr (Or.inl ⟨101, by decide +kernel, rfl, mw_1150⟩)))) ?_
    refine mj_all_cons 84 rfl (trivial) ?_
    refine mj_all_cons 85 rfl (Or.inr ⟨by decide +kernel, rfl⟩) ?_
    refine mj_all_cons 86 rfl (trivial) ?_
    refine mj_all_cons 87 rfl (show _ = _ from by decide +kernel) ?_
    refine mj_all_cons 88 rfl (trivial) ?_
    refine mj_all_cons 89 rfl (trivial) ?_
    refine mj_all_cons 90 rfl (Or.inl ⟨0, by decide +kernel, rfl, rfl⟩) ?_
    refine mj_all_cons 91 rfl (⟨98, "ListSpeakerModel", mjF9, 46, by decide +kernel, rfl, by decide, mw_980, mjw9⟩) ?_
    refine mj_all_cons 92 rfl (trivial) ?_
    refine mj_all_cons 93 rfl (trivial) ?_
    refine mj_all_cons 94 rfl (show _ = _ from by decide +kernel) ?_
    refine mj_all_cons 95 rfl (trivial) ?_
    refine mj_all_cons 96 rfl (trivial) ?_
    refine mj_all_cons 97 rfl (Or.inl ⟨0, by decide +kernel, rfl, rfl⟩) ?_
    refine mj_all_cons 98 rfl (Or.inl ⟨3, by decide +kernel, rfl, rfl⟩) ?_
    refine mj_all_cons 99 rfl (⟨mjmM27, 227, 1, rfl, by decide, mjmd27, mw_16, Or.inl ⟨9, mjF9, 46, by decide +kernel, rfl, rfl, rfl, mw_1235, mw_1237, mjsel_82⟩⟩) ?_
    refine mj_all_cons 100 rfl (trivial) ?_
    refine mj_all_cons 101 rfl (trivial) ?_
    refine mj_all_cons 102 rfl (Or.inl ⟨0, by decide +kernel, rfl, rfl⟩) ?_
    refine mj_all_cons 103 rfl (⟨98, "ListSpeakerModel", mjF9, 46, by decide +kernel, rfl, by decide, mw_980, mjw9⟩) ?_
    refine mj_all_cons 104 rfl (trivial) ?_
    refine mj_all_cons 105 rfl (trivial) ?_
    refine mj_all_cons 106 rfl (show _ = _ from by decide +kernel) ?_
    refine mj_all_cons 107 rfl (trivial) ?_
    refine mj_all_cons 108 rfl (trivial) ?_
    refine mj_all_cons 109 rfl (Or.inl ⟨0, by decide +kernel, rfl, rfl⟩) ?_
    refine mj_all_cons 110 rfl (Or.inl ⟨3, by decide +kernel, rfl, rfl⟩) ?_
    refine mj_all_cons 111 rfl (⟨mjmM40, 342, 1, rfl, by decide, mjmd40, mw_16, Or.inl ⟨9, mjF9, 46, by decide +kernel, rfl, rfl, rfl, mw_1275, mw_1277, mjsel_92⟩⟩) ?_
    refine mj_all_cons 112 rfl (trivial) ?_
    refine mj_all_cons 113 rfl (trivial) ?_
    refine mj_all_cons 114 rfl (Or.inr ⟨by decide +kernel, rfl⟩) ?_
    refine mj_all_cons 115 rfl (trivial) ?_
    refine mj_all_cons 116 rfl (Or.inl ⟨0, by decide +kernel, rfl, rfl⟩) ?_
    refine mj_all_cons 117 rfl (⟨98, "ListSpeakerModel", mjF9, 46, by decide +kernel, rfl, by decide, mw_980, mjw9⟩) ?_
    refine mj_all_cons 118 rfl (trivial) ?_
    refine mj_all_cons 119 rfl (trivial) ?_
    refine mj_all_cons 120 rfl (show _ = _ from by decide +kernel) ?_
    refine mj_all_cons 121 rfl (trivial) ?_
    refine mj_all_cons 122 rfl (trivial) ?_
    refine mj_all_cons 123 rfl (Or.inl ⟨0, by decide +kernel, rfl, rfl⟩) ?_
    refine mj_all_cons 124 rfl (Or.inr ⟨by decide +kernel, rfl⟩) ?_
    refine mj_all_cons 125 rfl (trivial) ?_
    refine mj_all_cons 126 rfl (⟨mjmM57, 345, 1, rfl, by decide, mjmd57, mw_16, Or.inl ⟨9, mjF9, 46, by decide +kernel, rfl, rfl, rfl, mw_1339, mw_1341, mjsel_106⟩⟩) ?_
    refine mj_all_cons 127 rfl (trivial) ?_
    refine mj_all_cons 128 rfl (trivial) ?_
    refine mj_all_cons 129 rfl (Or.inl ⟨0, by decide +kernel, rfl, rfl⟩) ?_
    refine mj_all_cons 130 rfl (Or.inr (Or.inl ⟨by decide +kernel, rfl, by decide⟩)) ?_
    refine mj_all_cons 131 rfl (trivial) ?_
    refine mj_all_cons 132 rfl (⟨mjmM54, 318, 1, rfl, by decide, mjmd54, mw_16, Or.inl ⟨9, mjF9, 46, by decide +kernel, rfl, rfl, rfl, mw_1343, mw_1345, mjsel_107⟩⟩) ?_
    refine mj_all_cons 133 rfl (trivial) ?_
    refine mj_all_cons 134 rfl (trivial) ?_
    refine mj_all_cons 135 rfl (Or.inl ⟨0, by decide +kernel, rfl, rfl⟩) ?_
    refine mj_all_cons 136 rfl (show _ = _ from by decide +kernel) ?_
    refine mj_all_cons 137 rfl (⟨330, "ListSpeakerModel", mjF9, 46, by decide +kernel, rfl, by decide, mw_1018, mjw9⟩) ?_
    refine mj_all_cons 138 rfl (trivial) ?_
    refine mj_all_cons 139 rfl (trivial) ?_
    refine mj_all_cons 140 rfl (Or.inl ⟨by decide +kernel, rfl⟩) ?_
    refine mj_all_cons 141 rfl (show _ = _ from by decide +kernel) ?_
    refine mj_all_cons 142 rfl (⟨330, "ListSpeakerModel", mjF9, 46, mjt9, by decide +kernel, rfl, by decide, mw_1018, mjw9, mjk9, mjn9, rfl, by decide +kernel⟩) ?_
    refine mj_all_cons 143 rfl (trivial) ?_
    refine mj_all_cons 144 rfl (trivial) ?_
    refine mj_all_cons 145 rfl (Or.inl ⟨0, by decide +kernel, rfl, rfl⟩) ?_
    refine mj_all_cons 146 rfl (Or.inl ⟨0, by decide +kernel, rfl, rfl⟩) ?_
    refine mj_all_cons 147 rfl (⟨220, "ListSpeakerModel", mjF9, 46, by decide +kernel, rfl, by decide, mw_997, mjw9⟩) ?_
    refine mj_all_cons 148 rfl (trivial) ?_
    refine mj_all_cons 149 rfl (trivial) ?_
    refine mj_all_cons 150 rfl (Or.inl ⟨2, by decide +kernel, rfl, rfl⟩) ?_
    refine mj_all_cons 151 rfl (show _ = _ from by decide +kernel) ?_
    refine mj_all_cons 152 rfl (trivial) ?_
    refine mj_all_cons 153 rfl (trivial) ?_
    refine mj_all_cons 154 rfl (Or.inl ⟨0, by decide +kernel, rfl, rfl⟩) ?_
    refine mj_all_cons 155 rfl (⟨145, "ListSpeakerModel", mjF9, 46, by decide +kernel, rfl, by decide, mw_986, mjw9⟩) ?_
    refine mj_all_cons 156 rfl (trivial) ?_
    refine mj_all_cons 157 rfl (trivial) ?_
    refine mj_all_cons 158 rfl (show _ = _ from by decide +kernel) ?_
    refine mj_all_cons 159 rfl (trivial) ?_
    refine mj_all_cons 160 rfl (trivial) ?_
    refine mj_all_cons 161 rfl (Or.inl ⟨1, by decide +kernel, rfl, rfl⟩) ?_
    refine mj_all_cons 162 rfl (⟨145, "ListSpeakerModel", mjF9, 46, mjt9, by decide +kernel, rfl, by decide, mw_986, mjw9, mjk9, mjn9, rfl, by decide +kernel⟩) ?_
    refine mj_all_cons 163 rfl (trivial) ?_
    refine mj_all_cons 164 rfl (trivial) ?_
    refine mj_all_cons 165 rfl (show _ = _ from by decide +kernel) ?_
    exact trivial
  intro pc o ho
  have := mj_all_get _ 0 h pc o ho
  rw [Nat.zero_add] at this
  exact this
set_option maxRecDepth 100000 in
theorem mjmi61 : ∀ (pc : Nat) (o : mj_O), mjmo61[pc]? = some o → mj_is mj_kl mjmM61.1.cls mj_WS mj_NWs mjm_Ms mjmM61.2.1 pc o := by
  have h : mj_all (mj_is mj_kl mjmM61.1.cls mj_WS mj_NWs mjm_Ms mjmM61.2.1) 0 mjmo61 := by
    unfold mjmo61
    refine mj_all_cons 1 rfl (Or.inl ⟨0, by decide +kernel, rfl, rfl⟩) ?_
    refine mj_all_cons 2 rfl (Or.inl ⟨1, by decide +kernel, rfl, rfl⟩) ?_
    refine mj_all_cons 3 rfl (show _ = _ from by decide +kernel) ?_
    refine mj_all_cons 4 rfl (trivial) ?_
    refine mj_all_cons 5 rfl (trivial) ?_
    refine mj_all_cons 6 rfl (Or.inl ⟨1, by decide +kernel, rfl, rfl⟩) ?_
    refine mj_all_cons 7 rfl (Or.inl ⟨0, by decide +kernel, rfl, rfl⟩) ?_
    refine mj_all_cons 8 rfl (⟨315, "ListSpeakerModel", mjF9, 46, by decide +kernel, rfl, by decide, mw_1019, mjw9⟩) ?_
    refine mj_all_cons 9 rfl (trivial) ?_
    refine mj_all_cons 10 rfl (trivial) ?_
    refine mj_all_cons 11 rfl (show _ = _ from by decide +kernel) ?_
    refine mj_all_cons 12 rfl (trivial) ?_
    refine mj_all_cons 13 rfl (trivial) ?_
    refine mj_all_cons 14 rfl (Or.inl ⟨by decide +kernel, rfl⟩) ?_
    refine mj_all_cons 15 rfl (show _ = _ from by decide +kernel) ?_
    refine mj_all_cons 16 rfl (trivial) ?_
    refine mj_all_cons 17 rfl (trivial) ?_
    refine mj_all_cons 18 rfl (Or.inl ⟨by decide +kernel, rfl⟩) ?_
    refine mj_all_cons 19 rfl (⟨95, "ListSpeakerModel", mjF9, 46, mjt9, by decide +kernel, rfl, by decide, mw_976, mjw9, mjk9, mjn9, rfl, by decide +kernel⟩) ?_
    refine mj_all_cons 20 rfl (trivial) ?_
    refine mj_all_cons 21 rfl (trivial) ?_
    refine mj_all_cons 22 rfl (Or.inl ⟨0, by decide +kernel, rfl, rfl⟩) ?_
    refine mj_all_cons 23 rfl (⟨95, "ListSpeakerModel", mjF9, 46, by decide +kernel, rfl, by decide, mw_976, mjw9⟩) ?_
    refine mj_all_cons 24 rfl (trivial) ?_
    refine mj_all_cons 25 rfl (trivial) ?_
    refine mj_all_cons 26 rfl (show _ = _ from by decide +kernel) ?_
    refine mj_all_cons 27 rfl (trivial) ?_
    refine mj_all_cons 28 rfl (trivial) ?_
    refine mj_all_cons 29 rfl (Or.inr (Or.inl ⟨by decide +kernel, rfl, by decide⟩)) ?_
    refine mj_all_cons 30 rfl (trivial) ?_
    refine mj_all_cons 31 rfl (show _ = _ from by decide +kernel) ?_
    refine mj_all_cons 32 rfl (trivial) ?_
    refine mj_all_cons 33 rfl (trivial) ?_
    refine mj_all_cons 34 rfl (Or.inl ⟨0, by decide +kernel, rfl, rfl⟩) ?_
    refine mj_all_cons 35 rfl (⟨81, "ListSpeakerModel", mjF9, 46, by decide +kernel, rfl, by decide, mw_1020, mjw9⟩) ?_
    refine mj_all_cons 36 rfl (trivial) ?_
    refine mj_all_cons 37 rfl (trivial) ?_
    refine mj_all_cons 38 rfl (Or.inl ⟨1, by decide +kernel, rfl, rfl⟩) ?_
    refine mj_all_cons 39 rfl (show _ = _ from by decide +kernel) ?_
    refine mj_all_cons 40 rfl (show _ = _ from by decide +kernel) ?_
    exact trivial
  intro pc o ho
  have := mj_all_get _ 0 h pc o ho
  rw [Nat.zero_add] at this
  exact this
set_option maxRecDepth 100000 in
theorem mjmi62 : ∀ (pc : Nat) (o : mj_O), mjmo62[pc]? = some o → mj_is mj_kl mjmM62.1.cls mj_WS mj_NWs mjm_Ms mjmM62.2.1 pc o := by
  have h : mj_all (mj_is mj_kl mjmM62.1.cls mj_WS mj_NWs mjm_Ms mjmM62.2.1) 0 mjmo62 := by
    unfold mjmo62
    refine mj_all_cons 1 rfl (Or.inl ⟨0, by decide +kernel, rfl, rfl⟩) ?_
    refine mj_all_cons 2 rfl (Or.inl ⟨by decide +kernel, rfl⟩) ?_
    refine mj_all_cons 3 rfl (⟨95, "ListSpeakerModel", mjF9, 46, mjt9, by decide +kernel, rfl, by decide, mw_976, mjw9, mjk9, mjn9, rfl, by decide +kernel⟩) ?_
    refine mj_all_cons 4 rfl (trivial) ?_
    refine mj_all_cons 5 rfl (trivial) ?_
    refine mj_all_cons 6 rfl (Or.inl ⟨1, by decide +kernel, rfl, rfl⟩) ?_
    refine mj_all_cons 7 rfl (⟨95, 8, #[50, 55, 60, 65, 70, 75, 80, 85, 90], 50, by decide +kernel, by decide, by decide, by decide⟩) ?_
    refine mj_all_cons 8 rfl (trivial) ?_
    refine mj_all_cons 9 rfl (trivial) ?_
    refine mj_all_cons 10 rfl (trivial) ?_
    refine mj_all_cons 11 rfl (trivial) ?_
    refine mj_all_cons 12 rfl (trivial) ?_
    refine mj_all_cons 13 rfl (trivial) ?_
    refine mj_all_cons 14 rfl (trivial) ?_
    refine mj_all_cons 15 rfl (trivial) ?_
    refine mj_all_cons 16 rfl (trivial) ?_
    refine mj_all_cons 17 rfl (trivial) ?_
    refine mj_all_cons 18 rfl (trivial) ?_
    refine mj_all_cons 19 rfl (trivial) ?_
    refine mj_all_cons 20 rfl (trivial) ?_
    refine mj_all_cons 21 rfl (trivial) ?_
    refine mj_all_cons 22 rfl (trivial) ?_
    refine mj_all_cons 23 rfl (trivial) ?_
    refine mj_all_cons 24 rfl (trivial) ?_
    refine mj_all_cons 25 rfl (trivial) ?_
    refine mj_all_cons 26 rfl (trivial) ?_
    refine mj_all_cons 27 rfl (trivial) ?_
    refine mj_all_cons 28 rfl (trivial) ?_
    refine mj_all_cons 29 rfl (trivial) ?_
    refine mj_all_cons 30 rfl (trivial) ?_
    refine mj_all_cons 31 rfl (trivial) ?_
    refine mj_all_cons 32 rfl (trivial) ?_
    refine mj_all_cons 33 rfl (trivial) ?_
    refine mj_all_cons 34 rfl (trivial) ?_
    refine mj_all_cons 35 rfl (trivial) ?_
    refine mj_all_cons 36 rfl (trivial) ?_
    refine mj_all_cons 37 rfl (trivial) ?_
    refine mj_all_cons 38 rfl (trivial) ?_
    refine mj_all_cons 39 rfl (trivial) ?_
    refine mj_all_cons 40 rfl (trivial) ?_
    refine mj_all_cons 41 rfl (trivial) ?_
    refine mj_all_cons 42 rfl (trivial) ?_
    refine mj_all_cons 43 rfl (trivial) ?_
    refine mj_all_cons 44 rfl (trivial) ?_
    refine mj_all_cons 45 rfl (trivial) ?_
    refine mj_all_cons 46 rfl (trivial) ?_
    refine mj_all_cons 47 rfl (trivial) ?_
    refine mj_all_cons 48 rfl (trivial) ?_
    refine mj_all_cons 49 rfl (trivial) ?_
    refine mj_all_cons 50 rfl (trivial) ?_
    refine mj_all_cons 51 rfl (trivial) ?_
    refine mj_all_cons 52 rfl (trivial) ?_
    refine mj_all_cons 53 rfl (trivial) ?_
    refine mj_all_cons 54 rfl (trivial) ?_
    refine mj_all_cons 55 rfl (trivial) ?_
    refine mj_all_cons 56 rfl (trivial) ?_
    refine mj_all_cons 57 rfl (Or.inl ⟨0, by decide +kernel, rfl, rfl⟩) ?_
    refine mj_all_cons 58 rfl (⟨315, "ListSpeakerModel", mjF9, 46, by decide +kernel, rfl, by decide, mw_1019, mjw9⟩) ?_
    refine mj_all_cons 59 rfl (trivial) ?_
    refine mj_all_cons 60 rfl (trivial) ?_
    refine mj_all_cons 61 rfl (show _ = _ from by decide +kernel) ?_
    refine mj_all_cons 62 rfl (Or.inl ⟨0, by decide +kernel, rfl, rfl⟩) ?_
    refine mj_all_cons 63 rfl (⟨220, "ListSpeakerModel", mjF9, 46, by decide +kernel, rfl, by decide, mw_997, mjw9⟩) ?_
    refine mj_all_cons 64 rfl (trivial) ?_
    refine mj_all_cons 65 rfl (trivial) ?_
    refine mj_all_cons 66 rfl (show _ = _ from by decide +kernel) ?_
    refine mj_all_cons 67 rfl (Or.inl ⟨0, by decide +kernel, rfl, rfl⟩) ?_
    refine mj_all_cons 68 rfl (⟨92, "ListSpeakerModel", mjF9, 46, by decide +kernel, rfl, by decide, mw_981, mjw9⟩) ?_
    refine mj_all_cons 69 rfl (trivial) ?_
    refine mj_all_cons 70 rfl (trivial) ?_
    refine mj_all_cons 71 rfl (show _ = _ from by decide +kernel) ?_
    refine mj_all_cons 72 rfl (Or.inl ⟨0, by decide +kernel, rfl, rfl⟩) ?_
    refine mj_all_cons 73 rfl (⟨145, "ListSpeakerModel", mjF9, 46, by decide +kernel, rfl, by decide, mw_986, mjw9⟩) ?_
    refine mj_all_cons 74 rfl (trivial) ?_
    refine mj_all_cons 75 rfl (trivial) ?_
    refine mj_all_cons 76 rfl (show _ = _ from by decide +kernel) ?_
    refine mj_all_cons 77 rfl (Or.inl ⟨0, by decide +kernel, rfl, rfl⟩) ?_
    refine mj_all_cons 78 rfl (⟨294, "ListSpeakerModel", mjF9, 46, by decide +kernel, rfl, by decide, mw_987, mjw9⟩) ?_
    refine mj_all_cons 79 rfl (trivial) ?_
    refine mj_all_cons 80 rfl (trivial) ?_
    refine mj_all_cons 81 rfl (show _ = _ from by decide +kernel) ?_
    refine mj_all_cons 82 rfl (Or.inl ⟨0, by decide +kernel, rfl, rfl⟩) ?_
    refine mj_all_cons 83 rfl (⟨301, "ListSpeakerModel", mjF9, 46, by decide +kernel, rfl, by decide, mw_988, mjw9⟩) ?_
    refine mj_all_cons 84 rfl (trivial) ?_
    refine mj_all_cons 85 rfl (trivial) ?_
    refine mj_all_cons 86 rfl (show _ = _ from by decide +kernel) ?_
    refine mj_all_cons 87 rfl (Or.inl ⟨0, by decide +kernel, rfl, rfl⟩) ?_
    refine mj_all_cons 88 rfl (⟨241, "ListSpeakerModel", mjF9, 46, by decide +kernel, rfl, by decide, mw_1016, mjw9⟩) ?_
    refine mj_all_cons 89 rfl (trivial) ?_
    refine mj_all_cons 90 rfl (trivial) ?_
    refine mj_all_cons 91 rfl (show _ = _ from by decide +kernel) ?_
    refine mj_all_cons 92 rfl (Or.inl ⟨0, by decide +kernel, rfl, rfl⟩) ?_
    refine mj_all_cons 93 rfl (⟨330, "ListSpeakerModel", mjF9, 46, by decide +kernel, rfl, by decide, mw_1018, mjw9⟩) ?_
    refine mj_all_cons 94 rfl (trivial) ?_
    refine mj_all_cons 95 rfl (trivial) ?_
    refine mj_all_cons 96 rfl (show _ = _ from by decide +kernel) ?_
    refine mj_all_cons 97 rfl (Or.inl ⟨0, by decide +kernel, rfl, rfl⟩) ?_
    refine mj_all_cons 98 rfl (⟨250, "ListSpeakerModel", mjF9, 46, by decide +kernel, rfl, by decide, mw_1017, mjw9⟩) ?_
    refine mj_all_cons 99 rfl (trivial) ?_
    refine mj_all_cons 100 rfl (trivial) ?_
    refine mj_all_cons 101 rfl (show _ = _ from by decide +kernel) ?_
    refine mj_all_cons 102 rfl (Or.inl ⟨by decide +kernel, rfl⟩) ?_
    refine mj_all_cons 103 rfl (show _ = _ from by decide +kernel) ?_
    exact trivial
  intro pc o ho
  have := mj_all_get _ 0 h pc o ho
  rw [Nat.zero_add] at this
  exact this
set_option maxRecDepth 100000 in
theorem mjmi63 : ∀ (pc : Nat) (o : mj_O), mjmo63[pc]? = some o → mj_is mj_kl mjmM63.1.cls mj_WS mj_NWs mjm_Ms mjmM63.2.1 pc o := by
  have h : mj_all (mj_is mj_kl mjmM63.1.cls mj_WS mj_NWs mjm_Ms mjmM63.2.1) 0 mjmo63 := by
    unfold mjmo63
    refine mj_all_cons 1 rfl (trivial) ?_
    refine mj_all_cons 2 rfl (trivial) ?_
    refine mj_all_cons 3 rfl (trivial) ?_
    refine mj_all_cons 4 rfl (trivial) ?_
    refine mj_all_cons 5 rfl (trivial) ?_
    refine mj_all_cons 6 rfl (trivial) ?_
    refine mj_all_cons 7 rfl (trivial) ?_
    refine mj_all_cons 8 rfl (trivial) ?_
    refine mj_all_cons 9 rfl (trivial) ?_
    refine mj_all_cons 10 rfl (trivial) ?_
    refine mj_all_cons 11 rfl (trivial) ?_
    refine mj_all_cons 12 rfl (trivial) ?_
    refine mj_all_cons 13 rfl (trivial) ?_
    refine mj_all_cons 14 rfl (trivial) ?_
    refine mj_all_cons 15 rfl (trivial) ?_
    refine mj_all_cons 16 rfl (trivial) ?_
    refine mj_all_cons 17 rfl (trivial) ?_
    refine mj_all_cons 18 rfl (trivial) ?_
    refine mj_all_cons 19 rfl (trivial) ?_
    refine mj_all_cons 20 rfl (trivial) ?_
    refine mj_all_cons 21 rfl (trivial) ?_
    refine mj_all_cons 22 rfl (trivial) ?_
    refine mj_all_cons 23 rfl (trivial) ?_
    refine mj_all_cons 24 rfl (trivial) ?_
    refine mj_all_cons 25 rfl (trivial) ?_
    refine mj_all_cons 26 rfl (trivial) ?_
    refine mj_all_cons 27 rfl (trivial) ?_
    refine mj_all_cons 28 rfl (trivial) ?_
    refine mj_all_cons 29 rfl (trivial) ?_
    refine mj_all_cons 30 rfl (trivial) ?_
    refine mj_all_cons 31 rfl (trivial) ?_
    refine mj_all_cons 32 rfl (trivial) ?_
    refine mj_all_cons 33 rfl (trivial) ?_
    refine mj_all_cons 34 rfl (trivial) ?_
    refine mj_all_cons 35 rfl (trivial) ?_
    refine mj_all_cons 36 rfl (trivial) ?_
    refine mj_all_cons 37 rfl (trivial) ?_
    refine mj_all_cons 38 rfl (trivial) ?_
    refine mj_all_cons 39 rfl (trivial) ?_
    refine mj_all_cons 40 rfl (trivial) ?_
    refine mj_all_cons 41 rfl (trivial) ?_
    refine mj_all_cons 42 rfl (trivial) ?_
    refine mj_all_cons 43 rfl (trivial) ?_
    refine mj_all_cons 44 rfl (trivial) ?_
    refine mj_all_cons 45 rfl (trivial) ?_
    refine mj_all_cons 46 rfl (trivial) ?_
    refine mj_all_cons 47 rfl (trivial) ?_
    refine mj_all_cons 48 rfl (trivial) ?_
    refine mj_all_cons 49 rfl (trivial) ?_
    refine mj_all_cons 50 rfl (trivial) ?_
    refine mj_all_cons 51 rfl (trivial) ?_
    refine mj_all_cons 52 rfl (trivial) ?_
    refine mj_all_cons 53 rfl (trivial) ?_
    refine mj_all_cons 54 rfl (trivial) ?_
    refine mj_all_cons 55 rfl (trivial) ?_
    refine mj_all_cons 56 rfl (trivial) ?_
    refine mj_all_cons 57 rfl (trivial) ?_
    refine mj_all_cons 58 rfl (trivial) ?_
    refine mj_all_cons 59 rfl (trivial) ?_
    refine mj_all_cons 60 rfl (trivial) ?_
    refine mj_all_cons 61 rfl (trivial) ?_
    refine mj_all_cons 62 rfl (trivial) ?_
    refine mj_all_cons 63 rfl (trivial) ?_
    refine mj_all_cons 64 rfl (trivial) ?_
    refine mj_all_cons 65 rfl (trivial) ?_
    refine mj_all_cons 66 rfl (trivial) ?_
    refine mj_all_cons 67 rfl (trivial) ?_
    refine mj_all_cons 68 rfl (trivial) ?_
    refine mj_all_cons 69 rfl (trivial) ?_
    refine mj_all_cons 70 rfl (trivial) ?_
    refine mj_all_cons 71 rfl (trivial) ?_
    refine mj_all_cons 72 rfl (trivial) ?_
    refine mj_all_cons 73 rfl (trivial) ?_
    refine mj_all_cons 74 rfl (trivial) ?_
    refine mj_all_cons 75 rfl (trivial) ?_
    refine mj_all_cons 76 rfl (trivial) ?_
    refine mj_all_cons 77 rfl (trivial) ?_
    refine mj_all_cons 78 rfl (trivial) ?_
    refine mj_all_cons 79 rfl (trivial) ?_
    refine mj_all_cons 80 rfl (trivial) ?_
    refine mj_all_cons 81 rfl (trivial) ?_
    refine mj_all_cons 82 rfl (trivial) ?_
    refine mj_all_cons 83 rfl (trivial) ?_
    refine mj_all_cons 84 rfl (trivial) ?_
    refine mj_all_cons 85 rfl (trivial) ?_
    refine mj_all_cons 86 rfl (trivial) ?_
    refine mj_all_cons 87 rfl (trivial) ?_
    refine mj_all_cons 88 rfl (trivial) ?_
    refine mj_all_cons 89 rfl (trivial) ?_
    refine mj_all_cons 90 rfl (trivial) ?_
    refine mj_all_cons 91 rfl (trivial) ?_
    refine mj_all_cons 92 rfl (trivial) ?_
    refine mj_all_cons 93 rfl (trivial) ?_
    refine mj_all_cons 94 rfl (trivial) ?_
    refine mj_all_cons 95 rfl (trivial) ?_
    refine mj_all_cons 96 rfl (trivial) ?_
    refine mj_all_cons 97 rfl (trivial) ?_
    refine mj_all_cons 98 rfl (trivial) ?_
    refine mj_all_cons 99 rfl (trivial) ?_
    refine mj_all_cons 100 rfl (trivial) ?_
    refine mj_all_cons 101 rfl (trivial) ?_
    refine mj_all_cons 102 rfl (trivial) ?_
    refine mj_all_cons 103 rfl (trivial) ?_
    refine mj_all_cons 104 rfl (trivial) ?_
    refine mj_all_cons 105 rfl (trivial) ?_
    refine mj_all_cons 106 rfl (trivial) ?_
    refine mj_all_cons 107 rfl (trivial) ?_
    refine mj_all_cons 108 rfl (trivial) ?_
    refine mj_all_cons 109 rfl (trivial) ?_
    refine mj_all_cons 110 rfl (trivial) ?_
    refine mj_all_cons 111 rfl (trivial) ?_
    refine mj_all_cons 112 rfl (trivial) ?_
    refine mj_all_cons 113 rfl (trivial) ?_
    refine mj_all_cons 114 rfl (trivial) ?_
    refine mj_all_cons 115 rfl (trivial) ?_
    refine mj_all_cons 116 rfl (trivial) ?_
    refine mj_all_cons 117 rfl (trivial) ?_
    refine mj_all_cons 118 rfl (trivial) ?_
    refine mj_all_cons 119 rfl (trivial) ?_
    refine mj_all_cons 120 rfl (trivial) ?_
    refine mj_all_cons 121 rfl (trivial) ?_
    refine mj_all_cons 122 rfl (trivial) ?_
    refine mj_all_cons 123 rfl (trivial) ?_
    refine mj_all_cons 124 rfl (trivial) ?_
    refine mj_all_cons 125 rfl (trivial) ?_
    refine mj_all_cons 126 rfl (trivial) ?_
    refine mj_all_cons 127 rfl (trivial) ?_
    refine mj_all_cons 128 rfl (trivial) ?_
    refine mj_all_cons 129 rfl (trivial) ?_
    refine mj_all_cons 130 rfl (trivial) ?_
    refine mj_all_cons 131 rfl (trivial) ?_
    refine mj_all_cons 132 rfl (trivial) ?_
    refine mj_all_cons 133 rfl (trivial) ?_
    refine mj_all_cons 134 rfl (trivial) ?_
    refine mj_all_cons 135 rfl (trivial) ?_
    refine mj_all_cons 136 rfl (trivial) ?_
    refine mj_all_cons 137 rfl (trivial) ?_
    refine mj_all_cons 138 rfl (trivial) ?_
    refine mj_all_cons 139 rfl (trivial) ?_
    refine mj_all_cons 140 rfl (trivial) ?_
    refine mj_all_cons 141 rfl (trivial) ?_
    refine mj_all_cons 142 rfl (trivial) ?_
    refine mj_all_cons 143 rfl (trivial) ?_
    refine mj_all_cons 144 rfl (trivial) ?_
    refine mj_all_cons 145 rfl (trivial) ?_
    refine mj_all_cons 146 rfl (trivial) ?_
    refine mj_all_cons 147 rfl (trivial) ?_
    refine mj_all_cons 148 rfl (trivial) ?_
    refine mj_all_cons 149 rfl (trivial) ?_
    refine mj_all_cons 150 rfl (trivial) ?_
    refine mj_all_cons 151 rfl (trivial) ?_
    refine mj_all_cons 152 rfl (trivial) ?_
    refine mj_all_cons 153 rfl (trivial) ?_
    refine mj_all_cons 154 rfl (trivial) ?_
    refine mj_all_cons 155 rfl (trivial) ?_
    refine mj_all_cons 156 rfl (trivial) ?_
    refine mj_all_cons 157 rfl (trivial) ?_
    refine mj_all_cons 158 rfl (trivial) ?_
    refine mj_all_cons 159 rfl (trivial) ?_
    refine mj_all_cons 160 rfl (trivial) ?_
    refine mj_all_cons 161 rfl (trivial) ?_
    refine mj_all_cons 162 rfl (trivial) ?_
    refine mj_all_cons 163 rfl (trivial) ?_
    refine mj_all_cons 164 rfl (trivial) ?_
    refine mj_all_cons 165 rfl (trivial) ?_
    refine mj_all_cons 166 rfl (trivial) ?_
    refine mj_all_cons 167 rfl (trivial) ?_
    refine mj_all_cons 168 rfl (trivial) ?_
    refine mj_all_cons 169 rfl (trivial) ?_
    refine mj_all_cons 170 rfl (trivial) ?_
    refine mj_all_cons 171 rfl (trivial) ?_
    refine mj_all_cons 172 rfl (trivial) ?_
    refine mj_all_cons 173 rfl (trivial) ?_
    refine mj_all_cons 174 rfl (trivial) ?_
    refine mj_all_cons 175 rfl (trivial) ?_
    refine mj_all_cons 176 rfl (trivial) ?_
    refine mj_all_cons 177 rfl (trivial) ?_
    refine mj_all_cons 178 rfl (trivial) ?_
    refine mj_all_cons 179 rfl (trivial) ?_
    refine mj_all_cons 180 rfl (trivial) ?_
    refine mj_all_cons 181 rfl (trivial) ?_
    refine mj_all_cons 182 rfl (trivial) ?_
    refine mj_all_cons 183 rfl (trivial) ?_
    refine mj_all_cons 184 rfl (trivial) ?_
    refine mj_all_cons 185 rfl (trivial) ?_
    refine mj_all_cons 186 rfl (trivial) ?_
    refine mj_all_cons 187 rfl (trivial) ?_
    refine mj_all_cons 188 rfl (trivial) ?_
    refine mj_all_cons 189 rfl (trivial) ?_
    refine mj_all_cons 190 rfl (trivial) ?_
    refine mj_all_cons 191 rfl (trivial) ?_
    refine mj_all_cons 192 rfl (trivial) ?_
    refine mj_all_cons 193 rfl (trivial) ?_
    refine mj_all_cons 194 rfl (trivial) ?_
    refine mj_all_cons 195 rfl (trivial) ?_
    refine mj_all_cons 196 rfl (trivial) ?_
    refine mj_all_cons 197 rfl (trivial) ?_
    refine mj_all_cons 198 rfl (trivial) ?_
    refine mj_all_cons 199 rfl (trivial) ?_
    refine mj_all_cons 200 rfl (trivial) ?_
    refine mj_all_cons 201 rfl (trivial) ?_
    refine mj_all_cons 202 rfl (trivial) ?_
    refine mj_all_cons 203 rfl (trivial) ?_
    refine mj_all_cons 204 rfl (trivial) ?_
    refine mj_all_cons 205 rfl (trivial) ?_
    refine mj_all_cons 206 rfl (trivial) ?_
    refine mj_all_cons 207 rfl (trivial) ?_
    refine mj_all_cons 208 rfl (trivial) ?_
    refine mj_all_cons 209 rfl (trivial) ?_
    refine mj_all_cons 210 rfl (trivial) ?_
    refine mj_all_cons 211 rfl (trivial) ?_
    refine mj_all_cons 212 rfl (trivial) ?_
    refine mj_all_cons 213 rfl (trivial) ?_
    refine mj_all_cons 214 rfl (trivial) ?_
    refine mj_all_cons 215 rfl (trivial) ?_
    refine mj_all_cons 216 rfl (trivial) ?_
    refine mj_all_cons 217 rfl (trivial) ?_
    refine mj_all_cons 218 rfl (trivial) ?_
    refine mj_all_cons 219 rfl (trivial) ?_
    refine mj_all_cons 220 rfl (trivial) ?_
    refine mj_all_cons 221 rfl (trivial) ?_
    refine mj_all_cons 222 rfl (trivial) ?_
    refine mj_all_cons 223 rfl (trivial) ?_
    refine mj_all_cons 224 rfl (trivial) ?_
    refine mj_all_cons 225 rfl (trivial) ?_
    refine mj_all_cons 226 rfl (trivial) ?_
    refine mj_all_cons 227 rfl (trivial) ?_
    refine mj_all_cons 228 rfl (trivial) ?_
    refine mj_all_cons 229 rfl (trivial) ?_
    refine mj_all_cons 230 rfl (trivial) ?_
    refine mj_all_cons 231 rfl (trivial) ?_
    refine mj_all_cons 232 rfl (trivial) ?_
    refine mj_all_cons 233 rfl (trivial) ?_
    refine mj_all_cons 234 rfl (trivial) ?_
    refine mj_all_cons 235 rfl (trivial) ?_
    refine mj_all_cons 236 rfl (trivial) ?_
    refine mj_all_cons 237 rfl (trivial) ?_
    refine mj_all_cons 238 rfl (trivial) ?_
    refine mj_all_cons 239 rfl (Or.inl ⟨0, by decide +kernel, rfl, rfl⟩) ?_
    refine mj_all_cons 240 rfl (Or.inr (Or.inl ⟨by decide +kernel, rfl, by decide⟩)) ?_
    refine mj_all_cons 241 rfl (trivial) ?_
    refine mj_all_cons 242 rfl (Or.inr (Or.inl ⟨by decide +kernel, rfl, by decide⟩)) ?_
    refine mj_all_cons 243 rfl (trivial) ?_
    refine mj_all_cons 244 rfl (Or.inr (Or.inl ⟨by decide +kernel, rfl, by decide⟩)) ?_
    refine mj_all_cons 245 rfl (trivial) ?_
    refine mj_all_cons 246 rfl (Or.inl ⟨by decide +kernel, rfl⟩) ?_
    refine mj_all_cons 247 rfl (Or.inl ⟨by decide +kernel, rfl⟩) ?_
    refine mj_all_cons 248 rfl (Or.inl ⟨by decide +kernel, rfl⟩) ?_
    refine mj_all_cons 249 rfl (Or.inl ⟨by decide +kernel, rfl⟩) ?_
    refine mj_all_cons 250 rfl (⟨mjmM0, 88, 7, rfl, by decide, mjmd0, mw_16, Or.inl ⟨9, mjF9, 46, by decide +kernel, rfl, rfl, rfl, mw_971, mw_973, mjsel_60⟩⟩) ?_
    refine mj_all_cons 251 rfl (trivial) ?_
    refine mj_all_cons 252 rfl (trivial) ?_
    refine mj_all_cons 253 rfl (Or.inl ⟨0, by decide +kernel, rfl, rfl⟩) ?_
    refine mj_all_cons 254 rfl (Or.inr (Or.inl ⟨by decide +kernel, rfl, by decide⟩)) ?_
    refine mj_all_cons 255 rfl (trivial) ?_
    refine mj_all_cons 256 rfl (Or.inl ⟨by decide +kernel, rfl⟩) ?_
    refine mj_all_cons 257 rfl (Or.inl ⟨by decide +kernel, rfl⟩) ?_
    refine mj_all_cons 258 rfl (Or.inl ⟨by decide +kernel, rfl⟩) ?_
    refine mj_all_cons 259 rfl (Or.inl ⟨by decide +kernel, rfl⟩) ?_
    refine mj_all_cons 260 rfl (Or.inl ⟨by decide +kernel, rfl⟩) ?_
    refine mj_all_cons 261 rfl (Or.inl ⟨by decide +kernel, rfl⟩) ?_
    refine mj_all_cons 262 rfl (⟨mjmM0, 88, 7, rfl, by decide, mjmd0, mw_16, Or.inl ⟨9, mjF9, 46, by decide +kernel, rfl, rfl, rfl, mw_971, mw_973, mjsel_60⟩⟩) ?_
    refine mj_all_cons 263 rfl (trivial) ?_
    refine mj_all_cons 264 rfl (trivial) ?_
    refine mj_all_cons 265 rfl (Or.inl ⟨0, by decide +kernel, rfl, rfl⟩) ?_
    refine mj_all_cons 266 rfl (Or.inr (Or.inl ⟨by decide +kernel, rfl, by decide⟩)) ?_
    refine mj_all_cons 267 rfl (trivial) ?_
    refine mj_all_cons 268 rfl (Or.inr (Or.inl ⟨by decide +kernel, rfl, by decide⟩)) ?_
    refine mj_all_cons 269 rfl (trivial) ?_
    refine mj_all_cons 270 rfl (Or.inr (Or.inl ⟨by decide +kernel, rfl, by decide⟩)) ?_
    refine mj_all_cons 271 rfl (trivial) ?_
    refine mj_all_cons 272 rfl (Or.inr (Or.inl ⟨by decide +kernel, rfl, by decide⟩)) ?_
    refine mj_all_cons 273 rfl (trivial) ?_
    refine mj_all_cons 274 rfl (Or.inr (Or.inl ⟨by decide +kernel, rfl, by decide⟩)) ?_
    refine mj_all_cons 275 rfl (trivial) ?_
    refine mj_all_cons 276 rfl (Or.inl ⟨by decide +kernel, rfl⟩) ?_
    refine mj_all_cons 277 rfl (Or.inl ⟨by decide +kernel, rfl⟩) ?_
    refine mj_all_cons 278 rfl (⟨mjmM0, 88, 7, rfl, by decide, mjmd0, mw_16, Or.inl ⟨9, mjF9, 46, by decide +kernel, rfl, rfl, rfl, mw_971, mw_973, mjsel_60⟩⟩) ?_
    refine mj_all_cons 279 rfl (trivial) ?_
    refine mj_all_cons 280 rfl (trivial) ?_
    refine mj_all_cons 281 rfl (Or.inl ⟨0, by decide +kernel, rfl, rfl⟩) ?_
    refine mj_all_cons 282 rfl (Or.inr (Or.inl ⟨by decide +kernel, rfl, by decide⟩)) ?_
    refine mj_all_cons 283 rfl (trivial) ?_
    refine mj_all_cons 284 rfl (Or.inr (Or.inl ⟨by decide +kernel, rfl, by decide⟩)) ?_
    refine mj_all_cons 285 rfl (trivial) ?_
    refine mj_all_cons 286 rfl (Or.inl ⟨by decide +kernel, rfl⟩) ?_
    refine mj_all_cons 287 rfl (Or.inl ⟨by decide +kernel, rfl⟩) ?_
    refine mj_all_cons 288 rfl (Or.inl ⟨by decide +kernel, rfl⟩) ?_
    refine mj_all_cons 289 rfl (Or.inl ⟨by decide +kernel, rfl⟩) ?_
    refine mj_all_cons 290 rfl (Or.inl ⟨by decide +kernel, rfl⟩) ?_
    refine mj_all_cons 291 rfl (⟨mjmM0, 88, 7, rfl, by decide, mjmd0, mw_16, Or.inl ⟨9, mjF9, 46, by decide +kernel, rfl, rfl, rfl, mw_971, mw_973, mjsel_60⟩⟩) ?_
    refine mj_all_cons 292 rfl (trivial) ?_
    refine mj_all_cons 293 rfl (trivial) ?_
    refine mj_all_cons 294 rfl (Or.inl ⟨0, by decide +kernel, rfl, rfl⟩) ?_
    refine mj_all_cons 295 rfl (Or.inr (Or.inl ⟨by decide +kernel, rfl, by decide⟩)) ?_
    refine mj_all_cons 296 rfl (trivial) ?_
    refine mj_all_cons 297 rfl (Or.inr (Or.inl ⟨by decide +kernel, rfl, by decide⟩)) ?_
    refine mj_all_cons 298 rfl (trivial) ?_
    refine mj_all_cons 299 rfl (Or.inr (Or.inl ⟨by decide +kernel, rfl, by decide⟩)) ?_
    refine mj_all_cons 300 rfl (trivial) ?_
    refine mj_all_cons 301 rfl (Or.inl ⟨by decide +kernel, rfl⟩) ?_
    refine mj_all_cons 302 rfl (Or.inl ⟨by decide +kernel, rfl⟩) ?_
    refine mj_all_cons 303 rfl (Or.inl ⟨by decide +kernel, rfl⟩) ?_
    refine mj_all_cons 304 rfl (Or.inl ⟨by decide +kernel, rfl⟩) ?_
    refine mj_all_cons 305 rfl (⟨mjmM0, 88, 7, rfl, by decide, mjmd0, mw_16, Or.inl ⟨9, mjF9, 46, by decide +kernel, rfl, rfl, rfl, mw_971, mw_973, mjsel_60⟩⟩) ?_
    refine mj_all_cons 306 rfl (trivial) ?_
    refine mj_all_cons 307 rfl (trivial) ?_
    refine mj_all_cons 308 rfl (Or.inl ⟨0, by decide +kernel, rfl, rfl⟩) ?_
    refine mj_all_cons 309 rfl (Or.inr (Or.inl ⟨by decide +kernel, rfl, by decide⟩)) ?_
    refine mj_all_cons 310 rfl (trivial) ?_
    refine mj_all_cons 311 rfl (Or.inr (Or.inl ⟨by decide +kernel, rfl, by decide⟩)) ?_
    refine mj_all_cons 312 rfl (trivial) ?_
    refine mj_all_cons 313 rfl (Or.inr (Or.inl ⟨by decide +kernel, rfl, by decide⟩)) ?_
    refine mj_all_cons 314 rfl (trivial) ?_
    refine mj_all_cons 315 rfl (Or.inr (Or.inl ⟨by decide +kernel, rfl, by decide⟩)) ?_
    refine mj_all_cons 316 rfl (trivial) ?_
    refine mj_all_cons 317 rfl (Or.inl ⟨by decide +kernel, rfl⟩) ?_
    refine mj_all_cons 318 rfl (Or.inl ⟨by decide +kernel, rfl⟩) ?_
    refine mj_all_cons 319 rfl (Or.inl ⟨by decide +kernel, rfl⟩) ?_
    refine mj_all_cons 320 rfl (⟨mjmM0, 88, 7, rfl, by decide, mjmd0, mw_16, Or.inl ⟨9, mjF9, 46, by decide +kernel, rfl, rfl, rfl, mw_971, mw_973, mjsel_60⟩⟩) ?_
    refine mj_all_cons 321 rfl (trivial) ?_
    refine mj_all_cons 322 rfl (trivial) ?_
    refine mj_all_cons 323 rfl (Or.inl ⟨0, by decide +kernel, rfl, rfl⟩) ?_
    refine mj_all_cons 324 rfl (Or.inr (Or.inl ⟨by decide +kernel, rfl, by decide⟩)) ?_
    refine mj_all_cons 325 rfl (trivial) ?_
    refine mj_all_cons 326 rfl (Or.inr (Or.inl ⟨by decide +kernel, rfl, by decide⟩)) ?_
    refine mj_all_cons 327 rfl (trivial) ?_
    refine mj_all_cons 328 rfl (Or.inr (Or.inl ⟨by decide +kernel, rfl, by decide⟩)) ?_
    refine mj_all_cons 329 rfl (trivial) ?_
    refine mj_all_cons 330 rfl (Or.inl ⟨by decide +kernel, rfl⟩) ?_
    refine mj_all_cons 331 rfl (Or.inl ⟨by decide +kernel, rfl⟩) ?_
    refine mj_all_cons 332 rfl (Or.inl ⟨by decide +kernel, rfl⟩) ?_
    refine mj_all_cons 333 rfl (Or.inl ⟨by decide +kernel, rfl⟩) ?_
    refine mj_all_cons 334 rfl (⟨mjmM0, 88, 7, rfl, by decide, mjmd0, mw_16, Or.inl ⟨9, mjF9, 46, by decide +kernel, rfl, rfl, rfl, mw_971, mw_973, mjsel_60⟩⟩) ?_
    refine mj_all_cons 335 rfl (trivial) ?_
    refine mj_all_cons 336 rfl (trivial) ?_
    refine mj_all_cons 337 rfl (Or.inl ⟨0, by decide +kernel, rfl, rfl⟩) ?_
    refine mj_all_cons 338 rfl (Or.inr (Or.inl ⟨by decide +kernel, rfl, by decide⟩)) ?_
    refine mj_all_cons 339 rfl (trivial) ?_
    refine mj_all_cons 340 rfl (Or.inr (Or.inl ⟨by decide +kernel, rfl, by decide⟩)) ?_
    refine mj_all_cons 341 rfl (trivial) ?_
    refine mj_all_cons 342 rfl (Or.inl ⟨by decide +kernel, rfl⟩) ?_
    refine mj_all_cons 343 rfl (Or.inl ⟨by decide +kernel, rfl⟩) ?_
    refine mj_all_cons 344 rfl (Or.inl ⟨by decide +kernel, rfl⟩) ?_
    refine mj_all_cons 345 rfl (Or.inl ⟨by decide +kernel, rfl⟩) ?_
    refine mj_all_cons 346 rfl (Or.inl ⟨by decide +kernel, rfl⟩) ?_
    refine mj_all_cons 347 rfl (⟨mjmM0, 88, 7, rfl, by decide, mjmd0, mw_16, Or.inl ⟨9, mjF9, 46, by decide +kernel, rfl, rfl, rfl, mw_971, mw_973, mjsel_60⟩⟩) ?_
    refine mj_all_cons 348 rfl (trivial) ?_
    refine mj_all_cons 349 rfl (trivial) ?_
    refine mj_all_cons 350 rfl (Or.inl ⟨0, by decide +kernel, rfl, rfl⟩) ?_
    refine mj_all_cons 351 rfl (Or.inr (Or.inl ⟨by decide +kernel, rfl, by decide⟩)) ?_
    refine mj_all_cons 352 rfl (trivial) ?_
    refine mj_all_cons 353 rfl (Or.inr (Or.inl ⟨by decide +kernel, rfl, by decide⟩)) ?_
    refine mj_all_cons 354 rfl (trivial) ?_
    refine mj_all_cons 355 rfl (Or.inr (Or.inl ⟨by decide +kernel, rfl, by decide⟩)) ?_
    refine mj_all_cons 356 rfl (trivial) ?_
    refine mj_all_cons 357 rfl (Or.inr (Or.inl ⟨by decide +kernel, rfl, by decide⟩)) ?_
    refine mj_all_cons 358 rfl (trivial) ?_
    refine mj_all_cons 359 rfl (Or.inl ⟨by decide +kernel, rfl⟩) ?_
    refine mj_all_cons 360 rfl (Or.inl ⟨by decide +kernel, rfl⟩) ?_
    refine mj_all_cons 361 rfl (Or.inl ⟨by decide +kernel, rfl⟩) ?_
    refine mj_all_cons 362 rfl (⟨mjmM0, 88, 7, rfl, by decide, mjmd0, mw_16, Or.inl ⟨9, mjF9, 46, by decide +kernel, rfl, rfl, rfl, mw_971, mw_973, mjsel_60⟩⟩) ?_
    refine mj_all_cons 363 rfl (trivial) ?_
    refine mj_all_cons 364 rfl (trivial) ?_
    refine mj_all_cons 365 rfl (Or.inl ⟨0, by decide +kernel, rfl, rfl⟩) ?_
    refine mj_all_cons 366 rfl (Or.inr (Or.inl ⟨by decide +kernel, rfl, by decide⟩)) ?_
    refine mj_all_cons 367 rfl (trivial) ?_
    refine mj_all_cons 368 rfl (Or.inr (Or.inl ⟨by decide +kernel, rfl, by decide⟩)) ?_
    refine mj_all_cons 369 rfl (trivial) ?_
    refine mj_all_cons 370 rfl (Or.inr (Or.inl ⟨by decide +kernel, rfl, by decide⟩)) ?_
    refine mj_all_cons 371 rfl (trivial) ?_
    refine mj_all_cons 372 rfl (Or.inr (Or.inl ⟨by decide +kernel, rfl, by decide⟩)) ?_
    refine mj_all_cons 373 rfl (trivial) ?_
    refine mj_all_cons 374 rfl (Or.inr (Or.inl ⟨by decide +kernel, rfl, by decide⟩)) ?_
    refine mj_all_cons 375 rfl (trivial) ?_
    refine mj_all_cons 376 rfl (Or.inl ⟨by decide +kernel, rfl⟩) ?_
    refine mj_all_cons 377 rfl (Or.inl ⟨by decide +kernel, rfl⟩) ?_
    refine mj_all_cons 378 rfl (⟨mjmM0, 88, 7, rfl, by decide, mjmd0, mw_16, Or.inl ⟨9, mjF9, 46, by decide +kernel, rfl, rfl, rfl, mw_971, mw_973, mjsel_60⟩⟩) ?_
    refine mj_all_cons 379 rfl (trivial) ?_
    refine mj_all_cons 380 rfl (trivial) ?_
    refine mj_all_cons 381 rfl (Or.inl ⟨0, by decide +kernel, rfl, rfl⟩) ?_
    refine mj_all_cons 382 rfl (Or.inr (Or.inl ⟨by decide +kernel, rfl, by decide⟩)) ?_
    refine mj_all_cons 383 rfl (trivial) ?_
    refine mj_all_cons 384 rfl (Or.inr (Or.inl ⟨by decide +kernel, rfl, by decide⟩)) ?_
    refine mj_all_cons 385 rfl (trivial) ?_
    refine mj_all_cons 386 rfl (Or.inr (Or.inl ⟨by decide +kernel, rfl, by decide⟩)) ?_
    refine mj_all_cons 387 rfl (trivial) ?_
    refine mj_all_cons 388 rfl (Or.inr (Or.inl ⟨by decide +kernel, rfl, by decide⟩)) ?_
    refine mj_all_cons 389 rfl (trivial) ?_
    refine mj_all_cons 390 rfl (Or.inl ⟨by decide +kernel, rfl⟩) ?_
    refine mj_all_cons 391 rfl (Or.inl ⟨by decide +kernel, rfl⟩) ?_
    refine mj_all_cons 392 rfl (Or.inl ⟨by decide +kernel, rfl⟩) ?_
    refine mj_all_cons 393 rfl (⟨mjmM0, 88, 7, rfl, by decide, mjmd0, mw_16, Or.inl ⟨9, mjF9, 46, by decide +kernel, rfl, rfl, rfl, mw_971, mw_973, mjsel_60⟩⟩) ?_
    refine mj_all_cons 394 rfl (trivial) ?_
    refine mj_all_cons 395 rfl (trivial) ?_
    refine mj_all_cons 396 rfl (Or.inl ⟨0, by decide +kernel, rfl, rfl⟩) ?_
    refine mj_all_cons 397 rfl (Or.inr (Or.inl ⟨by decide +kernel, rfl, by decide⟩)) ?_
    refine mj_all_cons 398 rfl (trivial) ?_
    refine mj_all_cons 399 rfl (Or.inr (Or.inl ⟨by decide +kernel, rfl, by decide⟩)) ?_
    refine mj_all_cons 400 rfl (trivial) ?_
    refine mj_all_cons 401 rfl (Or.inr (Or.inl ⟨by decide +kernel, rfl, by decide⟩)) ?_
    refine mj_all_cons 402 rfl (trivial) ?_
    refine mj_all_cons 403 rfl (Or.inl ⟨by decide +kernel, rfl⟩) ?_
    refine mj_all_cons 404 rfl (Or.inl ⟨by decide +kernel, rfl⟩) ?_
    refine mj_all_cons 405 rfl (Or.inl ⟨by decide +kernel, rfl⟩) ?_
    refine mj_all_cons 406 rfl (Or.inl ⟨by decide +kernel, rfl⟩) ?_
    refine mj_all_cons 407 rfl (⟨mjmM0, 88, 7, rfl, by decide, mjmd0, mw_16, Or.inl ⟨9, mjF9, 46, by decide +kernel, rfl, rfl, rfl, mw_971, mw_973, mjsel_60⟩⟩) ?_
    refine mj_all_cons 408 rfl (trivial) ?_
    refine mj_all_cons 409 rfl (trivial) ?_
    refine mj_all_cons 410 rfl (Or.inl ⟨0, by decide +kernel, rfl, rfl⟩) ?_
    refine mj_all_cons 411 rfl (Or.inr (Or.inl ⟨by decide +kernel, rfl, by decide⟩)) ?_
    refine mj_all_cons 412 rfl (trivial) ?_
    refine mj_all_cons 413 rfl (Or.inr (Or.inl ⟨by decide +kernel, rfl, by decide⟩)) ?_
    refine mj_all_cons 414 rfl (trivial) ?_
    refine mj_all_cons 415 rfl (Or.inr (Or.inl ⟨by decide +kernel, rfl, by decide⟩)) ?_
    refine mj_all_cons 416 rfl (trivial) ?_
    refine mj_all_cons 417 rfl (Or.inl ⟨by decide +kernel, rfl⟩) ?_
    refine mj_all_cons 418 rfl (Or.inl ⟨by decide +kernel, rfl⟩) ?_
    refine mj_all_cons 419 rfl (Or.inl ⟨by decide +kernel, rfl⟩) ?_
    refine mj_all_cons 420 rfl (Or.inl ⟨by decide +kernel, rfl⟩) ?_
    refine mj_all_cons 421 rfl (⟨mjmM0, 88, 7, rfl, by decide, mjmd0, mw_16, Or.inl ⟨9, mjF9, 46, by decide +kernel, rfl, rfl, rfl, mw_971, mw_973, mjsel_60⟩⟩) ?_
    refine mj_all_cons 422 rfl (trivial) ?_
    refine mj_all_cons 423 rfl (trivial) ?_
    refine mj_all_cons 424 rfl (Or.inl ⟨0, by decide +kernel, rfl, rfl⟩) ?_
    refine mj_all_cons 425 rfl (Or.inr (Or.inl ⟨by decide +kernel, rfl, by decide⟩)) ?_
    refine mj_all_cons 426 rfl (trivial) ?_
    refine mj_all_cons 427 rfl (Or.inr (Or.inl ⟨by decide +kernel, rfl, by decide⟩)) ?_
    refine mj_all_cons 428 rfl (trivial) ?_
    refine mj_all_cons 429 rfl (Or.inr (Or.inl ⟨by decide +kernel, rfl, by decide⟩)) ?_
    refine mj_all_cons 430 rfl (trivial) ?_
    refine mj_all_cons 431 rfl (Or.inr (Or.inl ⟨by decide +kernel, rfl, by decide⟩)) ?_
    refine mj_all_cons 432 rfl (trivial) ?_
    refine mj_all_cons 433 rfl (Or.inr (Or.inl ⟨by decide +kernel, rfl, by decide⟩)) ?_
    refine mj_all_cons 434 rfl (trivial) ?_
    refine mj_all_cons 435 rfl (Or.inl ⟨by decide +kernel, rfl⟩) ?_
    refine mj_all_cons 436 rfl (Or.inl ⟨by decide +kernel, rfl⟩) ?_
    refine mj_all_cons 437 rfl (⟨mjmM0, 88, 7, rfl, by decide, mjmd0, mw_16, Or.inl ⟨9, mjF9, 46, by decide +kernel, rfl, rfl, rfl, mw_971, mw_973, mjsel_60⟩⟩) ?_
    refine mj_all_cons 438 rfl (trivial) ?_
    refine mj_all_cons 439 rfl (trivial) ?_
    refine mj_all_cons 440 rfl (Or.inl ⟨0, by decide +kernel, rfl, rfl⟩) ?_
    refine mj_all_cons 441 rfl (Or.inr (Or.inl ⟨by decide +kernel, rfl, by decide⟩)) ?_
    refine mj_all_cons 442 rfl (trivial) ?_
    refine mj_all_cons 443 rfl (Or.inr (Or.inl ⟨by decide +kernel, rfl, by decide⟩)) ?_
    refine mj_all_cons 444 rfl (trivial) ?_
    refine mj_all_cons 445 rfl (Or.inr (Or.inl ⟨by decide +kernel, rfl, by decide⟩)) ?_
    refine mj_all_cons 446 rfl (trivial) ?_
    refine mj_all_cons 447 rfl (Or.inr (Or.inl ⟨by decide +kernel, rfl, by decide⟩)) ?_
    refine mj_all_cons 448 rfl (trivial) ?_
    refine mj_all_cons 449 rfl (Or.inl ⟨by decide +kernel, rfl⟩) ?_
    refine mj_all_cons 450 rfl (Or.inl ⟨by decide +kernel, rfl⟩) ?_
    refine mj_all_cons 451 rfl (Or.inl ⟨by decide +kernel, rfl⟩) ?_
    refine mj_all_cons 452 rfl (⟨mjmM0, 88, 7, rfl, by decide, mjmd0, mw_16, Or.inl ⟨9, mjF9, 46, by decide +kernel, rfl, rfl, rfl, mw_971, mw_973, mjsel_60⟩⟩) ?_
    refine mj_all_cons 453 rfl (trivial) ?_
    refine mj_all_cons 454 rfl (trivial) ?_
    refine mj_all_cons 455 rfl (Or.inl ⟨0, by decide +kernel, rfl, rfl⟩) ?_
    refine mj_all_cons 456 rfl (Or.inr (Or.inl ⟨by decide +kernel, rfl, by decide⟩)) ?_
    refine mj_all_cons 457 rfl (trivial) ?_
    refine mj_all_cons 458 rfl (Or.inr (Or.inl ⟨by decide +kernel, rfl, by decide⟩)) ?_
    refine mj_all_cons 459 rfl (trivial) ?_
    refine mj_all_cons 460 rfl (Or.inr (Or.inl ⟨by decide +kernel, rfl, by decide⟩)) ?_
    refine mj_all_cons 461 rfl (trivial) ?_
    refine mj_all_cons 462 rfl (Or.inr (Or.inl ⟨by decide +kernel, rfl, by decide⟩)) ?_
    refine mj_all_cons 463 rfl (trivial) ?_
    refine mj_all_cons 464 rfl (Or.inr (Or.inl ⟨by decide +kernel, rfl, by decide⟩)) ?_
    refine mj_all_cons 465 rfl (trivial) ?_
    refine mj_all_cons 466 rfl (Or.inr (Or.inl ⟨by decide +kernel, rfl, by decide⟩)) ?_
    refine mj_all_cons 467 rfl (trivial) ?_
    refine mj_all_cons 468 rfl (Or.inr (Or.inl ⟨by decide +kernel, rfl, by decide⟩)) ?_
    refine mj_all_cons 469 rfl (trivial) ?_
    refine mj_all_cons 470 rfl (⟨mjmM0, 88, 7, rfl, by decide, mjmd0, mw_16, Or.inl ⟨9, mjF9, 46, by decide +kernel, rfl, rfl, rfl, mw_971, mw_973, mjsel_60⟩⟩) ?_
    refine mj_all_cons 471 rfl (trivial) ?_
    refine mj_all_cons 472 rfl (trivial) ?_
    refine mj_all_cons 473 rfl (Or.inl ⟨0, by decide +kernel, rfl, rfl⟩) ?_
    refine mj_all_cons 474 rfl (Or.inr (Or.inl ⟨by decide +kernel, rfl, by decide⟩)) ?_
    refine mj_all_cons 475 rfl (trivial) ?_
    refine mj_all_cons 476 rfl (Or.inr (Or.inl ⟨by decide +kernel, rfl, by decide⟩)) ?_
    refine mj_all_cons 477 rfl (trivial) ?_
    refine mj_all_cons 478 rfl (Or.inr (Or.inl ⟨by decide +kernel, rfl, by decide⟩)) ?_
    refine mj_all_cons 479 rfl (trivial) ?_
    refine mj_all_cons 480 rfl (Or.inr (Or.inl ⟨by decide +kernel, rfl, by decide⟩)) ?_
    refine mj_all_cons 481 rfl (trivial) ?_
    refine mj_all_cons 482 rfl (Or.inr (Or.inl ⟨by decide +kernel, rfl, by decide⟩)) ?_
    refine mj_all_cons 483 rfl (trivial) ?_
    refine mj_all_cons 484 rfl (Or.inl ⟨by decide +kernel, rfl⟩) ?_
    refine mj_all_cons 485 rfl (Or.inl ⟨by decide +kernel, rfl⟩) ?_
    refine mj_all_cons 486 rfl (⟨mjmM0, 88, 7, rfl, by decide, mjmd0, mw_16, Or.inl ⟨9, mjF9, 46, by decide +kernel, rfl, rfl, rfl, mw_971, mw_973, mjsel_60⟩⟩) ?_
    refine mj_all_cons 487 rfl (trivial) ?_
    refine mj_all_cons 488 rfl (trivial) ?_
    refine mj_all_cons 489 rfl (Or.inl ⟨0, by decide +kernel, rfl, rfl⟩) ?_
    refine mj_all_cons 490 rfl (Or.inr (Or.inl ⟨by decide +kernel, rfl, by decide⟩)) ?_
    refine mj_all_cons 491 rfl (trivial) ?_
    refine mj_all_cons 492 rfl (Or.inl ⟨by decide +kernel, rfl⟩) ?_
    refine mj_all_cons 493 rfl (Or.inl ⟨by decide +kernel, rfl⟩) ?_
    refine mj_all_cons 494 rfl (Or.inl ⟨by decide +kernel, rfl⟩) ?_
    refine mj_all_cons 495 rfl (Or.inl ⟨by decide +kernel, rfl⟩) ?_
    refine mj_all_cons 496 rfl (Or.inl ⟨by decide +kernel, rfl⟩) ?_
    refine mj_all_cons 497 rfl (Or.inl ⟨by decide +kernel, rfl⟩) ?_
    refine mj_all_cons 498 rfl (⟨mjmM0, 88, 7, rfl, by decide, mjmd0, mw_16, Or.inl ⟨9, mjF9, 46, by decide +kernel, rfl, rfl, rfl, mw_971, mw_973, mjsel_60⟩⟩) ?_
    refine mj_all_cons 499 rfl (trivial) ?_
    refine mj_all_cons 500 rfl (trivial) ?_
    refine mj_all_cons 501 rfl (Or.inl ⟨0, by decide +kernel, rfl, rfl⟩) ?_
    refine mj_all_cons 502 rfl (Or.inr (Or.inl ⟨by decide +kernel, rfl, by decide⟩)) ?_
    refine mj_all_cons 503 rfl (trivial) ?_
    refine mj_all_cons 504 rfl (Or.inl ⟨by decide +kernel, rfl⟩) ?_
    refine mj_all_cons 505 rfl (Or.inl ⟨by decide +kernel, rfl⟩) ?_
    refine mj_all_cons 506 rfl (Or.inl ⟨by decide +kernel, rfl⟩) ?_
    refine mj_all_cons 507 rfl (Or.inl ⟨by decide +kernel, rfl⟩) ?_
    refine mj_all_cons 508 rfl (Or.inl ⟨by decide +kernel, rfl⟩) ?_
    refine mj_all_cons 509 rfl (Or.inl ⟨by decide +kernel, rfl⟩) ?_
    refine mj_all_cons 510 rfl (⟨mjmM0, 88, 7, rfl, by decide, mjmd0, mw_16, Or.inl ⟨9, mjF9, 46, by decide +kernel, rfl, rfl, rfl, mw_971, mw_973, mjsel_60⟩⟩) ?_
    refine mj_all_cons 511 rfl (trivial) ?_
    refine mj_all_cons 512 rfl (trivial) ?_
    refine mj_all_cons 513 rfl (Or.inl ⟨0, by decide +kernel, rfl, rfl⟩) ?_
    refine mj_all_cons 514 rfl (Or.inr (Or.inl ⟨by decide +kernel, rfl, by decide⟩)) ?_
    refine mj_all_cons 515 rfl (trivial) ?_
    refine mj_all_cons 516 rfl (Or.inl ⟨by decide +kernel, rfl⟩) ?_
    refine mj_all_cons 517 rfl (Or.inl ⟨by decide +kernel, rfl⟩) ?_
    refine mj_all_cons 518 rfl (Or.inl ⟨by decide +kernel, rfl⟩) ?_
    refine mj_all_cons 519 rfl (Or.inl ⟨by decide +kernel, rfl⟩) ?_
    refine mj_all_cons 520 rfl (Or.inl ⟨by decide +kernel, rfl⟩) ?_
    refine mj_all_cons 521 rfl (Or.inl ⟨by decide +kernel, rfl⟩) ?_
    refine mj_all_cons 522 rfl (⟨mjmM0, 88, 7, rfl, by decide, mjmd0, mw_16, Or.inl ⟨9, mjF9, 46, by decide +kernel, rfl, rfl, rfl, mw_971, mw_973, mjsel_60⟩⟩) ?_
    refine mj_all_cons 523 rfl (trivial) ?_
    refine mj_all_cons 524 rfl (trivial) ?_
    refine mj_all_cons 525 rfl (Or.inl ⟨0, by decide +kernel, rfl, rfl⟩) ?_
    refine mj_all_cons 526 rfl (Or.inr (Or.inl ⟨by decide +kernel, rfl, by decide⟩)) ?_
    refine mj_all_cons 527 rfl (trivial) ?_
    refine mj_all_cons 528 rfl (Or.inr (Or.inl ⟨by decide +kernel, rfl, by decide⟩)) ?_
    refine mj_all_cons 529 rfl (trivial) ?_
    refine mj_all_cons 530 rfl (Or.inr (Or.inl ⟨by decide +kernel, rfl, by decide⟩)) ?_
    refine mj_all_cons 531 rfl (trivial) ?_
    refine mj_all_cons 532 rfl (Or.inr (Or.inl ⟨by decide +kernel, rfl, by decide⟩)) ?_
    refine mj_all_cons 533 rfl (trivial) ?_
    refine mj_all_cons 534 rfl (Or.inr (Or.inl ⟨by decide +kernel, rfl, by decide⟩)) ?_
    refine mj_all_cons 535 rfl (trivial) ?_
    refine mj_all_cons 536 rfl (Or.inl ⟨by decide +kernel, rfl⟩) ?_
    refine mj_all_cons 537 rfl (Or.inl ⟨by decide +kernel, rfl⟩) ?_
    refine mj_all_cons 538 rfl (⟨mjmM0, 88, 7, rfl, by decide, mjmd0, mw_16, Or.inl ⟨9, mjF9, 46, by decide +kernel, rfl, rfl, rfl, mw_971, mw_973, mjsel_60⟩⟩) ?_
    refine mj_all_cons 539 rfl (trivial) ?_
    refine mj_all_cons 540 rfl (trivial) ?_
    refine mj_all_cons 541 rfl (show _ = _ from by decide +kernel) ?_
    exact trivial
  intro pc o ho
  have := mj_all_get _ 0 h pc o ho
  rw [Nat.zero_add] at this
  exact this
