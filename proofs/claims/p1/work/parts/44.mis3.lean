set_option maxRecDepth 100000 in
theorem mjmi36 : ∀ (pc : Nat) (o : mj_O), mjmo36[pc]? = some o → mj_is mj_kl mjmM36.1.cls mj_WS mj_NWs mjm_Ms mjmM36.2.1 pc o := by
  have h : mj_all (mj_is mj_kl mjmM36.1.cls mj_WS mj_NWs mjm_Ms mjmM36.2.1) 0 mjmo36 := by
    unfold mjmo36
    refine mj_all_cons 1 rfl (Or.inl ⟨by decide +kernel, rfl⟩) ?_
    refine mj_all_cons 2 rfl (Or.inr ⟨by decide +kernel, rfl⟩) ?_
    refine mj_all_cons 3 rfl (trivial) ?_
    refine mj_all_cons 4 rfl (Or.inl ⟨0, by decide +kernel, rfl, rfl⟩) ?_
    refine mj_all_cons 5 rfl (⟨33, "ListSpeakerModel", mjF9, 46, by decide +kernel, rfl, by decide, mw_991, mjw9⟩) ?_
    refine mj_all_cons 6 rfl (trivial) ?_
    refine mj_all_cons 7 rfl (trivial) ?_
    refine mj_all_cons 8 rfl (Or.inl ⟨by decide +kernel, rfl⟩) ?_
    refine mj_all_cons 9 rfl (Or.inl ⟨1, by decide +kernel, rfl, rfl⟩) ?_
    refine mj_all_cons 10 rfl (show _ = _ from by decide +kernel) ?_
    refine mj_all_cons 11 rfl (Or.inl ⟨0, by decide +kernel, rfl, rfl⟩) ?_
    refine mj_all_cons 12 rfl (⟨33, "ListSpeakerModel", mjF9, 46, by decide +kernel, rfl, by decide, mw_991, mjw9⟩) ?_
    refine mj_all_cons 13 rfl (trivial) ?_
    refine mj_all_cons 14 rfl (trivial) ?_
    refine mj_all_cons 15 rfl (Or.inl ⟨by decide +kernel, rfl⟩) ?_
    refine mj_all_cons 16 rfl (Or.inl ⟨2, by decide +kernel, rfl, rfl⟩) ?_
    refine mj_all_cons 17 rfl (show _ = _ from by decide +kernel) ?_
    refine mj_all_cons 18 rfl (Or.inr ⟨by decide +kernel, rfl⟩) ?_
    refine mj_all_cons 19 rfl (trivial) ?_
    refine mj_all_cons 20 rfl (show _ = _ from by decide +kernel) ?_
    refine mj_all_cons 21 rfl (trivial) ?_
    refine mj_all_cons 22 rfl (trivial) ?_
    refine mj_all_cons 23 rfl (show _ = _ from by decide +kernel) ?_
    refine mj_all_cons 24 rfl (trivial) ?_
    refine mj_all_cons 25 rfl (trivial) ?_
    refine mj_all_cons 26 rfl (Or.inl ⟨0, by decide +kernel, rfl, rfl⟩) ?_
    refine mj_all_cons 27 rfl (⟨33, "ListSpeakerModel", mjF9, 46, by decide +kernel, rfl, by decide, mw_991, mjw9⟩) ?_
    refine mj_all_cons 28 rfl (trivial) ?_
    refine mj_all_cons 29 rfl (trivial) ?_
    refine mj_all_cons 30 rfl (Or.inr ⟨by decide +kernel, rfl⟩) ?_
    refine mj_all_cons 31 rfl (trivial) ?_
    refine mj_all_cons 32 rfl (show _ = _ from by decide +kernel) ?_
    refine mj_all_cons 33 rfl (Or.inr ⟨by decide +kernel, rfl⟩) ?_
    refine mj_all_cons 34 rfl (trivial) ?_
    refine mj_all_cons 35 rfl (Or.inl ⟨0, by decide +kernel, rfl, rfl⟩) ?_
    refine mj_all_cons 36 rfl (⟨33, "ListSpeakerModel", mjF9, 46, by decide +kernel, rfl, by decide, mw_991, mjw9⟩) ?_
    refine mj_all_cons 37 rfl (trivial) ?_
    refine mj_all_cons 38 rfl (trivial) ?_
    refine mj_all_cons 39 rfl (Or.inr ⟨by decide +kernel, rfl⟩) ?_
    refine mj_all_cons 40 rfl (trivial) ?_
    refine mj_all_cons 41 rfl (Or.inl ⟨by decide +kernel, rfl⟩) ?_
    refine mj_all_cons 42 rfl (show _ = _ from by decide +kernel) ?_
    refine mj_all_cons 43 rfl (show _ = _ from by decide +kernel) ?_
    refine mj_all_cons 44 rfl (Or.inr ⟨by decide +kernel, rfl⟩) ?_
    refine mj_all_cons 45 rfl (trivial) ?_
    refine mj_all_cons 46 rfl (Or.inr ⟨by decide +kernel, rfl⟩) ?_
    refine mj_all_cons 47 rfl (trivial) ?_
    refine mj_all_cons 48 rfl (⟨mjmM3, 103, 1, rfl, by decide, mjmd3, mw_16, Or.inr (Or.inl ⟨by decide +kernel, rfl, rfl, mw_1194, mw_1195⟩)⟩) ?_
    refine mj_all_cons 49 rfl (trivial) ?_
    refine mj_all_cons 50 rfl (trivial) ?_
    refine mj_all_cons 51 rfl (show _ = _ from by decide +kernel) ?_
    refine mj_all_cons 52 rfl (trivial) ?_
    refine mj_all_cons 53 rfl (trivial) ?_
    refine mj_all_cons 54 rfl (Or.inr ⟨by decide +kernel, rfl⟩) ?_
    refine mj_all_cons 55 rfl (trivial) ?_
    refine mj_all_cons 56 rfl (⟨mjmM3, 103, 1, rfl, by decide, mjmd3, mw_16, Or.inr (Or.inl ⟨by decide +kernel, rfl, rfl, mw_1194, mw_1195⟩)⟩) ?_
    refine mj_all_cons 57 rfl (trivial) ?_
    refine mj_all_cons 58 rfl (trivial) ?_
    refine mj_all_cons 59 rfl (show _ = _ from by decide +kernel) ?_
    refine mj_all_cons 60 rfl (trivial) ?_
    refine mj_all_cons 61 rfl (trivial) ?_
    refine mj_all_cons 62 rfl (Or.inl ⟨3, by decide +kernel, rfl, rfl⟩) ?_
    refine mj_all_cons 63 rfl (show _ = _ from by decide +kernel) ?_
    refine mj_all_cons 64 rfl (trivial) ?_
    refine mj_all_cons 65 rfl (trivial) ?_
    refine mj_all_cons 66 rfl (Or.inl ⟨0, by decide +kernel, rfl, rfl⟩) ?_
    refine mj_all_cons 67 rfl (⟨mjmM37, 237, 0, rfl, by decide, mjmd37, mw_16, Or.inl ⟨9, mjF9, 46, by decide +kernel, rfl, rfl, rfl, mw_1271, mw_1273, mjsel_91⟩⟩) ?_
    refine mj_all_cons 68 rfl (trivial) ?_
    refine mj_all_cons 69 rfl (trivial) ?_
    refine mj_all_cons 70 rfl (show _ = _ from by decide +kernel) ?_
    refine mj_all_cons 71 rfl (trivial) ?_
    refine mj_all_cons 72 rfl (trivial) ?_
    refine mj_all_cons 73 rfl (Or.inl ⟨by decide +kernel, rfl⟩) ?_
    refine mj_all_cons 74 rfl (show _ = _ from by decide +kernel) ?_
    refine mj_all_cons 75 rfl (Or.inl ⟨0, by decide +kernel, rfl, rfl⟩) ?_
    refine mj_all_cons 76 rfl (⟨33, "ListSpeakerModel", mjF9, 46, by decide +kernel, rfl, by decide, mw_991, mjw9⟩) ?_
    refine mj_all_cons 77 rfl (trivial) ?_
    refine mj_all_cons 78 rfl (trivial) ?_
    refine mj_all_cons 79 rfl (Or.inr ⟨by decide +kernel, rfl⟩) ?_
    refine mj_all_cons 80 rfl (trivial) ?_
    refine mj_all_cons 81 rfl (Or.inl ⟨0, by decide +kernel, rfl, rfl⟩) ?_
    refine mj_all_cons 82 rfl (Or.inr ⟨by decide +kernel, rfl⟩) ?_
    refine mj_all_cons 83 rfl (trivial) ?_
    refine mj_all_cons 84 rfl (⟨mjmM6, 107, 1, rfl, by decide, mjmd6, mw_16, Or.inl ⟨9, mjF9, 46, by decide +kernel, rfl, rfl, rfl, mw_1210, mw_1212, mjsel_77⟩⟩) ?_
    refine mj_all_cons 85 rfl (trivial) ?_
    refine mj_all_cons 86 rfl (trivial) ?_
    refine mj_all_cons 87 rfl (show _ = _ from by decide +kernel) ?_
    refine mj_all_cons 88 rfl (Or.inl ⟨0, by decide +kernel, rfl, rfl⟩) ?_
    refine mj_all_cons 89 rfl (⟨33, "ListSpeakerModel", mjF9, 46, by decide +kernel, rfl, by decide, mw_991, mjw9⟩) ?_
    refine mj_all_cons 90 rfl (trivial) ?_
    refine mj_all_cons 91 rfl (trivial) ?_
    refine mj_all_cons 92 rfl (Or.inr ⟨by decide +kernel, rfl⟩) ?_
    refine mj_all_cons 93 rfl (trivial) ?_
    refine mj_all_cons 94 rfl (Or.inl ⟨by decide +kernel, rfl⟩) ?_
    refine mj_all_cons 95 rfl (show _ = _ from by decide +kernel) ?_
    refine mj_all_cons 96 rfl (Or.inl ⟨0, by decide +kernel, rfl, rfl⟩) ?_
    refine mj_all_cons 97 rfl (Or.inr ⟨by decide +kernel, rfl⟩) ?_
    refine mj_all_cons 98 rfl (trivial) ?_
    refine mj_all_cons 99 rfl (⟨mjmM6, 107, 1, rfl, by decide, mjmd6, mw_16, Or.inl ⟨9, mjF9, 46, by decide +kernel, rfl, rfl, rfl, mw_1210, mw_1212, mjsel_77⟩⟩) ?_
    refine mj_all_cons 100 rfl (trivial) ?_
    refine mj_all_cons 101 rfl (trivial) ?_
    refine mj_all_cons 102 rfl (show _ = _ from by decide +kernel) ?_
    refine mj_all_cons 103 rfl (Or.inl ⟨0, by decide +kernel, rfl, rfl⟩) ?_
    refine mj_all_cons 104 rfl (⟨33, "ListSpeakerModel", mjF9, 46, by decide +kernel, rfl, by decide, mw_991, mjw9⟩) ?_
    refine mj_all_cons 105 rfl (trivial) ?_
    refine mj_all_cons 106 rfl (trivial) ?_
    refine mj_all_cons 107 rfl (Or.inr ⟨by decide +kernel, rfl⟩) ?_
    refine mj_all_cons 108 rfl (trivial) ?_
    refine mj_all_cons 109 rfl (Or.inl ⟨by decide +kernel, rfl⟩) ?_
    refine mj_all_cons 110 rfl (show _ = _ from by decide +kernel) ?_
    refine mj_all_cons 111 rfl (Or.inl ⟨0, by decide +kernel, rfl, rfl⟩) ?_
    refine mj_all_cons 112 rfl (Or.inr ⟨by decide +kernel, rfl⟩) ?_
    refine mj_all_cons 113 rfl (trivial) ?_
    refine mj_all_cons 114 rfl (⟨mjmM5, 111, 1, rfl, by decide, mjmd5, mw_16, Or.inl ⟨9, mjF9, 46, by decide +kernel, rfl, rfl, rfl, mw_1197, mw_1199, mjsel_74⟩⟩) ?_
    refine mj_all_cons 115 rfl (trivial) ?_
    refine mj_all_cons 116 rfl (trivial) ?_
    refine mj_all_cons 117 rfl (show _ = _ from by decide +kernel) ?_
    refine mj_all_cons 118 rfl (Or.inl ⟨0, by decide +kernel, rfl, rfl⟩) ?_
    refine mj_all_cons 119 rfl (⟨33, "ListSpeakerModel", mjF9, 46, by decide +kernel, rfl, by decide, mw_991, mjw9⟩) ?_
    refine mj_all_cons 120 rfl (trivial) ?_
    refine mj_all_cons 121 rfl (trivial) ?_
    refine mj_all_cons 122 rfl (Or.inr ⟨by decide +kernel, rfl⟩) ?_
    refine mj_all_cons 123 rfl (trivial) ?_
    refine mj_all_cons 124 rfl (Or.inl ⟨by decide +kernel, rfl⟩) ?_
    refine mj_all_cons 125 rfl (show _ = _ from by decide +kernel) ?_
    refine mj_all_cons 126 rfl (Or.inl ⟨0, by decide +kernel, rfl, rfl⟩) ?_
    refine mj_all_cons 127 rfl (Or.inr ⟨by decide +kernel, rfl⟩) ?_
    refine mj_all_cons 128 rfl (trivial) ?_
    refine mj_all_cons 129 rfl (⟨mjmM5, 111, 1, rfl, by decide, mjmd5, mw_16, Or.inl ⟨9, mjF9, 46, by decide +kernel, rfl, rfl, rfl, mw_1197, mw_1199, mjsel_74⟩⟩) ?_
    refine mj_all_cons 130 rfl (trivial) ?_
    refine mj_all_cons 131 rfl (trivial) ?_
    refine mj_all_cons 132 rfl (show _ = _ from by decide +kernel) ?_
    refine mj_all_cons 133 rfl (show _ = _ from by decide +kernel) ?_
    refine mj_all_cons 134 rfl (trivial) ?_
    refine mj_all_cons 135 rfl (trivial) ?_
    refine mj_all_cons 136 rfl (show _ = _ from by decide +kernel) ?_
    refine mj_all_cons 137 rfl (trivial) ?_
    refine mj_all_cons 138 rfl (trivial) ?_
    refine mj_all_cons 139 rfl (Or.inr ⟨by decide +kernel, rfl⟩) ?_
    refine mj_all_cons 140 rfl (trivial) ?_
    refine mj_all_cons 141 rfl (Or.inr ⟨by decide +kernel, rfl⟩) ?_
    refine mj_all_cons 142 rfl (trivial) ?_
    refine mj_all_cons 143 rfl (show _ = _ from by decide +kernel) ?_
    refine mj_all_cons 144 rfl (trivial) ?_
    refine mj_all_cons 145 rfl (trivial) ?_
    refine mj_all_cons 146 rfl (Or.inl ⟨by decide +kernel, rfl⟩) ?_
    refine mj_all_cons 147 rfl (show _ = _ from by decide +kernel) ?_
    refine mj_all_cons 148 rfl (show _ = _ from by decide +kernel) ?_
    refine mj_all_cons 149 rfl (trivial) ?_
    refine mj_all_cons 150 rfl (trivial) ?_
    refine mj_all_cons 151 rfl (Or.inl ⟨by decide +kernel, rfl⟩) ?_
    refine mj_all_cons 152 rfl (show _ = _ from by decide +kernel) ?_
    exact trivial
  intro pc o ho
  have := mj_all_get _ 0 h pc o ho
  rw [Nat.zero_add] at this
  exact this
set_option maxRecDepth 100000 in
theorem mjmi37 : ∀ (pc : Nat) (o : mj_O), mjmo37[pc]? = some o → mj_is mj_kl mjmM37.1.cls mj_WS mj_NWs mjm_Ms mjmM37.2.1 pc o := by
  have h : mj_all (mj_is mj_kl mjmM37.1.cls mj_WS mj_NWs mjm_Ms mjmM37.2.1) 0 mjmo37 := by
    unfold mjmo37
    refine mj_all_cons 1 rfl (Or.inl ⟨0, by decide +kernel, rfl, rfl⟩) ?_
    refine mj_all_cons 2 rfl (⟨241, "ListSpeakerModel", mjF9, 46, by decide +kernel, rfl, by decide, mw_1016, mjw9⟩) ?_
    refine mj_all_cons 3 rfl (trivial) ?_
    refine mj_all_cons 4 rfl (trivial) ?_
    refine mj_all_cons 5 rfl (Or.inl ⟨0, by decide +kernel, rfl, rfl⟩) ?_
    refine mj_all_cons 6 rfl (⟨244, "ListSpeakerModel", mjF9, 46, by decide +kernel, rfl, by decide, mw_1015, mjw9⟩) ?_
    refine mj_all_cons 7 rfl (trivial) ?_
    refine mj_all_cons 8 rfl (trivial) ?_
    refine mj_all_cons 9 rfl (show _ = _ from by decide +kernel) ?_
    refine mj_all_cons 10 rfl (trivial) ?_
    refine mj_all_cons 11 rfl (trivial) ?_
    refine mj_all_cons 12 rfl (Or.inl ⟨0, by decide +kernel, rfl, rfl⟩) ?_
    refine mj_all_cons 13 rfl (Or.inl ⟨by decide +kernel, rfl⟩) ?_
    refine mj_all_cons 14 rfl (⟨mjmM2, 138, 1, rfl, by decide, mjmd2, mw_16, Or.inl ⟨9, mjF9, 46, by decide +kernel, rfl, rfl, rfl, mw_1146, mw_1148, mjsel_65⟩⟩) ?_
    refine mj_all_cons 15 rfl (trivial) ?_
    refine mj_all_cons 16 rfl (trivial) ?_
    refine mj_all_cons 17 rfl (show _ = _ from by decide +kernel) ?_
    refine mj_all_cons 18 rfl (Or.inl ⟨by decide +kernel, rfl⟩) ?_
    refine mj_all_cons 19 rfl (show _ = _ from by decide +kernel) ?_
    refine mj_all_cons 20 rfl (Or.inl ⟨0, by decide +kernel, rfl, rfl⟩) ?_
    refine mj_all_cons 21 rfl (show _ = _ from by decide +kernel) ?_
    refine mj_all_cons 22 rfl (⟨241, "ListSpeakerModel", mjF9, 46, by decide +kernel, rfl, by decide, mw_1016, mjw9⟩) ?_
    refine mj_all_cons 23 rfl (trivial) ?_
    refine mj_all_cons 24 rfl (trivial) ?_
    refine mj_all_cons 25 rfl (Or.inl ⟨by decide +kernel, rfl⟩) ?_
    refine mj_all_cons 26 rfl (show _ = _ from by decide +kernel) ?_
    refine mj_all_cons 27 rfl (⟨241, "ListSpeakerModel", mjF9, 46, mjt9, by decide +kernel, rfl, by decide, mw_1016, mjw9, mjk9, mjn9, rfl, by decide +kernel⟩) ?_
    refine mj_all_cons 28 rfl (trivial) ?_
    refine mj_all_cons 29 rfl (trivial) ?_
    refine mj_all_cons 30 rfl (Or.inl ⟨by decide +kernel, rfl⟩) ?_
    refine mj_all_cons 31 rfl (show _ = _ from by decide +kernel) ?_
    exact trivial
  intro pc o ho
  have := mj_all_get _ 0 h pc o ho
  rw [Nat.zero_add] at this
  exact this
set_option maxRecDepth 100000 in
theorem mjmi38 : ∀ (pc : Nat) (o : mj_O), mjmo38[pc]? = some o → mj_is mj_kl mjmM38.1.cls mj_WS mj_NWs mjm_Ms mjmM38.2.1 pc o := by
  have h : mj_all (mj_is mj_kl mjmM38.1.cls mj_WS mj_NWs mjm_Ms mjmM38.2.1) 0 mjmo38 := by
    unfold mjmo38
    refine mj_all_cons 1 rfl (Or.inl ⟨0, by decide +kernel, rfl, rfl⟩) ?_
    refine mj_all_cons 2 rfl (⟨247, "ListSpeakerModel", mjF9, 46, by decide +kernel, rfl, by decide, mw_1006, mjw9⟩) ?_
    refine mj_all_cons 3 rfl (trivial) ?_
    refine mj_all_cons 4 rfl (trivial) ?_
    refine mj_all_cons 5 rfl (Or.inr (Or.inl ⟨by decide +kernel, rfl, by decide⟩)) ?_
    refine mj_all_cons 6 rfl (trivial) ?_
    refine mj_all_cons 7 rfl (show _ = _ from by decide +kernel) ?_
    refine mj_all_cons 8 rfl (trivial) ?_
    refine mj_all_cons 9 rfl (trivial) ?_
    refine mj_all_cons 10 rfl (Or.inl ⟨0, by decide +kernel, rfl, rfl⟩) ?_
    refine mj_all_cons 11 rfl (Or.inr (Or.inl ⟨by decide +kernel, rfl, by decide⟩)) ?_
    refine mj_all_cons 12 rfl (trivial) ?_
    refine mj_all_cons 13 rfl (⟨mjmM2, 138, 1, rfl, by decide, mjmd2, mw_16, Or.inl ⟨9, mjF9, 46, by decide +kernel, rfl, rfl, rfl, mw_1146, mw_1148, mjsel_65⟩⟩) ?_
    refine mj_all_cons 14 rfl (trivial) ?_
    refine mj_all_cons 15 rfl (trivial) ?_
    refine mj_all_cons 16 rfl (show _ = _ from by decide +kernel) ?_
    refine mj_all_cons 17 rfl (show _ = _ from by decide +kernel) ?_
    refine mj_all_cons 18 rfl (Or.inl ⟨0, by decide +kernel, rfl, rfl⟩) ?_
    refine mj_all_cons 19 rfl (⟨69, "ListSpeakerModel", mjF9, 46, by decide +kernel, rfl, by decide, mw_1007, mjw9⟩) ?_
    refine mj_all_cons 20 rfl (trivial) ?_
    refine mj_all_cons 21 rfl (trivial) ?_
    refine mj_all_cons 22 rfl (Or.inl ⟨0, by decide +kernel, rfl, rfl⟩) ?_
    refine mj_all_cons 23 rfl (⟨247, "ListSpeakerModel", mjF9, 46, by decide +kernel, rfl, by decide, mw_1006, mjw9⟩) ?_
    refine mj_all_cons 24 rfl (trivial) ?_
    refine mj_all_cons 25 rfl (trivial) ?_
    refine mj_all_cons 26 rfl (Or.inl ⟨1, by decide +kernel, rfl, rfl⟩) ?_
    refine mj_all_cons 27 rfl (show _ = _ from by decide +kernel) ?_
    refine mj_all_cons 28 rfl (Or.inl ⟨0, by decide +kernel, rfl, rfl⟩) ?_
    refine mj_all_cons 29 rfl (show _ = _ from by decide +kernel) ?_
    refine mj_all_cons 30 rfl (⟨247, "ListSpeakerModel", mjF9, 46, by decide +kernel, rfl, by decide, mw_1006, mjw9⟩) ?_
    refine mj_all_cons 31 rfl (trivial) ?_
    refine mj_all_cons 32 rfl (trivial) ?_
    refine mj_all_cons 33 rfl (Or.inl ⟨by decide +kernel, rfl⟩) ?_
    refine mj_all_cons 34 rfl (show _ = _ from by decide +kernel) ?_
    refine mj_all_cons 35 rfl (⟨247, "ListSpeakerModel", mjF9, 46, mjt9, by decide +kernel, rfl, by decide, mw_1006, mjw9, mjk9, mjn9, rfl, by decide +kernel⟩) ?_
    refine mj_all_cons 36 rfl (trivial) ?_
    refine mj_all_cons 37 rfl (trivial) ?_
    refine mj_all_cons 38 rfl (Or.inl ⟨0, by decide +kernel, rfl, rfl⟩) ?_
    refine mj_all_cons 39 rfl (Or.inl ⟨0, by decide +kernel, rfl, rfl⟩) ?_
    refine mj_all_cons 40 rfl (⟨247, "ListSpeakerModel", mjF9, 46, by decide +kernel, rfl, by decide, mw_1006, mjw9⟩) ?_
    refine mj_all_cons 41 rfl (trivial) ?_
    refine mj_all_cons 42 rfl (trivial) ?_
    refine mj_all_cons 43 rfl (Or.inl ⟨0, by decide +kernel, rfl, rfl⟩) ?_
    refine mj_all_cons 44 rfl (⟨250, "ListSpeakerModel", mjF9, 46, by decide +kernel, rfl, by decide, mw_1017, mjw9⟩) ?_
    refine mj_all_cons 45 rfl (trivial) ?_
    refine mj_all_cons 46 rfl (trivial) ?_
    refine mj_all_cons 47 rfl (show _ = _ from by decide +kernel) ?_
    refine mj_all_cons 48 rfl (trivial) ?_
    refine mj_all_cons 49 rfl (trivial) ?_
    refine mj_all_cons 50 rfl (Or.inl ⟨0, by decide +kernel, rfl, rfl⟩) ?_
    refine mj_all_cons 51 rfl (⟨247, "ListSpeakerModel", mjF9, 46, by decide +kernel, rfl, by decide, mw_1006, mjw9⟩) ?_
    refine mj_all_cons 52 rfl (trivial) ?_
    refine mj_all_cons 53 rfl (trivial) ?_
    refine mj_all_cons 54 rfl (show _ = _ from by decide +kernel) ?_
    refine mj_all_cons 55 rfl (trivial) ?_
    refine mj_all_cons 56 rfl (trivial) ?_
    refine mj_all_cons 57 rfl (Or.inl ⟨0, by decide +kernel, rfl, rfl⟩) ?_
    refine mj_all_cons 58 rfl (⟨250, "ListSpeakerModel", mjF9, 46, by decide +kernel, rfl, by decide, mw_1017, mjw9⟩) ?_
    refine mj_all_cons 59 rfl (trivial) ?_
    refine mj_all_cons 60 rfl (trivial) ?_
    refine mj_all_cons 61 rfl (⟨250, "ListSpeakerModel", mjF9, 46, mjt9, by decide +kernel, rfl, by decide, mw_1017, mjw9, mjk9, mjn9, rfl, by decide +kernel⟩) ?_
    refine mj_all_cons 62 rfl (trivial) ?_
    refine mj_all_cons 63 rfl (trivial) ?_
    refine mj_all_cons 64 rfl (show _ = _ from by decide +kernel) ?_
    exact trivial
  intro pc o ho
  have := mj_all_get _ 0 h pc o ho
  rw [Nat.zero_add] at this
  exact this
set_option maxRecDepth 100000 in
theorem mjmi39 : ∀ (pc : Nat) (o : mj_O), mjmo39[pc]? = some o → mj_is mj_kl mjmM39.1.cls mj_WS mj_NWs mjm_Ms mjmM39.2.1 pc o := by
  have h : mj_all (mj_is mj_kl mjmM39.1.cls mj_WS mj_NWs mjm_Ms mjmM39.2.1) 0 mjmo39 := by
    unfold mjmo39
    refine mj_all_cons 1 rfl (Or.inl ⟨0, by decide +kernel, rfl, rfl⟩) ?_
    refine mj_all_cons 2 rfl (show _ = _ from by decide +kernel) ?_
    refine mj_all_cons 3 rfl (⟨247, "ListSpeakerModel", mjF9, 46, by decide +kernel, rfl, by decide, mw_1006, mjw9⟩) ?_
    refine mj_all_cons 4 rfl (trivial) ?_
    refine mj_all_cons 5 rfl (trivial) ?_
    refine mj_all_cons 6 rfl (Or.inl ⟨by decide +kernel, rfl⟩) ?_
    refine mj_all_cons 7 rfl (show _ = _ from by decide +kernel) ?_
    refine mj_all_cons 8 rfl (⟨247, "ListSpeakerModel", mjF9, 46, mjt9, by decide +kernel, rfl, by decide, mw_1006, mjw9, mjk9, mjn9, rfl, by decide +kernel⟩) ?_
    refine mj_all_cons 9 rfl (trivial) ?_
    refine mj_all_cons 10 rfl (trivial) ?_
    refine mj_all_cons 11 rfl (Or.inl ⟨0, by decide +kernel, rfl, rfl⟩) ?_
    refine mj_all_cons 12 rfl (⟨69, "ListSpeakerModel", mjF9, 46, by decide +kernel, rfl, by decide, mw_1007, mjw9⟩) ?_
    refine mj_all_cons 13 rfl (trivial) ?_
    refine mj_all_cons 14 rfl (trivial) ?_
    refine mj_all_cons 15 rfl (Or.inl ⟨0, by decide +kernel, rfl, rfl⟩) ?_
    refine mj_all_cons 16 rfl (⟨247, "ListSpeakerModel", mjF9, 46, by decide +kernel, rfl, by decide, mw_1006, mjw9⟩) ?_
    refine mj_all_cons 17 rfl (trivial) ?_
    refine mj_all_cons 18 rfl (trivial) ?_
    refine mj_all_cons 19 rfl (show _ = _ from by decide +kernel) ?_
    refine mj_all_cons 20 rfl (show _ = _ from by decide +kernel) ?_
    exact trivial
  intro pc o ho
  have := mj_all_get _ 0 h pc o ho
  rw [Nat.zero_add] at this
  exact this
set_option maxRecDepth 100000 in
theorem mjmi40 : ∀ (pc : Nat) (o : mj_O), mjmo40[pc]? = some o → mj_is mj_kl mjmM40.1.cls mj_WS mj_NWs mjm_Ms mjmM40.2.1 pc o := by
  have h : mj_all (mj_is mj_kl mjmM40.1.cls mj_WS mj_NWs mjm_Ms mjmM40.2.1) 0 mjmo40 := by
    unfold mjmo40
    refine mj_all_cons 1 rfl (Or.inl ⟨0, by decide +kernel, rfl, rfl⟩) ?_
    refine mj_all_cons 2 rfl (Or.inl ⟨by decide +kernel, rfl⟩) ?_
    refine mj_all_cons 3 rfl (⟨247, "ListSpeakerModel", mjF9, 46, mjt9, by decide +kernel, rfl, by decide, mw_1006, mjw9, mjk9, mjn9, rfl, by decide +kernel⟩) ?_
    refine mj_all_cons 4 rfl (trivial) ?_
    refine mj_all_cons 5 rfl (trivial) ?_
    refine mj_all_cons 6 rfl (Or.inl ⟨0, by decide +kernel, rfl, rfl⟩) ?_
    refine mj_all_cons 7 rfl (Or.inl ⟨by decide +kernel, rfl⟩) ?_
    refine mj_all_cons 8 rfl (⟨174, "ListSpeakerModel", mjF9, 46, mjt9, by decide +kernel, rfl, by decide, mw_1001, mjw9, mjk9, mjn9, rfl, by decide +kernel⟩) ?_
    refine mj_all_cons 9 rfl (trivial) ?_
    refine mj_all_cons 10 rfl (trivial) ?_
    refine mj_all_cons 11 rfl (Or.inl ⟨0, by decide +kernel, rfl, rfl⟩) ?_
    refine mj_all_cons 12 rfl (Or.inl ⟨by decide +kernel, rfl⟩) ?_
    refine mj_all_cons 13 rfl (⟨177, "ListSpeakerModel", mjF9, 46, mjt9, by decide +kernel, rfl, by decide, mw_1008, mjw9, mjk9, mjn9, rfl, by decide +kernel⟩) ?_
    refine mj_all_cons 14 rfl (trivial) ?_
    refine mj_all_cons 15 rfl (trivial) ?_
    refine mj_all_cons 16 rfl (Or.inl ⟨0, by decide +kernel, rfl, rfl⟩) ?_
    refine mj_all_cons 17 rfl (Or.inl ⟨by decide +kernel, rfl⟩) ?_
    refine mj_all_cons 18 rfl (⟨180, "ListSpeakerModel", mjF9, 46, mjt9, by decide +kernel, rfl, by decide, mw_1011, mjw9, mjk9, mjn9, rfl, by decide +kernel⟩) ?_
    refine mj_all_cons 19 rfl (trivial) ?_
    refine mj_all_cons 20 rfl (trivial) ?_
    refine mj_all_cons 21 rfl (Or.inl ⟨0, by decide +kernel, rfl, rfl⟩) ?_
    refine mj_all_cons 22 rfl (Or.inl ⟨by decide +kernel, rfl⟩) ?_
    refine mj_all_cons 23 rfl (⟨253, "ListSpeakerModel", mjF9, 46, mjt9, by decide +kernel, rfl, by decide, mw_1013, mjw9, mjk9, mjn9, rfl, by decide +kernel⟩) ?_
    refine mj_all_cons 24 rfl (trivial) ?_
    refine mj_all_cons 25 rfl (trivial) ?_
    refine mj_all_cons 26 rfl (Or.inl ⟨0, by decide +kernel, rfl, rfl⟩) ?_
    refine mj_all_cons 27 rfl (Or.inl ⟨by decide +kernel, rfl⟩) ?_
    refine mj_all_cons 28 rfl (Or.inl ⟨1, by decide +kernel, rfl, rfl⟩) ?_
    refine mj_all_cons 29 rfl (Or.inl ⟨by decide +kernel, rfl⟩) ?_
    refine mj_all_cons 30 rfl (Or.inl ⟨by decide +kernel, rfl⟩) ?_
    refine mj_all_cons 31 rfl (⟨mjmM24, 183, 4, rfl, by decide, mjmd24, mw_16, Or.inl ⟨9, mjF9, 46, by decide +kernel, rfl, rfl, rfl, mw_1239, mw_1241, mjsel_83⟩⟩) ?_
    refine mj_all_cons 32 rfl (trivial) ?_
    refine mj_all_cons 33 rfl (trivial) ?_
    refine mj_all_cons 34 rfl (Or.inl ⟨0, by decide +kernel, rfl, rfl⟩) ?_
    refine mj_all_cons 35 rfl (⟨174, "ListSpeakerModel", mjF9, 46, by decide +kernel, rfl, by decide, mw_1001, mjw9⟩) ?_
    refine mj_all_cons 36 rfl (trivial) ?_
    refine mj_all_cons 37 rfl (trivial) ?_
    refine mj_all_cons 38 rfl (show _ = _ from by decide +kernel) ?_
    refine mj_all_cons 39 rfl (trivial) ?_
    refine mj_all_cons 40 rfl (trivial) ?_
    refine mj_all_cons 41 rfl (Or.inl ⟨0, by decide +kernel, rfl, rfl⟩) ?_
    refine mj_all_cons 42 rfl (⟨98, "ListSpeakerModel", mjF9, 46, by decide +kernel, rfl, by decide, mw_980, mjw9⟩) ?_
    refine mj_all_cons 43 rfl (trivial) ?_
    refine mj_all_cons 44 rfl (trivial) ?_
    refine mj_all_cons 45 rfl (show _ = _ from by decide +kernel) ?_
    refine mj_all_cons 46 rfl (trivial) ?_
    refine mj_all_cons 47 rfl (trivial) ?_
    refine mj_all_cons 48 rfl (Or.inl ⟨0, by decide +kernel, rfl, rfl⟩) ?_
    refine mj_all_cons 49 rfl (show _ = _ from by decide +kernel) ?_
    refine mj_all_cons 50 rfl (⟨174, "ListSpeakerModel", mjF9, 46, by decide +kernel, rfl, by decide, mw_1001, mjw9⟩) ?_
    refine mj_all_cons 51 rfl (trivial) ?_
    refine mj_all_cons 52 rfl (trivial) ?_
    refine mj_all_cons 53 rfl (Or.inl ⟨by decide +kernel, rfl⟩) ?_
    refine mj_all_cons 54 rfl (show _ = _ from by decide +kernel) ?_
    refine mj_all_cons 55 rfl (⟨174, "ListSpeakerModel", mjF9, 46, mjt9, by decide +kernel, rfl, by decide, mw_1001, mjw9, mjk9, mjn9, rfl, by decide +kernel⟩) ?_
    refine mj_all_cons 56 rfl (trivial) ?_
    refine mj_all_cons 57 rfl (trivial) ?_
    refine mj_all_cons 58 rfl (Or.inl ⟨0, by decide +kernel, rfl, rfl⟩) ?_
    refine mj_all_cons 59 rfl (Or.inl ⟨0, by decide +kernel, rfl, rfl⟩) ?_
    refine mj_all_cons 60 rfl (⟨57, "ListSpeakerModel", mjF9, 46, by decide +kernel, rfl, by decide, mw_1002, mjw9⟩) ?_
    refine mj_all_cons 61 rfl (trivial) ?_
    refine mj_all_cons 62 rfl (trivial) ?_
    refine mj_all_cons 63 rfl (Or.inl ⟨0, by decide +kernel, rfl, rfl⟩) ?_
    refine mj_all_cons 64 rfl (⟨174, "ListSpeakerModel", mjF9, 46, by decide +kernel, rfl, by decide, mw_1001, mjw9⟩) ?_
    refine mj_all_cons 65 rfl (trivial) ?_
    refine mj_all_cons 66 rfl (trivial) ?_
    refine mj_all_cons 67 rfl (show _ = _ from by decide +kernel) ?_
    refine mj_all_cons 68 rfl (Or.inl ⟨0, by decide +kernel, rfl, rfl⟩) ?_
    refine mj_all_cons 69 rfl (⟨60, "ListSpeakerModel", mjF9, 46, by decide +kernel, rfl, by decide, mw_1003, mjw9⟩) ?_
    refine mj_all_cons 70 rfl (trivial) ?_
    refine mj_all_cons 71 rfl (trivial) ?_
    refine mj_all_cons 72 rfl (Or.inl ⟨0, by decide +kernel, rfl, rfl⟩) ?_
    refine mj_all_cons 73 rfl (⟨174, "ListSpeakerModel", mjF9, 46, by decide +kernel, rfl, by decide, mw_1001, mjw9⟩) ?_
    refine mj_all_cons 74 rfl (trivial) ?_
    refine mj_all_cons 75 rfl (trivial) ?_
    refine mj_all_cons 76 rfl (show _ = _ from by decide +kernel) ?_
    refine mj_all_cons 77 rfl (Or.inl ⟨0, by decide +kernel, rfl, rfl⟩) ?_
    refine mj_all_cons 78 rfl (⟨63, "ListSpeakerModel", mjF9, 46, by decide +kernel, rfl, by decide, mw_1004, mjw9⟩) ?_
    refine mj_all_cons 79 rfl (trivial) ?_
    refine mj_all_cons 80 rfl (trivial) ?_
    refine mj_all_cons 81 rfl (Or.inl ⟨0, by decide +kernel, rfl, rfl⟩) ?_
    refine mj_all_cons 82 rfl (⟨174, "ListSpeakerModel", mjF9, 46, by decide +kernel, rfl, by decide, mw_1001, mjw9⟩) ?_
    refine mj_all_cons 83 rfl (trivial) ?_
    refine mj_all_cons 84 rfl (trivial) ?_
    refine mj_all_cons 85 rfl (show _ = _ from by decide +kernel) ?_
    refine mj_all_cons 86 rfl (Or.inl ⟨0, by decide +kernel, rfl, rfl⟩) ?_
    refine mj_all_cons 87 rfl (⟨66, "ListSpeakerModel", mjF9, 46, by decide +kernel, rfl, by decide, mw_1005, mjw9⟩) ?_
    refine mj_all_cons 88 rfl (trivial) ?_
    refine mj_all_cons 89 rfl (trivial) ?_
    refine mj_all_cons 90 rfl (Or.inl ⟨0, by decide +kernel, rfl, rfl⟩) ?_
    refine mj_all_cons 91 rfl (⟨174, "ListSpeakerModel", mjF9, 46, by decide +kernel, rfl, by decide, mw_1001, mjw9⟩) ?_
    refine mj_all_cons 92 rfl (trivial) ?_
    refine mj_all_cons 93 rfl (trivial) ?_
    refine mj_all_cons 94 rfl (show _ = _ from by decide +kernel) ?_
    refine mj_all_cons 95 rfl (⟨mjmM41, 256, 4, rfl, by decide, mjmd41, mw_16, Or.inl ⟨9, mjF9, 46, by decide +kernel, rfl, rfl, rfl, mw_1279, mw_1281, mjsel_93⟩⟩) ?_
    refine mj_all_cons 96 rfl (trivial) ?_
    refine mj_all_cons 97 rfl (trivial) ?_
    refine mj_all_cons 98 rfl (show _ = _ from by decide +kernel) ?_
    refine mj_all_cons 99 rfl (trivial) ?_
    refine mj_all_cons 100 rfl (trivial) ?_
    refine mj_all_cons 101 rfl (Or.inl ⟨0, by decide +kernel, rfl, rfl⟩) ?_
    refine mj_all_cons 102 rfl (⟨98, "ListSpeakerModel", mjF9, 46, by decide +kernel, rfl, by decide, mw_980, mjw9⟩) ?_
    refine mj_all_cons 103 rfl (trivial) ?_
    refine mj_all_cons 104 rfl (trivial) ?_
    refine mj_all_cons 105 rfl (show _ = _ from by decide +kernel) ?_
    refine mj_all_cons 106 rfl (trivial) ?_
    refine mj_all_cons 107 rfl (trivial) ?_
    refine mj_all_cons 108 rfl (Or.inr (Or.inr (Or.inr (Or.inl ⟨101, by decide +kernel, rfl, mw_1150⟩)))) ?_
    refine mj_all_cons 109 rfl (trivial) ?_
    refine mj_all_cons 110 rfl (show _ = _ from by decide +kernel) ?_
    refine mj_all_cons 111 rfl (trivial) ?_
    refine mj_all_cons 112 rfl (trivial) ?_
    refine mj_all_cons 113 rfl (Or.inl ⟨0, by decide +kernel, rfl, rfl⟩) ?_
    refine mj_all_cons 114 rfl (⟨mjmM39, 259, 0, rfl, by decide, mjmd39, mw_16, Or.inl ⟨9, mjF9, 46, by decide +kernel, rfl, rfl, rfl, mw_1295, mw_1297, mjsel_97⟩⟩) ?_
    refine mj_all_cons 115 rfl (trivial) ?_
    refine mj_all_cons 116 rfl (trivial) ?_
    refine mj_all_cons 117 rfl (show _ = _ from by decide +kernel) ?_
    exact trivial
  intro pc o ho
  have := mj_all_get _ 0 h pc o ho
  rw [Nat.zero_add] at this
  exact this
set_option maxRecDepth 100000 in
theorem mjmi41 : ∀ (pc : Nat) (o : mj_O), mjmo41[pc]? = some o → mj_is mj_kl mjmM41.1.cls mj_WS mj_NWs mjm_Ms mjmM41.2.1 pc o := by
  have h : mj_all (mj_is mj_kl mjmM41.1.cls mj_WS mj_NWs mjm_Ms mjmM41.2.1) 0 mjmo41 := by
    unfold mjmo41
    refine mj_all_cons 1 rfl (Or.inl ⟨1, by decide +kernel, rfl, rfl⟩) ?_
    refine mj_all_cons 2 rfl (⟨432, 14, #[71, 88, 139, 169, 180, 189, 234, 281, 292, 281, 335, 378, 413, 421], 71, by decide +kernel, by decide, by decide, by decide⟩) ?_
    refine mj_all_cons 3 rfl (trivial) ?_
    refine mj_all_cons 4 rfl (trivial) ?_
    refine mj_all_cons 5 rfl (trivial) ?_
    refine mj_all_cons 6 rfl (trivial) ?_
    refine mj_all_cons 7 rfl (trivial) ?_
    refine mj_all_cons 8 rfl (trivial) ?_
    refine mj_all_cons 9 rfl (trivial) ?_
    refine mj_all_cons 10 rfl (trivial) ?_
    refine mj_all_cons 11 rfl (trivial) ?_
    refine mj_all_cons 12 rfl (trivial) ?_
    refine mj_all_cons 13 rfl (trivial) ?_
    refine mj_all_cons 14 rfl (trivial) ?_
    refine mj_all_cons 15 rfl (trivial) ?_
    refine mj_all_cons 16 rfl (trivial) ?_
    refine mj_all_cons 17 rfl (trivial) ?_
    refine mj_all_cons 18 rfl (trivial) ?_
    refine mj_all_cons 19 rfl (trivial) ?_
    refine mj_all_cons 20 rfl (trivial) ?_
    refine mj_all_cons 21 rfl (trivial) ?_
    refine mj_all_cons 22 rfl (trivial) ?_
    refine mj_all_cons 23 rfl (trivial) ?_
    refine mj_all_cons 24 rfl (trivial) ?_
    refine mj_all_cons 25 rfl (trivial) ?_
    refine mj_all_cons 26 rfl (trivial) ?_
    refine mj_all_cons 27 rfl (trivial) ?_
    refine mj_all_cons 28 rfl (trivial) ?_
    refine mj_all_cons 29 rfl (trivial) ?_
    refine mj_all_cons 30 rfl (trivial) ?_
    refine mj_all_cons 31 rfl (trivial) ?_
    refine mj_all_cons 32 rfl (trivial) ?_
    refine mj_all_cons 33 rfl (trivial) ?_
    refine mj_all_cons 34 rfl (trivial) ?_
    refine mj_all_cons 35 rfl (trivial) ?_
    refine mj_all_cons 36 rfl (trivial) ?_
    refine mj_all_cons 37 rfl (trivial) ?_
    refine mj_all_cons 38 rfl (trivial) ?_
    refine mj_all_cons 39 rfl (trivial) ?_
    refine mj_all_cons 40 rfl (trivial) ?_
    refine mj_all_cons 41 rfl (trivial) ?_
    refine mj_all_cons 42 rfl (trivial) ?_
    refine mj_all_cons 43 rfl (trivial) ?_
    refine mj_all_cons 44 rfl (trivial) ?_
    refine mj_all_cons 45 rfl (trivial) ?_
    refine mj_all_cons 46 rfl (trivial) ?_
    refine mj_all_cons 47 rfl (trivial) ?_
    refine mj_all_cons 48 rfl (trivial) ?_
    refine mj_all_cons 49 rfl (trivial) ?_
    refine mj_all_cons 50 rfl (trivial) ?_
    refine mj_all_cons 51 rfl (trivial) ?_
    refine mj_all_cons 52 rfl (trivial) ?_
    refine mj_all_cons 53 rfl (trivial) ?_
    refine mj_all_cons 54 rfl (trivial) ?_
    refine mj_all_cons 55 rfl (trivial) ?_
    refine mj_all_cons 56 rfl (trivial) ?_
    refine mj_all_cons 57 rfl (trivial) ?_
    refine mj_all_cons 58 rfl (trivial) ?_
    refine mj_all_cons 59 rfl (trivial) ?_
    refine mj_all_cons 60 rfl (trivial) ?_
    refine mj_all_cons 61 rfl (trivial) ?_
    refine mj_all_cons 62 rfl (trivial) ?_
    refine mj_all_cons 63 rfl (trivial) ?_
    refine mj_all_cons 64 rfl (trivial) ?_
    refine mj_all_cons 65 rfl (trivial) ?_
    refine mj_all_cons 66 rfl (trivial) ?_
    refine mj_all_cons 67 rfl (trivial) ?_
    refine mj_all_cons 68 rfl (trivial) ?_
    refine mj_all_cons 69 rfl (trivial) ?_
    refine mj_all_cons 70 rfl (trivial) ?_
    refine mj_all_cons 71 rfl (trivial) ?_
    refine mj_all_cons 72 rfl (trivial) ?_
    refine mj_all_cons 73 rfl (Or.inl ⟨0, by decide +kernel, rfl, rfl⟩) ?_
    refine mj_all_cons 74 rfl (⟨mjmM37, 237, 0, rfl, by decide, mjmd37, mw_16, Or.inl ⟨9, mjF9, 46, by decide +kernel, rfl, rfl, rfl, mw_1271, mw_1273, mjsel_91⟩⟩) ?_
    refine mj_all_cons 75 rfl (trivial) ?_
    refine mj_all_cons 76 rfl (trivial) ?_
    refine mj_all_cons 77 rfl (show _ = _ from by decide +kernel) ?_
    refine mj_all_cons 78 rfl (trivial) ?_
    refine mj_all_cons 79 rfl (trivial) ?_
    refine mj_all_cons 80 rfl (Or.inl ⟨0, by decide +kernel, rfl, rfl⟩) ?_
    refine mj_all_cons 81 rfl (Or.inl ⟨2, by decide +kernel, rfl, rfl⟩) ?_
    refine mj_all_cons 82 rfl (Or.inr ⟨by decide +kernel, rfl⟩) ?_
    refine mj_all_cons 83 rfl (trivial) ?_
    refine mj_all_cons 84 rfl (⟨mjmM46, 262, 2, rfl, by decide, mjmd46, mw_16, Or.inl ⟨9, mjF9, 46, by decide +kernel, rfl, rfl, rfl, mw_1283, mw_1285, mjsel_94⟩⟩) ?_
    refine mj_all_cons 85 rfl (trivial) ?_
    refine mj_all_cons 86 rfl (trivial) ?_
    refine mj_all_cons 87 rfl (show _ = _ from by decide +kernel) ?_
    refine mj_all_cons 88 rfl (trivial) ?_
    refine mj_all_cons 89 rfl (trivial) ?_
    refine mj_all_cons 90 rfl (Or.inl ⟨2, by decide +kernel, rfl, rfl⟩) ?_
    refine mj_all_cons 91 rfl (⟨mjmM3, 103, 1, rfl, by decide, mjmd3, mw_16, Or.inr (Or.inl ⟨by decide +kernel, rfl, rfl, mw_1194, mw_1195⟩)⟩) ?_
    refine mj_all_cons 92 rfl (trivial) ?_
    refine mj_all_cons 93 rfl (trivial) ?_
    refine mj_all_cons 94 rfl (show _ = _ from by decide +kernel) ?_
    refine mj_all_cons 95 rfl (trivial) ?_
    refine mj_all_cons 96 rfl (trivial) ?_
    refine mj_all_cons 97 rfl (Or.inl ⟨0, by decide +kernel, rfl, rfl⟩) ?_
    refine mj_all_cons 98 rfl (Or.inl ⟨by decide +kernel, rfl⟩) ?_
    refine mj_all_cons 99 rfl (Or.inl ⟨0, by decide +kernel, rfl, rfl⟩) ?_
    refine mj_all_cons 100 rfl (Or.inl ⟨2, by decide +kernel, rfl, rfl⟩) ?_
    refine mj_all_cons 101 rfl (⟨mjmM6, 107, 1, rfl, by decide, mjmd6, mw_16, Or.inl ⟨9, mjF9, 46, by decide +kernel, rfl, rfl, rfl, mw_1210, mw_1212, mjsel_77⟩⟩) ?_
    refine mj_all_cons 102 rfl (trivial) ?_
    refine mj_all_cons 103 rfl (trivial) ?_
    refine mj_all_cons 104 rfl (Or.inl ⟨3, by decide +kernel, rfl, rfl⟩) ?_
    refine mj_all_cons 105 rfl (Or.inl ⟨by decide +kernel, rfl⟩) ?_
    refine mj_all_cons 106 rfl (⟨mjmM24, 183, 4, rfl, by decide, mjmd24, mw_16, Or.inl ⟨9, mjF9, 46, by decide +kernel, rfl, rfl, rfl, mw_1239, mw_1241, mjsel_83⟩⟩) ?_
    refine mj_all_cons 107 rfl (trivial) ?_
    refine mj_all_cons 108 rfl (trivial) ?_
    refine mj_all_cons 109 rfl (Or.inl ⟨0, by decide +kernel, rfl, rfl⟩) ?_
    refine mj_all_cons 110 rfl (Or.inl ⟨by decide +kernel, rfl⟩) ?_
    refine mj_all_cons 111 rfl (Or.inl ⟨3, by decide +kernel, rfl, rfl⟩) ?_
    refine mj_all_cons 112 rfl (show _ = _ from by decide +kernel) ?_
    refine mj_all_cons 113 rfl (trivial) ?_
    refine mj_all_cons 114 rfl (trivial) ?_
    refine mj_all_cons 115 rfl (Or.inl ⟨0, by decide +kernel, rfl, rfl⟩) ?_
    refine mj_all_cons 116 rfl (Or.inl ⟨2, by decide +kernel, rfl, rfl⟩) ?_
    refine mj_all_cons 117 rfl (⟨mjmM5, 111, 1, rfl, by decide, mjmd5, mw_16, Or.inl ⟨9, mjF9, 46, by decide +kernel, rfl, rfl, rfl, mw_1197, mw_1199, mjsel_74⟩⟩) ?_
    refine mj_all_cons 118 rfl (trivial) ?_
    refine mj_all_cons 119 rfl (trivial) ?_
    refine mj_all_cons 120 rfl (show _ = _ from by decide +kernel) ?_
    refine mj_all_cons 121 rfl (trivial) ?_
    refine mj_all_cons 122 rfl (trivial) ?_
    refine mj_all_cons 123 rfl (Or.inl ⟨0, by decide +kernel, rfl, rfl⟩) ?_
    refine mj_all_cons 124 rfl (Or.inl ⟨0, by decide +kernel, rfl, rfl⟩) ?_
    refine mj_all_cons 125 rfl (Or.inl ⟨2, by decide +kernel, rfl, rfl⟩) ?_
    refine mj_all_cons 126 rfl (⟨mjmM5, 111, 1, rfl, by decide, mjmd5, mw_16, Or.inl ⟨9, mjF9, 46, by decide +kernel, rfl, rfl, rfl, mw_1197, mw_1199, mjsel_74⟩⟩) ?_
    refine mj_all_cons 127 rfl (trivial) ?_
    refine mj_all_cons 128 rfl (trivial) ?_
    refine mj_all_cons 129 rfl (Or.inl ⟨by decide +kernel, rfl⟩) ?_
    refine mj_all_cons 130 rfl (⟨mjmM8, 193, 2, rfl, by decide, mjmd8, mw_16, Or.inl ⟨9, mjF9, 46, by decide +kernel, rfl, rfl, rfl, mw_1214, mw_1216, mjsel_78⟩⟩) ?_
    refine mj_all_cons 131 rfl (trivial) ?_
    refine mj_all_cons 132 rfl (trivial) ?_
    refine mj_all_cons 133 rfl (Or.inl ⟨by decide +kernel, rfl⟩) ?_
    refine mj_all_cons 134 rfl (Or.inl ⟨by decide +kernel, rfl⟩) ?_
    refine mj_all_cons 135 rfl (⟨mjmM24, 183, 4, rfl, by decide, mjmd24, mw_16, Or.inl ⟨9, mjF9, 46, by decide +kernel, rfl, rfl, rfl, mw_1239, mw_1241, mjsel_83⟩⟩) ?_
    refine mj_all_cons 136 rfl (trivial) ?_
    refine mj_all_cons 137 rfl (trivial) ?_
    refine mj_all_cons 138 rfl (show _ = _ from by decide +kernel) ?_
    refine mj_all_cons 139 rfl (trivial) ?_
    refine mj_all_cons 140 rfl (trivial) ?_
    refine mj_all_cons 141 rfl (Or.inl ⟨0, by decide +kernel, rfl, rfl⟩) ?_
    refine mj_all_cons 142 rfl (Or.inl ⟨by decide +kernel, rfl⟩) ?_
    refine mj_all_cons 143 rfl (Or.inl ⟨0, by decide +kernel, rfl, rfl⟩) ?_
    refine mj_all_cons 144 rfl (Or.inl ⟨2, by decide +kernel, rfl, rfl⟩) ?_
    refine mj_all_cons 145 rfl (Or.inl ⟨0, by decide +kernel, rfl, rfl⟩) ?_
    refine mj_all_cons 146 rfl (⟨mjmM39, 259, 0, rfl, by decide, mjmd39, mw_16, Or.inl ⟨9, mjF9, 46, by decide +kernel, rfl, rfl, rfl, mw_1295, mw_1297, mjsel_97⟩⟩) ?_
    refine mj_all_cons 147 rfl (trivial) ?_
    refine mj_all_cons 148 rfl (trivial) ?_
    refine mj_all_cons 149 rfl (Or.inr (Or.inr (Or.inr (Or.inl ⟨101, by decide +kernel, rfl, mw_1150⟩)))) ?_
    refine mj_all_cons 150 rfl (trivial) ?_
    refine mj_all_cons 151 rfl (show _ = _ from by decide +kernel) ?_
    refine mj_all_cons 152 rfl (trivial) ?_
    refine mj_all_cons 153 rfl (trivial) ?_
    refine mj_all_cons 154 rfl (Or.inl ⟨by decide +kernel, rfl⟩) ?_
    refine mj_all_cons 155 rfl (show _ = _ from by decide +kernel) ?_
    refine mj_all_cons 156 rfl (trivial) ?_
    refine mj_all_cons 157 rfl (trivial) ?_
    refine mj_all_cons 158 rfl (Or.inl ⟨by decide +kernel, rfl⟩) ?_
    refine mj_all_cons 159 rfl (⟨mjmM8, 193, 2, rfl, by decide, mjmd8, mw_16, Or.inl ⟨9, mjF9, 46, by decide +kernel, rfl, rfl, rfl, mw_1214, mw_1216, mjsel_78⟩⟩) ?_
    refine mj_all_cons 160 rfl (trivial) ?_
    refine mj_all_cons 161 rfl (trivial) ?_
    refine mj_all_cons 162 rfl (Or.inl ⟨by decide +kernel, rfl⟩) ?_
    refine mj_all_cons 163 rfl (Or.inr ⟨by decide +kernel, rfl⟩) ?_
    refine mj_all_cons 164 rfl (trivial) ?_
    refine mj_all_cons 165 rfl (⟨mjmM24, 183, 4, rfl, by decide, mjmd24, mw_16, Or.inl ⟨9, mjF9, 46, by decide +kernel, rfl, rfl, rfl, mw_1239, mw_1241, mjsel_83⟩⟩) ?_
    refine mj_all_cons 166 rfl (trivial) ?_
    refine mj_all_cons 167 rfl (trivial) ?_
    refine mj_all_cons 168 rfl (show _ = _ from by decide +kernel) ?_
    refine mj_all_cons 169 rfl (trivial) ?_
    refine mj_all_cons 170 rfl (trivial) ?_
    refine mj_all_cons 171 rfl (Or.inl ⟨0, by decide +kernel, rfl, rfl⟩) ?_
    refine mj_all_cons 172 rfl (Or.inl ⟨2, by decide +kernel, rfl, rfl⟩) ?_
    refine mj_all_cons 173 rfl (Or.inl ⟨3, by decide +kernel, rfl, rfl⟩) ?_
    refine mj_all_cons 174 rfl (Or.inr ⟨by decide +kernel, rfl⟩) ?_
    refine mj_all_cons 175 rfl (trivial) ?_
    refine mj_all_cons 176 rfl (⟨mjmM42, 266, 3, rfl, by decide, mjmd42, mw_16, Or.inl ⟨9, mjF9, 46, by decide +kernel, rfl, rfl, rfl, mw_1299, mw_1301, mjsel_98⟩⟩) ?_
    refine mj_all_cons 177 rfl (trivial) ?_
    refine mj_all_cons 178 rfl (trivial) ?_
    refine mj_all_cons 179 rfl (show _ = _ from by decide +kernel) ?_
    refine mj_all_cons 180 rfl (trivial) ?_
    refine mj_all_cons 181 rfl (trivial) ?_
    refine mj_all_cons 182 rfl (Or.inl ⟨0, by decide +kernel, rfl, rfl⟩) ?_
    refine mj_all_cons 183 rfl (Or.inl ⟨3, by decide +kernel, rfl, rfl⟩) ?_
    refine mj_all_cons 184 rfl (Or.inl ⟨3, by decide +kernel, rfl, rfl⟩) ?_
    refine mj_all_cons 185 rfl (⟨mjmM44, 270, 2, rfl, by decide, mjmd44, mw_16, Or.inl ⟨9, mjF9, 46, by decide +kernel, rfl, rfl, rfl, mw_1303, mw_1305, mjsel_99⟩⟩) ?_
    refine mj_all_cons 186 rfl (trivial) ?_
    refine mj_all_cons 187 rfl (trivial) ?_
    refine mj_all_cons 188 rfl (show _ = _ from by decide +kernel) ?_
    refine mj_all_cons 189 rfl (trivial) ?_
    refine mj_all_cons 190 rfl (trivial) ?_
    refine mj_all_cons 191 rfl (Or.inl ⟨2, by decide +kernel, rfl, rfl⟩) ?_
    refine mj_all_cons 192 rfl (⟨mjmM3, 103, 1, rfl, by decide, mjmd3, mw_16, Or.inr (Or.inl ⟨by decide +kernel, rfl, rfl, mw_1194, mw_1195⟩)⟩) ?_
    refine mj_all_cons 193 rfl (trivial) ?_
    refine mj_all_cons 194 rfl (trivial) ?_
    refine mj_all_cons 195 rfl (show _ = _ from by decide +kernel) ?_
    refine mj_all_cons 196 rfl (trivial) ?_
    refine mj_all_cons 197 rfl (trivial) ?_
    refine mj_all_cons 198 rfl (Or.inl ⟨0, by decide +kernel, rfl, rfl⟩) ?_
    refine mj_all_cons 199 rfl (Or.inr (Or.inl ⟨by decide +kernel, rfl, by decide⟩)) ?_
    refine mj_all_cons 200 rfl (trivial) ?_
    refine mj_all_cons 201 rfl (Or.inl ⟨2, by decide +kernel, rfl, rfl⟩) ?_
    refine mj_all_cons 202 rfl (Or.inl ⟨by decide +kernel, rfl⟩) ?_
    refine mj_all_cons 203 rfl (Or.inr ⟨by decide +kernel, rfl⟩) ?_
    refine mj_all_cons 204 rfl (trivial) ?_
    refine mj_all_cons 205 rfl (⟨mjmM24, 183, 4, rfl, by decide, mjmd24, mw_16, Or.inl ⟨9, mjF9, 46, by decide +kernel, rfl, rfl, rfl, mw_1239, mw_1241, mjsel_83⟩⟩) ?_
    refine mj_all_cons 206 rfl (trivial) ?_
    refine mj_all_cons 207 rfl (trivial) ?_
    refine mj_all_cons 208 rfl (Or.inl ⟨0, by decide +kernel, rfl, rfl⟩) ?_
    refine mj_all_cons 209 rfl (Or.inl ⟨by decide +kernel, rfl⟩) ?_
    refine mj_all_cons 210 rfl (Or.inl ⟨0, by decide +kernel, rfl, rfl⟩) ?_
    refine mj_all_cons 211 rfl (Or.inl ⟨0, by decide +kernel, rfl, rfl⟩) ?_
    refine mj_all_cons 212 rfl (Or.inl ⟨2, by decide +kernel, rfl, rfl⟩) ?_
    refine mj_all_cons 213 rfl (⟨mjmM5, 111, 1, rfl, by decide, mjmd5, mw_16, Or.inl ⟨9, mjF9, 46, by decide +kernel, rfl, rfl, rfl, mw_1197, mw_1199, mjsel_74⟩⟩) ?_
    refine mj_all_cons 214 rfl (trivial) ?_
    refine mj_all_cons 215 rfl (trivial) ?_
    refine mj_all_cons 216 rfl (⟨mjmM5, 111, 1, rfl, by decide, mjmd5, mw_16, Or.inl ⟨9, mjF9, 46, by decide +kernel, rfl, rfl, rfl, mw_1197, mw_1199, mjsel_74⟩⟩) ?_
    refine mj_all_cons 217 rfl (trivial) ?_
    refine mj_all_cons 218 rfl (trivial) ?_
    refine mj_all_cons 219 rfl (Or.inl ⟨by decide +kernel, rfl⟩) ?_
    refine mj_all_cons 220 rfl (Or.inl ⟨by decide +kernel, rfl⟩) ?_
    refine mj_all_cons 221 rfl (⟨mjmM24, 183, 4, rfl, by decide, mjmd24, mw_16, Or.inl ⟨9, mjF9, 46, by decide +kernel, rfl, rfl, rfl, mw_1239, mw_1241, mjsel_83⟩⟩) ?_
    refine mj_all_cons 222 rfl (trivial) ?_
    refine mj_all_cons 223 rfl (trivial) ?_
    refine mj_all_cons 224 rfl (show _ = _ from by decide +kernel) ?_
    refine mj_all_cons 225 rfl (trivial) ?_
    refine mj_all_cons 226 rfl (trivial) ?_
    refine mj_all_cons 227 rfl (Or.inl ⟨0, by decide +kernel, rfl, rfl⟩) ?_
    refine mj_all_cons 228 rfl (Or.inr (Or.inr (Or.inr (Or.inl ⟨101, by decide +kernel, rfl, mw_1150⟩)))) ?_
    refine mj_all_cons 229 rfl (trivial) ?_
    refine mj_all_cons 230 rfl (⟨mjmM38, 273, 1, rfl, by decide, mjmd38, mw_16, Or.inl ⟨9, mjF9, 46, by decide +kernel, rfl, rfl, rfl, mw_1287, mw_1289, mjsel_95⟩⟩) ?_
    refine mj_all_cons 231 rfl (trivial) ?_
    refine mj_all_cons 232 rfl (trivial) ?_
    refine mj_all_cons 233 rfl (show _ = _ from by decide +kernel) ?_
    refine mj_all_cons 234 rfl (trivial) ?_
    refine mj_all_cons 235 rfl (trivial) ?_
    refine mj_all_cons 236 rfl (Or.inl ⟨0, by decide +kernel, rfl, rfl⟩) ?_
    refine mj_all_cons 237 rfl (⟨mjmM39, 259, 0, rfl, by decide, mjmd39, mw_16, Or.inl ⟨9, mjF9, 46, by decide +kernel, rfl, rfl, rfl, mw_1295, mw_1297, mjsel_97⟩⟩) ?_
    refine mj_all_cons 238 rfl (trivial) ?_
    refine mj_all_cons 239 rfl (trivial) ?_
    refine mj_all_cons 240 rfl (Or.inr (Or.inr (Or.inr (Or.inl ⟨101, by decide +kernel, rfl, mw_1150⟩)))) ?_
    refine mj_all_cons 241 rfl (trivial) ?_
    refine mj_all_cons 242 rfl (show _ = _ from by decide +kernel) ?_
    refine mj_all_cons 243 rfl (trivial) ?_
    refine mj_all_cons 244 rfl (trivial) ?_
    refine mj_all_cons 245 rfl (Or.inl ⟨0, by decide +kernel, rfl, rfl⟩) ?_
    refine mj_all_cons 246 rfl (Or.inl ⟨by decide +kernel, rfl⟩) ?_
    refine mj_all_cons 247 rfl (Or.inl ⟨0, by decide +kernel, rfl, rfl⟩) ?_
    refine mj_all_cons 248 rfl (Or.inl ⟨0, by decide +kernel, rfl, rfl⟩) ?_
    refine mj_all_cons 249 rfl (Or.inl ⟨2, by decide +kernel, rfl, rfl⟩) ?_
    refine mj_all_cons 250 rfl (⟨mjmM5, 111, 1, rfl, by decide, mjmd5, mw_16, Or.inl ⟨9, mjF9, 46, by decide +kernel, rfl, rfl, rfl, mw_1197, mw_1199, mjsel_74⟩⟩) ?_
    refine mj_all_cons 251 rfl (trivial) ?_
    refine mj_all_cons 252 rfl (trivial) ?_
    refine mj_all_cons 253 rfl (Or.inl ⟨by decide +kernel, rfl⟩) ?_
    refine mj_all_cons 254 rfl (⟨mjmM8, 193, 2, rfl, by decide, mjmd8, mw_16, Or.inl ⟨9, mjF9, 46, by decide +kernel, rfl, rfl, rfl, mw_1214, mw_1216, mjsel_78⟩⟩) ?_
    refine mj_all_cons 255 rfl (trivial) ?_
    refine mj_all_cons 256 rfl (trivial) ?_
    refine mj_all_cons 257 rfl (Or.inl ⟨by decide +kernel, rfl⟩) ?_
    refine mj_all_cons 258 rfl (Or.inr ⟨by decide +kernel, rfl⟩) ?_
    refine mj_all_cons 259 rfl (trivial) ?_
    refine mj_all_cons 260 rfl (⟨mjmM24, 183, 4, rfl, by decide, mjmd24, mw_16, Or.inl ⟨9, mjF9, 46, by decide +kernel, rfl, rfl, rfl, mw_1239, mw_1241, mjsel_83⟩⟩) ?_
    refine mj_all_cons 261 rfl (trivial) ?_
    refine mj_all_cons 262 rfl (trivial) ?_
    refine mj_all_cons 263 rfl (show _ = _ from by decide +kernel) ?_
    refine mj_all_cons 264 rfl (trivial) ?_
    refine mj_all_cons 265 rfl (trivial) ?_
    refine mj_all_cons 266 rfl (Or.inl ⟨0, by decide +kernel, rfl, rfl⟩) ?_
    refine mj_all_cons 267 rfl (Or.inr (Or.inl ⟨by decide +kernel, rfl, by decide⟩)) ?_
    refine mj_all_cons 268 rfl (trivial) ?_
    refine mj_all_cons 269 rfl (Or.inl ⟨0, by decide +kernel, rfl, rfl⟩) ?_
    refine mj_all_cons 270 rfl (Or.inl ⟨2, by decide +kernel, rfl, rfl⟩) ?_
    refine mj_all_cons 271 rfl (⟨mjmM6, 107, 1, rfl, by decide, mjmd6, mw_16, Or.inl ⟨9, mjF9, 46, by decide +kernel, rfl, rfl, rfl, mw_1210, mw_1212, mjsel_77⟩⟩) ?_
    refine mj_all_cons 272 rfl (trivial) ?_
    refine mj_all_cons 273 rfl (trivial) ?_
    refine mj_all_cons 274 rfl (Or.inl ⟨by decide +kernel, rfl⟩) ?_
    refine mj_all_cons 275 rfl (Or.inr ⟨by decide +kernel, rfl⟩) ?_
    refine mj_all_cons 276 rfl (trivial) ?_
    refine mj_all_cons 277 rfl (⟨mjmM24, 183, 4, rfl, by decide, mjmd24, mw_16, Or.inl ⟨9, mjF9, 46, by decide +kernel, rfl, rfl, rfl, mw_1239, mw_1241, mjsel_83⟩⟩) ?_
    refine mj_all_cons 278 rfl (trivial) ?_
    refine mj_all_cons 279 rfl (trivial) ?_
    refine mj_all_cons 280 rfl (show _ = _ from by decide +kernel) ?_
    refine mj_all_cons 281 rfl (trivial) ?_
    refine mj_all_cons 282 rfl (trivial) ?_
    refine mj_all_cons 283 rfl (Or.inl ⟨0, by decide +kernel, rfl, rfl⟩) ?_
    refine mj_all_cons 284 rfl (Or.inl ⟨1, by decide +kernel, rfl, rfl⟩) ?_
    refine mj_all_cons 285 rfl (Or.inl ⟨2, by decide +kernel, rfl, rfl⟩) ?_
    refine mj_all_cons 286 rfl (Or.inr ⟨by decide +kernel, rfl⟩) ?_
    refine mj_all_cons 287 rfl (trivial) ?_
    refine mj_all_cons 288 rfl (⟨mjmM45, 276, 3, rfl, by decide, mjmd45, mw_16, Or.inl ⟨9, mjF9, 46, by decide +kernel, rfl, rfl, rfl, mw_1291, mw_1293, mjsel_96⟩⟩) ?_
    refine mj_all_cons 289 rfl (trivial) ?_
    refine mj_all_cons 290 rfl (trivial) ?_
    refine mj_all_cons 291 rfl (show _ = _ from by decide +kernel) ?_
    refine mj_all_cons 292 rfl (trivial) ?_
    refine mj_all_cons 293 rfl (trivial) ?_
    refine mj_all_cons 294 rfl (Or.inl ⟨0, by decide +kernel, rfl, rfl⟩) ?_
    refine mj_all_cons 295 rfl (⟨69, "ListSpeakerModel", mjF9, 46, by decide +kernel, rfl, by decide, mw_1007, mjw9⟩) ?_
    refine mj_all_cons 296 rfl (trivial) ?_
    refine mj_all_cons 297 rfl (trivial) ?_
    refine mj_all_cons 298 rfl (Or.inl ⟨0, by decide +kernel, rfl, rfl⟩) ?_
    refine mj_all_cons 299 rfl (⟨247, "ListSpeakerModel", mjF9, 46, by decide +kernel, rfl, by decide, mw_1006, mjw9⟩) ?_
    refine mj_all_cons 300 rfl (trivial) ?_
    refine mj_all_cons 301 rfl (trivial) ?_
    refine mj_all_cons 302 rfl (Or.inl ⟨by decide +kernel, rfl⟩) ?_
    refine mj_all_cons 303 rfl (show _ = _ from by decide +kernel) ?_
    refine mj_all_cons 304 rfl (show _ = _ from by decide +kernel) ?_
    refine mj_all_cons 305 rfl (Or.inr (Or.inr (Or.inr (Or.inl ⟨101, by decide +kernel, rfl, mw_1150⟩)))) ?_
    refine mj_all_cons 306 rfl (trivial) ?_
    refine mj_all_cons 307 rfl (show _ = _ from by decide +kernel) ?_
    refine mj_all_cons 308 rfl (trivial) ?_
    refine mj_all_cons 309 rfl (trivial) ?_
    refine mj_all_cons 310 rfl (Or.inl ⟨0, by decide +kernel, rfl, rfl⟩) ?_
    refine mj_all_cons 311 rfl (show _ = _ from by decide +kernel) ?_
    refine mj_all_cons 312 rfl (⟨247, "ListSpeakerModel", mjF9, 46, by decide +kernel, rfl, by decide, mw_1006, mjw9⟩) ?_
    refine mj_all_cons 313 rfl (trivial) ?_
    refine mj_all_cons 314 rfl (trivial) ?_
    refine mj_all_cons 315 rfl (Or.inl ⟨by decide +kernel, rfl⟩) ?_
    refine mj_all_cons 316 rfl (show _ = _ from by decide +kernel) ?_
    refine mj_all_cons 317 rfl (⟨247, "ListSpeakerModel", mjF9, 46, mjt9, by decide +kernel, rfl, by decide, mw_1006, mjw9, mjk9, mjn9, rfl, by decide +kernel⟩) ?_
    refine mj_all_cons 318 rfl (trivial) ?_
    refine mj_all_cons 319 rfl (trivial) ?_
    refine mj_all_cons 320 rfl (Or.inl ⟨0, by decide +kernel, rfl, rfl⟩) ?_
    refine mj_all_cons 321 rfl (Or.inr (Or.inl ⟨by decide +kernel, rfl, by decide⟩)) ?_
    refine mj_all_cons 322 rfl (trivial) ?_
    refine mj_all_cons 323 rfl (Or.inl ⟨0, by decide +kernel, rfl, rfl⟩) ?_
    refine mj_all_cons 324 rfl (Or.inl ⟨2, by decide +kernel, rfl, rfl⟩) ?_
    refine mj_all_cons 325 rfl (⟨mjmM6, 107, 1, rfl, by decide, mjmd6, mw_16, Or.inl ⟨9, mjF9, 46, by decide +kernel, rfl, rfl, rfl, mw_1210, mw_1212, mjsel_77⟩⟩) ?_
    refine mj_all_cons 326 rfl (trivial) ?_
    refine mj_all_cons 327 rfl (trivial) ?_
    refine mj_all_cons 328 rfl (Or.inl ⟨by decide +kernel, rfl⟩) ?_
    refine mj_all_cons 329 rfl (Or.inr ⟨by decide +kernel, rfl⟩) ?_
    refine mj_all_cons 330 rfl (trivial) ?_
    refine mj_all_cons 331 rfl (⟨mjmM24, 183, 4, rfl, by decide, mjmd24, mw_16, Or.inl ⟨9, mjF9, 46, by decide +kernel, rfl, rfl, rfl, mw_1239, mw_1241, mjsel_83⟩⟩) ?_
    refine mj_all_cons 332 rfl (trivial) ?_
    refine mj_all_cons 333 rfl (trivial) ?_
    refine mj_all_cons 334 rfl (show _ = _ from by decide +kernel) ?_
    refine mj_all_cons 335 rfl (trivial) ?_
    refine mj_all_cons 336 rfl (trivial) ?_
    refine mj_all_cons 337 rfl (Or.inl ⟨0, by decide +kernel, rfl, rfl⟩) ?_
    refine mj_all_cons 338 rfl (⟨69, "ListSpeakerModel", mjF9, 46, by decide +kernel, rfl, by decide, mw_1007, mjw9⟩) ?_
    refine mj_all_cons 339 rfl (trivial) ?_
    refine mj_all_cons 340 rfl (trivial) ?_
    refine mj_all_cons 341 rfl (Or.inl ⟨0, by decide +kernel, rfl, rfl⟩) ?_
    refine mj_all_cons 342 rfl (⟨247, "ListSpeakerModel", mjF9, 46, by decide +kernel, rfl, by decide, mw_1006, mjw9⟩) ?_
    refine mj_all_cons 343 rfl (trivial) ?_
    refine mj_all_cons 344 rfl (trivial) ?_
    refine mj_all_cons 345 rfl (Or.inl ⟨by decide +kernel, rfl⟩) ?_
    refine mj_all_cons 346 rfl (show _ = _ from by decide +kernel) ?_
    refine mj_all_cons 347 rfl (show _ = _ from by decide +kernel) ?_
    refine mj_all_cons 348 rfl (Or.inr (Or.inr (Or.inr (Or.inl ⟨101, by decide +kernel, rfl, mw_1150⟩)))) ?_
    refine mj_all_cons 349 rfl (trivial) ?_
    refine mj_all_cons 350 rfl (show _ = _ from by decide +kernel) ?_
    refine mj_all_cons 351 rfl (trivial) ?_
    refine mj_all_cons 352 rfl (trivial) ?_
    refine mj_all_cons 353 rfl (Or.inl ⟨0, by decide +kernel, rfl, rfl⟩) ?_
    refine mj_all_cons 354 rfl (show _ = _ from by decide +kernel) ?_
    refine mj_all_cons 355 rfl (⟨247, "ListSpeakerModel", mjF9, 46, by decide +kernel, rfl, by decide, mw_1006, mjw9⟩) ?_
    refine mj_all_cons 356 rfl (trivial) ?_
    refine mj_all_cons 357 rfl (trivial) ?_
    refine mj_all_cons 358 rfl (Or.inl ⟨by decide +kernel, rfl⟩) ?_
    refine mj_all_cons 359 rfl (show _ = _ from by decide +kernel) ?_
    refine mj_all_cons 360 rfl (⟨247, "ListSpeakerModel", mjF9, 46, mjt9, by decide +kernel, rfl, by decide, mw_1006, mjw9, mjk9, mjn9, rfl, by decide +kernel⟩) ?_
    refine mj_all_cons 361 rfl (trivial) ?_
    refine mj_all_cons 362 rfl (trivial) ?_
    refine mj_all_cons 363 rfl (Or.inl ⟨0, by decide +kernel, rfl, rfl⟩) ?_
    refine mj_all_cons 364 rfl (Or.inr (Or.inl ⟨by decide +kernel, rfl, by decide⟩)) ?_
    refine mj_all_cons 365 rfl (trivial) ?_
    refine mj_all_cons 366 rfl (Or.inl ⟨0, by decide +kernel, rfl, rfl⟩) ?_
    refine mj_all_cons 367 rfl (Or.inl ⟨2, by decide +kernel, rfl, rfl⟩) ?_
    refine mj_all_cons 368 rfl (⟨mjmM6, 107, 1, rfl, by decide, mjmd6, mw_16, Or.inl ⟨9, mjF9, 46, by decide +kernel, rfl, rfl, rfl, mw_1210, mw_1212, mjsel_77⟩⟩) ?_
    refine mj_all_cons 369 rfl (trivial) ?_
    refine mj_all_cons 370 rfl (trivial) ?_
    refine mj_all_cons 371 rfl (Or.inl ⟨by decide +kernel, rfl⟩) ?_
    refine mj_all_cons 372 rfl (Or.inr ⟨by decide +kernel, rfl⟩) ?_
    refine mj_all_cons 373 rfl (trivial) ?_
    refine mj_all_cons 374 rfl (⟨mjmM24, 183, 4, rfl, by decide, mjmd24, mw_16, Or.inl ⟨9, mjF9, 46, by decide +kernel, rfl, rfl, rfl, mw_1239, mw_1241, mjsel_83⟩⟩) ?_
    refine mj_all_cons 375 rfl (trivial) ?_
    refine mj_all_cons 376 rfl (trivial) ?_
    refine mj_all_cons 377 rfl (show _ = _ from by decide +kernel) ?_
    refine mj_all_cons 378 rfl (trivial) ?_
    refine mj_all_cons 379 rfl (trivial) ?_
    refine mj_all_cons 380 rfl (Or.inl ⟨0, by decide +kernel, rfl, rfl⟩) ?_
    refine mj_all_cons 381 rfl (Or.inr (Or.inr (Or.inr (Or.inl ⟨101, by decide +kernel, rfl, mw_1150⟩)))) ?_
    refine mj_all_cons 382 rfl (trivial) ?_
    refine mj_all_cons 383 rfl (⟨mjmM38, 273, 1, rfl, by decide, mjmd38, mw_16, Or.inl ⟨9, mjF9, 46, by decide +kernel, rfl, rfl, rfl, mw_1287, mw_1289, mjsel_95⟩⟩) ?_
    refine mj_all_cons 384 rfl (trivial) ?_
    refine mj_all_cons 385 rfl (trivial) ?_
    refine mj_all_cons 386 rfl (Or.inl ⟨by decide +kernel, rfl⟩) ?_
    refine mj_all_cons 387 rfl (Or.inr ⟨by decide +kernel, rfl⟩) ?_
    refine mj_all_cons 388 rfl (trivial) ?_
    refine mj_all_cons 389 rfl (Or.inr ⟨by decide +kernel, rfl⟩) ?_
    refine mj_all_cons 390 rfl (trivial) ?_
    refine mj_all_cons 391 rfl (Or.inl ⟨3, by decide +kernel, rfl, rfl⟩) ?_
    refine mj_all_cons 392 rfl (show _ = _ from by decide +kernel) ?_
    refine mj_all_cons 393 rfl (trivial) ?_
    refine mj_all_cons 394 rfl (trivial) ?_
    refine mj_all_cons 395 rfl (Or.inl ⟨0, by decide +kernel, rfl, rfl⟩) ?_
    refine mj_all_cons 396 rfl (⟨98, "ListSpeakerModel", mjF9, 46, by decide +kernel, rfl, by decide, mw_980, mjw9⟩) ?_
    refine mj_all_cons 397 rfl (trivial) ?_
    refine mj_all_cons 398 rfl (trivial) ?_
    refine mj_all_cons 399 rfl (show _ = _ from by decide +kernel) ?_
    refine mj_all_cons 400 rfl (trivial) ?_
    refine mj_all_cons 401 rfl (trivial) ?_
    refine mj_all_cons 402 rfl (Or.inl ⟨0, by decide +kernel, rfl, rfl⟩) ?_
    refine mj_all_cons 403 rfl (⟨mjmM48, 279, 0, rfl, by decide, mjmd48, mw_16, Or.inl ⟨9, mjF9, 46, by decide +kernel, rfl, rfl, rfl, mw_1307, mw_1309, mjsel_100⟩⟩) ?_
    refine mj_all_cons 404 rfl (trivial) ?_
    refine mj_all_cons 405 rfl (trivial) ?_
    refine mj_all_cons 406 rfl (show _ = _ from by decide +kernel) ?_
    refine mj_all_cons 407 rfl (trivial) ?_
    refine mj_all_cons 408 rfl (trivial) ?_
    refine mj_all_cons 409 rfl (show _ = _ from by decide +kernel) ?_
    refine mj_all_cons 410 rfl (trivial) ?_
    refine mj_all_cons 411 rfl (trivial) ?_
    refine mj_all_cons 412 rfl (show _ = _ from by decide +kernel) ?_
    refine mj_all_cons 413 rfl (trivial) ?_
    refine mj_all_cons 414 rfl (trivial) ?_
    refine mj_all_cons 415 rfl (Or.inl ⟨0, by decide +kernel, rfl, rfl⟩) ?_
    refine mj_all_cons 416 rfl (Or.inl ⟨3, by decide +kernel, rfl, rfl⟩) ?_
    refine mj_all_cons 417 rfl (⟨mjmM53, 282, 1, rfl, by decide, mjmd53, mw_16, Or.inl ⟨9, mjF9, 46, by decide +kernel, rfl, rfl, rfl, mw_1320, mw_1322, mjsel_103⟩⟩) ?_
    refine mj_all_cons 418 rfl (trivial) ?_
    refine mj_all_cons 419 rfl (trivial) ?_
    refine mj_all_cons 420 rfl (show _ = _ from by decide +kernel) ?_
    refine mj_all_cons 421 rfl (trivial) ?_
    refine mj_all_cons 422 rfl (trivial) ?_
    refine mj_all_cons 423 rfl (Or.inl ⟨0, by decide +kernel, rfl, rfl⟩) ?_
    refine mj_all_cons 424 rfl (Or.inl ⟨2, by decide +kernel, rfl, rfl⟩) ?_
    refine mj_all_cons 425 rfl (Or.inl ⟨3, by decide +kernel, rfl, rfl⟩) ?_
    refine mj_all_cons 426 rfl (Or.inr ⟨by decide +kernel, rfl⟩) ?_
    refine mj_all_cons 427 rfl (trivial) ?_
    refine mj_all_cons 428 rfl (⟨mjmM47, 285, 3, rfl, by decide, mjmd47, mw_16, Or.inl ⟨9, mjF9, 46, by decide +kernel, rfl, rfl, rfl, mw_1331, mw_1333, mjsel_104⟩⟩) ?_
    refine mj_all_cons 429 rfl (trivial) ?_
    refine mj_all_cons 430 rfl (trivial) ?_
    refine mj_all_cons 431 rfl (show _ = _ from by decide +kernel) ?_
    refine mj_all_cons 432 rfl (trivial) ?_
    refine mj_all_cons 433 rfl (trivial) ?_
    refine mj_all_cons 434 rfl (Or.inl ⟨0, by decide +kernel, rfl, rfl⟩) ?_
    refine mj_all_cons 435 rfl (⟨mjmM43, 288, 0, rfl, by decide, mjmd43, mw_16, Or.inl ⟨9, mjF9, 46, by decide +kernel, rfl, rfl, rfl, mw_1335, mw_1337, mjsel_105⟩⟩) ?_
    refine mj_all_cons 436 rfl (trivial) ?_
    refine mj_all_cons 437 rfl (trivial) ?_
    refine mj_all_cons 438 rfl (show _ = _ from by decide +kernel) ?_
    exact trivial
  intro pc o ho
  have := mj_all_get _ 0 h pc o ho
  rw [Nat.zero_add] at this
  exact this
set_option maxRecDepth 100000 in
theorem mjmi42 : ∀ (pc : Nat) (o : mj_O), mjmo42[pc]? = some o → mj_is mj_kl mjmM42.1.cls mj_WS mj_NWs mjm_Ms mjmM42.2.1 pc o := by
  have h : mj_all (mj_is mj_kl mjmM42.1.cls mj_WS mj_NWs mjm_Ms mjmM42.2.1) 0 mjmo42 := by
    unfold mjmo42
    refine mj_all_cons 1 rfl (Or.inl ⟨0, by decide +kernel, rfl, rfl⟩) ?_
    refine mj_all_cons 2 rfl (⟨247, "ListSpeakerModel", mjF9, 46, by decide +kernel, rfl, by decide, mw_1006, mjw9⟩) ?_
    refine mj_all_cons 3 rfl (trivial) ?_
    refine mj_all_cons 4 rfl (trivial) ?_
    refine mj_all_cons 5 rfl (Or.inl ⟨2, by decide +kernel, rfl, rfl⟩) ?_
    refine mj_all_cons 6 rfl (show _ = _ from by decide +kernel) ?_
    refine mj_all_cons 7 rfl (Or.inr ⟨by decide +kernel, rfl⟩) ?_
    refine mj_all_cons 8 rfl (trivial) ?_
    refine mj_all_cons 9 rfl (Or.inl ⟨0, by decide +kernel, rfl, rfl⟩) ?_
    refine mj_all_cons 10 rfl (Or.inl ⟨1, by decide +kernel, rfl, rfl⟩) ?_
    refine mj_all_cons 11 rfl (Or.inl ⟨by decide +kernel, rfl⟩) ?_
    refine mj_all_cons 12 rfl (⟨mjmM8, 193, 2, rfl, by decide, mjmd8, mw_16, Or.inl ⟨9, mjF9, 46, by decide +kernel, rfl, rfl, rfl, mw_1214, mw_1216, mjsel_78⟩⟩) ?_
    refine mj_all_cons 13 rfl (trivial) ?_
    refine mj_all_cons 14 rfl (trivial) ?_
    refine mj_all_cons 15 rfl (Or.inr ⟨by decide +kernel, rfl⟩) ?_
    refine mj_all_cons 16 rfl (trivial) ?_
    refine mj_all_cons 17 rfl (Or.inr ⟨by decide +kernel, rfl⟩) ?_
    refine mj_all_cons 18 rfl (trivial) ?_
    refine mj_all_cons 19 rfl (⟨mjmM3, 103, 1, rfl, by decide, mjmd3, mw_16, Or.inr (Or.inl ⟨by decide +kernel, rfl, rfl, mw_1194, mw_1195⟩)⟩) ?_
    refine mj_all_cons 20 rfl (trivial) ?_
    refine mj_all_cons 21 rfl (trivial) ?_
    refine mj_all_cons 22 rfl (show _ = _ from by decide +kernel) ?_
    refine mj_all_cons 23 rfl (trivial) ?_
    refine mj_all_cons 24 rfl (trivial) ?_
    refine mj_all_cons 25 rfl (Or.inl ⟨0, by decide +kernel, rfl, rfl⟩) ?_
    refine mj_all_cons 26 rfl (Or.inl ⟨0, by decide +kernel, rfl, rfl⟩) ?_
    refine mj_all_cons 27 rfl (Or.inl ⟨0, by decide +kernel, rfl, rfl⟩) ?_
    refine mj_all_cons 28 rfl (Or.inr ⟨by decide +kernel, rfl⟩) ?_
    refine mj_all_cons 29 rfl (trivial) ?_
    refine mj_all_cons 30 rfl (⟨mjmM5, 111, 1, rfl, by decide, mjmd5, mw_16, Or.inl ⟨9, mjF9, 46, by decide +kernel, rfl, rfl, rfl, mw_1197, mw_1199, mjsel_74⟩⟩) ?_
    refine mj_all_cons 31 rfl (trivial) ?_
    refine mj_all_cons 32 rfl (trivial) ?_
    refine mj_all_cons 33 rfl (⟨mjmM5, 111, 1, rfl, by decide, mjmd5, mw_16, Or.inl ⟨9, mjF9, 46, by decide +kernel, rfl, rfl, rfl, mw_1197, mw_1199, mjsel_74⟩⟩) ?_
    refine mj_all_cons 34 rfl (trivial) ?_
    refine mj_all_cons 35 rfl (trivial) ?_
    refine mj_all_cons 36 rfl (Or.inr ⟨by decide +kernel, rfl⟩) ?_
    refine mj_all_cons 37 rfl (trivial) ?_
    refine mj_all_cons 38 rfl (⟨mjmM25, 196, 2, rfl, by decide, mjmd25, mw_16, Or.inl ⟨9, mjF9, 46, by decide +kernel, rfl, rfl, rfl, mw_1231, mw_1233, mjsel_81⟩⟩) ?_
    refine mj_all_cons 39 rfl (trivial) ?_
    refine mj_all_cons 40 rfl (trivial) ?_
    refine mj_all_cons 41 rfl (show _ = _ from by decide +kernel) ?_
    refine mj_all_cons 42 rfl (trivial) ?_
    refine mj_all_cons 43 rfl (trivial) ?_
    refine mj_all_cons 44 rfl (Or.inl ⟨0, by decide +kernel, rfl, rfl⟩) ?_
    refine mj_all_cons 45 rfl (Or.inr ⟨by decide +kernel, rfl⟩) ?_
    refine mj_all_cons 46 rfl (trivial) ?_
    refine mj_all_cons 47 rfl (⟨mjmM6, 107, 1, rfl, by decide, mjmd6, mw_16, Or.inl ⟨9, mjF9, 46, by decide +kernel, rfl, rfl, rfl, mw_1210, mw_1212, mjsel_77⟩⟩) ?_
    refine mj_all_cons 48 rfl (trivial) ?_
    refine mj_all_cons 49 rfl (trivial) ?_
    refine mj_all_cons 50 rfl (Or.inr ⟨by decide +kernel, rfl⟩) ?_
    refine mj_all_cons 51 rfl (trivial) ?_
    refine mj_all_cons 52 rfl (show _ = _ from by decide +kernel) ?_
    refine mj_all_cons 53 rfl (trivial) ?_
    refine mj_all_cons 54 rfl (trivial) ?_
    refine mj_all_cons 55 rfl (Or.inl ⟨0, by decide +kernel, rfl, rfl⟩) ?_
    refine mj_all_cons 56 rfl (Or.inl ⟨by decide +kernel, rfl⟩) ?_
    refine mj_all_cons 57 rfl (Or.inr (Or.inr (Or.inr (Or.inl ⟨101, by decide +kernel, rfl, mw_1150⟩)))) ?_
    refine mj_all_cons 58 rfl (trivial) ?_
    refine mj_all_cons 59 rfl (Or.inl ⟨2, by decide +kernel, rfl, rfl⟩) ?_
    refine mj_all_cons 60 rfl (Or.inl ⟨by decide +kernel, rfl⟩) ?_
    refine mj_all_cons 61 rfl (⟨mjmM24, 183, 4, rfl, by decide, mjmd24, mw_16, Or.inl ⟨9, mjF9, 46, by decide +kernel, rfl, rfl, rfl, mw_1239, mw_1241, mjsel_83⟩⟩) ?_
    refine mj_all_cons 62 rfl (trivial) ?_
    refine mj_all_cons 63 rfl (trivial) ?_
    refine mj_all_cons 64 rfl (Or.inl ⟨0, by decide +kernel, rfl, rfl⟩) ?_
    refine mj_all_cons 65 rfl (Or.inl ⟨by decide +kernel, rfl⟩) ?_
    refine mj_all_cons 66 rfl (Or.inl ⟨0, by decide +kernel, rfl, rfl⟩) ?_
    refine mj_all_cons 67 rfl (Or.inl ⟨1, by decide +kernel, rfl, rfl⟩) ?_
    refine mj_all_cons 68 rfl (Or.inl ⟨by decide +kernel, rfl⟩) ?_
    refine mj_all_cons 69 rfl (⟨mjmM8, 193, 2, rfl, by decide, mjmd8, mw_16, Or.inl ⟨9, mjF9, 46, by decide +kernel, rfl, rfl, rfl, mw_1214, mw_1216, mjsel_78⟩⟩) ?_
    refine mj_all_cons 70 rfl (trivial) ?_
    refine mj_all_cons 71 rfl (trivial) ?_
    refine mj_all_cons 72 rfl (Or.inl ⟨by decide +kernel, rfl⟩) ?_
    refine mj_all_cons 73 rfl (Or.inl ⟨3, by decide +kernel, rfl, rfl⟩) ?_
    refine mj_all_cons 74 rfl (⟨mjmM24, 183, 4, rfl, by decide, mjmd24, mw_16, Or.inl ⟨9, mjF9, 46, by decide +kernel, rfl, rfl, rfl, mw_1239, mw_1241, mjsel_83⟩⟩) ?_
    refine mj_all_cons 75 rfl (trivial) ?_
    refine mj_all_cons 76 rfl (trivial) ?_
    refine mj_all_cons 77 rfl (show _ = _ from by decide +kernel) ?_
    exact trivial
  intro pc o ho
  have := mj_all_get _ 0 h pc o ho
  rw [Nat.zero_add] at this
  exact this
