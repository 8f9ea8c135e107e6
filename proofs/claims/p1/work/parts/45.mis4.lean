set_option maxRecDepth 100000 in
theorem mjmi43 : ∀ (pc : Nat) (o : mj_O), mjmo43[pc]? = some o → mj_is mj_kl mjmM43.1.cls mj_WS mj_NWs mjm_Ms mjmM43.2.1 pc o := by
  have h : mj_all (mj_is mj_kl mjmM43.1.cls mj_WS mj_NWs mjm_Ms mjmM43.2.1) 0 mjmo43 := by
    unfold mjmo43
    refine mj_all_cons 1 rfl (Or.inl ⟨0, by decide +kernel, rfl, rfl⟩) ?_
    refine mj_all_cons 2 rfl (show _ = _ from by decide +kernel) ?_
    refine mj_all_cons 3 rfl (⟨253, "ListSpeakerModel", mjF9, 46, by decide +kernel, rfl, by decide, mw_1013, mjw9⟩) ?_
    refine mj_all_cons 4 rfl (trivial) ?_
    refine mj_all_cons 5 rfl (trivial) ?_
    refine mj_all_cons 6 rfl (Or.inl ⟨by decide +kernel, rfl⟩) ?_
    refine mj_all_cons 7 rfl (show _ = _ from by decide +kernel) ?_
    refine mj_all_cons 8 rfl (⟨253, "ListSpeakerModel", mjF9, 46, mjt9, by decide +kernel, rfl, by decide, mw_1013, mjw9, mjk9, mjn9, rfl, by decide +kernel⟩) ?_
    refine mj_all_cons 9 rfl (trivial) ?_
    refine mj_all_cons 10 rfl (trivial) ?_
    refine mj_all_cons 11 rfl (Or.inl ⟨0, by decide +kernel, rfl, rfl⟩) ?_
    refine mj_all_cons 12 rfl (Or.inl ⟨0, by decide +kernel, rfl, rfl⟩) ?_
    refine mj_all_cons 13 rfl (⟨180, "ListSpeakerModel", mjF9, 46, by decide +kernel, rfl, by decide, mw_1011, mjw9⟩) ?_
    refine mj_all_cons 14 rfl (trivial) ?_
    refine mj_all_cons 15 rfl (trivial) ?_
    refine mj_all_cons 16 rfl (⟨177, "ListSpeakerModel", mjF9, 46, mjt9, by decide +kernel, rfl, by decide, mw_1008, mjw9, mjk9, mjn9, rfl, by decide +kernel⟩) ?_
    refine mj_all_cons 17 rfl (trivial) ?_
    refine mj_all_cons 18 rfl (trivial) ?_
    refine mj_all_cons 19 rfl (Or.inl ⟨0, by decide +kernel, rfl, rfl⟩) ?_
    refine mj_all_cons 20 rfl (Or.inl ⟨0, by decide +kernel, rfl, rfl⟩) ?_
    refine mj_all_cons 21 rfl (⟨247, "ListSpeakerModel", mjF9, 46, by decide +kernel, rfl, by decide, mw_1006, mjw9⟩) ?_
    refine mj_all_cons 22 rfl (trivial) ?_
    refine mj_all_cons 23 rfl (trivial) ?_
    refine mj_all_cons 24 rfl (Or.inl ⟨by decide +kernel, rfl⟩) ?_
    refine mj_all_cons 25 rfl (show _ = _ from by decide +kernel) ?_
    refine mj_all_cons 26 rfl (Or.inl ⟨0, by decide +kernel, rfl, rfl⟩) ?_
    refine mj_all_cons 27 rfl (⟨291, "ListSpeakerModel", mjF9, 46, by decide +kernel, rfl, by decide, mw_1012, mjw9⟩) ?_
    refine mj_all_cons 28 rfl (trivial) ?_
    refine mj_all_cons 29 rfl (trivial) ?_
    refine mj_all_cons 30 rfl (show _ = _ from by decide +kernel) ?_
    refine mj_all_cons 31 rfl (Or.inl ⟨by decide +kernel, rfl⟩) ?_
    refine mj_all_cons 32 rfl (⟨mjmM44, 270, 2, rfl, by decide, mjmd44, mw_16, Or.inl ⟨9, mjF9, 46, by decide +kernel, rfl, rfl, rfl, mw_1303, mw_1305, mjsel_99⟩⟩) ?_
    refine mj_all_cons 33 rfl (trivial) ?_
    refine mj_all_cons 34 rfl (trivial) ?_
    refine mj_all_cons 35 rfl (Or.inl ⟨0, by decide +kernel, rfl, rfl⟩) ?_
    refine mj_all_cons 36 rfl (Or.inl ⟨0, by decide +kernel, rfl, rfl⟩) ?_
    refine mj_all_cons 37 rfl (⟨78, "ListSpeakerModel", mjF9, 46, by decide +kernel, rfl, by decide, mw_1014, mjw9⟩) ?_
    refine mj_all_cons 38 rfl (trivial) ?_
    refine mj_all_cons 39 rfl (trivial) ?_
    refine mj_all_cons 40 rfl (Or.inl ⟨0, by decide +kernel, rfl, rfl⟩) ?_
    refine mj_all_cons 41 rfl (⟨253, "ListSpeakerModel", mjF9, 46, by decide +kernel, rfl, by decide, mw_1013, mjw9⟩) ?_
    refine mj_all_cons 42 rfl (trivial) ?_
    refine mj_all_cons 43 rfl (trivial) ?_
    refine mj_all_cons 44 rfl (show _ = _ from by decide +kernel) ?_
    refine mj_all_cons 45 rfl (⟨180, "ListSpeakerModel", mjF9, 46, mjt9, by decide +kernel, rfl, by decide, mw_1011, mjw9, mjk9, mjn9, rfl, by decide +kernel⟩) ?_
    refine mj_all_cons 46 rfl (trivial) ?_
    refine mj_all_cons 47 rfl (trivial) ?_
    refine mj_all_cons 48 rfl (Or.inl ⟨0, by decide +kernel, rfl, rfl⟩) ?_
    refine mj_all_cons 49 rfl (Or.inl ⟨0, by decide +kernel, rfl, rfl⟩) ?_
    refine mj_all_cons 50 rfl (⟨78, "ListSpeakerModel", mjF9, 46, by decide +kernel, rfl, by decide, mw_1014, mjw9⟩) ?_
    refine mj_all_cons 51 rfl (trivial) ?_
    refine mj_all_cons 52 rfl (trivial) ?_
    refine mj_all_cons 53 rfl (Or.inl ⟨0, by decide +kernel, rfl, rfl⟩) ?_
    refine mj_all_cons 54 rfl (⟨253, "ListSpeakerModel", mjF9, 46, by decide +kernel, rfl, by decide, mw_1013, mjw9⟩) ?_
    refine mj_all_cons 55 rfl (trivial) ?_
    refine mj_all_cons 56 rfl (trivial) ?_
    refine mj_all_cons 57 rfl (Or.inl ⟨by decide +kernel, rfl⟩) ?_
    refine mj_all_cons 58 rfl (show _ = _ from by decide +kernel) ?_
    refine mj_all_cons 59 rfl (show _ = _ from by decide +kernel) ?_
    refine mj_all_cons 60 rfl (⟨291, "ListSpeakerModel", mjF9, 46, mjt9, by decide +kernel, rfl, by decide, mw_1012, mjw9, mjk9, mjn9, rfl, by decide +kernel⟩) ?_
    refine mj_all_cons 61 rfl (trivial) ?_
    refine mj_all_cons 62 rfl (trivial) ?_
    refine mj_all_cons 63 rfl (show _ = _ from by decide +kernel) ?_
    exact trivial
  intro pc o ho
  have := mj_all_get _ 0 h pc o ho
  rw [Nat.zero_add] at this
  exact this
set_option maxRecDepth 100000 in
theorem mjmi44 : ∀ (pc : Nat) (o : mj_O), mjmo44[pc]? = some o → mj_is mj_kl mjmM44.1.cls mj_WS mj_NWs mjm_Ms mjmM44.2.1 pc o := by
  have h : mj_all (mj_is mj_kl mjmM44.1.cls mj_WS mj_NWs mjm_Ms mjmM44.2.1) 0 mjmo44 := by
    unfold mjmo44
    refine mj_all_cons 1 rfl (Or.inl ⟨0, by decide +kernel, rfl, rfl⟩) ?_
    refine mj_all_cons 2 rfl (⟨mjmM39, 259, 0, rfl, by decide, mjmd39, mw_16, Or.inl ⟨9, mjF9, 46, by decide +kernel, rfl, rfl, rfl, mw_1295, mw_1297, mjsel_97⟩⟩) ?_
    refine mj_all_cons 3 rfl (trivial) ?_
    refine mj_all_cons 4 rfl (trivial) ?_
    refine mj_all_cons 5 rfl (Or.inl ⟨3, by decide +kernel, rfl, rfl⟩) ?_
    refine mj_all_cons 6 rfl (Or.inl ⟨0, by decide +kernel, rfl, rfl⟩) ?_
    refine mj_all_cons 7 rfl (show _ = _ from by decide +kernel) ?_
    refine mj_all_cons 8 rfl (⟨247, "ListSpeakerModel", mjF9, 46, by decide +kernel, rfl, by decide, mw_1006, mjw9⟩) ?_
    refine mj_all_cons 9 rfl (trivial) ?_
    refine mj_all_cons 10 rfl (trivial) ?_
    refine mj_all_cons 11 rfl (Or.inl ⟨1, by decide +kernel, rfl, rfl⟩) ?_
    refine mj_all_cons 12 rfl (show _ = _ from by decide +kernel) ?_
    refine mj_all_cons 13 rfl (⟨247, "ListSpeakerModel", mjF9, 46, mjt9, by decide +kernel, rfl, by decide, mw_1006, mjw9, mjk9, mjn9, rfl, by decide +kernel⟩) ?_
    refine mj_all_cons 14 rfl (trivial) ?_
    refine mj_all_cons 15 rfl (trivial) ?_
    refine mj_all_cons 16 rfl (Or.inl ⟨0, by decide +kernel, rfl, rfl⟩) ?_
    refine mj_all_cons 17 rfl (⟨69, "ListSpeakerModel", mjF9, 46, by decide +kernel, rfl, by decide, mw_1007, mjw9⟩) ?_
    refine mj_all_cons 18 rfl (trivial) ?_
    refine mj_all_cons 19 rfl (trivial) ?_
    refine mj_all_cons 20 rfl (Or.inl ⟨0, by decide +kernel, rfl, rfl⟩) ?_
    refine mj_all_cons 21 rfl (⟨247, "ListSpeakerModel", mjF9, 46, by decide +kernel, rfl, by decide, mw_1006, mjw9⟩) ?_
    refine mj_all_cons 22 rfl (trivial) ?_
    refine mj_all_cons 23 rfl (trivial) ?_
    refine mj_all_cons 24 rfl (Or.inl ⟨3, by decide +kernel, rfl, rfl⟩) ?_
    refine mj_all_cons 25 rfl (show _ = _ from by decide +kernel) ?_
    refine mj_all_cons 26 rfl (Or.inl ⟨0, by decide +kernel, rfl, rfl⟩) ?_
    refine mj_all_cons 27 rfl (show _ = _ from by decide +kernel) ?_
    refine mj_all_cons 28 rfl (⟨247, "ListSpeakerModel", mjF9, 46, by decide +kernel, rfl, by decide, mw_1006, mjw9⟩) ?_
    refine mj_all_cons 29 rfl (trivial) ?_
    refine mj_all_cons 30 rfl (trivial) ?_
    refine mj_all_cons 31 rfl (Or.inl ⟨by decide +kernel, rfl⟩) ?_
    refine mj_all_cons 32 rfl (show _ = _ from by decide +kernel) ?_
    refine mj_all_cons 33 rfl (⟨247, "ListSpeakerModel", mjF9, 46, mjt9, by decide +kernel, rfl, by decide, mw_1006, mjw9, mjk9, mjn9, rfl, by decide +kernel⟩) ?_
    refine mj_all_cons 34 rfl (trivial) ?_
    refine mj_all_cons 35 rfl (trivial) ?_
    refine mj_all_cons 36 rfl (Or.inl ⟨0, by decide +kernel, rfl, rfl⟩) ?_
    refine mj_all_cons 37 rfl (show _ = _ from by decide +kernel) ?_
    refine mj_all_cons 38 rfl (⟨177, "ListSpeakerModel", mjF9, 46, by decide +kernel, rfl, by decide, mw_1008, mjw9⟩) ?_
    refine mj_all_cons 39 rfl (trivial) ?_
    refine mj_all_cons 40 rfl (trivial) ?_
    refine mj_all_cons 41 rfl (Or.inl ⟨2, by decide +kernel, rfl, rfl⟩) ?_
    refine mj_all_cons 42 rfl (show _ = _ from by decide +kernel) ?_
    refine mj_all_cons 43 rfl (⟨177, "ListSpeakerModel", mjF9, 46, mjt9, by decide +kernel, rfl, by decide, mw_1008, mjw9, mjk9, mjn9, rfl, by decide +kernel⟩) ?_
    refine mj_all_cons 44 rfl (trivial) ?_
    refine mj_all_cons 45 rfl (trivial) ?_
    refine mj_all_cons 46 rfl (show _ = _ from by decide +kernel) ?_
    exact trivial
  intro pc o ho
  have := mj_all_get _ 0 h pc o ho
  rw [Nat.zero_add] at this
  exact this
set_option maxRecDepth 100000 in
theorem mjmi45 : ∀ (pc : Nat) (o : mj_O), mjmo45[pc]? = some o → mj_is mj_kl mjmM45.1.cls mj_WS mj_NWs mjm_Ms mjmM45.2.1 pc o := by
  have h : mj_all (mj_is mj_kl mjmM45.1.cls mj_WS mj_NWs mjm_Ms mjmM45.2.1) 0 mjmo45 := by
    unfold mjmo45
    refine mj_all_cons 1 rfl (Or.inl ⟨2, by decide +kernel, rfl, rfl⟩) ?_
    refine mj_all_cons 2 rfl (⟨mjmM3, 103, 1, rfl, by decide, mjmd3, mw_16, Or.inr (Or.inl ⟨by decide +kernel, rfl, rfl, mw_1194, mw_1195⟩)⟩) ?_
    refine mj_all_cons 3 rfl (trivial) ?_
    refine mj_all_cons 4 rfl (trivial) ?_
    refine mj_all_cons 5 rfl (show _ = _ from by decide +kernel) ?_
    refine mj_all_cons 6 rfl (trivial) ?_
    refine mj_all_cons 7 rfl (trivial) ?_
    refine mj_all_cons 8 rfl (Or.inl ⟨0, by decide +kernel, rfl, rfl⟩) ?_
    refine mj_all_cons 9 rfl (Or.inl ⟨1, by decide +kernel, rfl, rfl⟩) ?_
    refine mj_all_cons 10 rfl (Or.inr (Or.inl ⟨by decide +kernel, rfl, by decide⟩)) ?_
    refine mj_all_cons 11 rfl (trivial) ?_
    refine mj_all_cons 12 rfl (show _ = _ from by decide +kernel) ?_
    refine mj_all_cons 13 rfl (trivial) ?_
    refine mj_all_cons 14 rfl (trivial) ?_
    refine mj_all_cons 15 rfl (Or.inr (Or.inr (Or.inr (Or.inl ⟨203, by decide +kernel, rfl, mw_1230⟩)))) ?_
    refine mj_all_cons 16 rfl (trivial) ?_
    refine mj_all_cons 17 rfl (show _ = _ from by decide +kernel) ?_
    refine mj_all_cons 18 rfl (trivial) ?_
    refine mj_all_cons 19 rfl (trivial) ?_
    refine mj_all_cons 20 rfl (Or.inr (Or.inr (Or.inr (Or.inl ⟨101, by decide +kernel, rfl, mw_1150⟩)))) ?_
    refine mj_all_cons 21 rfl (trivial) ?_
    refine mj_all_cons 22 rfl (⟨mjmM38, 273, 1, rfl, by decide, mjmd38, mw_16, Or.inl ⟨9, mjF9, 46, by decide +kernel, rfl, rfl, rfl, mw_1287, mw_1289, mjsel_95⟩⟩) ?_
    refine mj_all_cons 23 rfl (trivial) ?_
    refine mj_all_cons 24 rfl (trivial) ?_
    refine mj_all_cons 25 rfl (show _ = _ from by decide +kernel) ?_
    refine mj_all_cons 26 rfl (trivial) ?_
    refine mj_all_cons 27 rfl (trivial) ?_
    refine mj_all_cons 28 rfl (Or.inl ⟨0, by decide +kernel, rfl, rfl⟩) ?_
    refine mj_all_cons 29 rfl (Or.inl ⟨2, by decide +kernel, rfl, rfl⟩) ?_
    refine mj_all_cons 30 rfl (⟨mjmM6, 107, 1, rfl, by decide, mjmd6, mw_16, Or.inl ⟨9, mjF9, 46, by decide +kernel, rfl, rfl, rfl, mw_1210, mw_1212, mjsel_77⟩⟩) ?_
    refine mj_all_cons 31 rfl (trivial) ?_
    refine mj_all_cons 32 rfl (trivial) ?_
    refine mj_all_cons 33 rfl (Or.inr (Or.inr (Or.inr (Or.inl ⟨101, by decide +kernel, rfl, mw_1150⟩)))) ?_
    refine mj_all_cons 34 rfl (trivial) ?_
    refine mj_all_cons 35 rfl (show _ = _ from by decide +kernel) ?_
    refine mj_all_cons 36 rfl (trivial) ?_
    refine mj_all_cons 37 rfl (trivial) ?_
    refine mj_all_cons 38 rfl (Or.inl ⟨0, by decide +kernel, rfl, rfl⟩) ?_
    refine mj_all_cons 39 rfl (Or.inl ⟨by decide +kernel, rfl⟩) ?_
    refine mj_all_cons 40 rfl (Or.inl ⟨0, by decide +kernel, rfl, rfl⟩) ?_
    refine mj_all_cons 41 rfl (Or.inl ⟨2, by decide +kernel, rfl, rfl⟩) ?_
    refine mj_all_cons 42 rfl (⟨mjmM5, 111, 1, rfl, by decide, mjmd5, mw_16, Or.inl ⟨9, mjF9, 46, by decide +kernel, rfl, rfl, rfl, mw_1197, mw_1199, mjsel_74⟩⟩) ?_
    refine mj_all_cons 43 rfl (trivial) ?_
    refine mj_all_cons 44 rfl (trivial) ?_
    refine mj_all_cons 45 rfl (Or.inl ⟨by decide +kernel, rfl⟩) ?_
    refine mj_all_cons 46 rfl (Or.inl ⟨3, by decide +kernel, rfl, rfl⟩) ?_
    refine mj_all_cons 47 rfl (⟨mjmM24, 183, 4, rfl, by decide, mjmd24, mw_16, Or.inl ⟨9, mjF9, 46, by decide +kernel, rfl, rfl, rfl, mw_1239, mw_1241, mjsel_83⟩⟩) ?_
    refine mj_all_cons 48 rfl (trivial) ?_
    refine mj_all_cons 49 rfl (trivial) ?_
    refine mj_all_cons 50 rfl (show _ = _ from by decide +kernel) ?_
    refine mj_all_cons 51 rfl (trivial) ?_
    refine mj_all_cons 52 rfl (trivial) ?_
    refine mj_all_cons 53 rfl (Or.inl ⟨0, by decide +kernel, rfl, rfl⟩) ?_
    refine mj_all_cons 54 rfl (Or.inl ⟨1, by decide +kernel, rfl, rfl⟩) ?_
    refine mj_all_cons 55 rfl (Or.inr (Or.inl ⟨by decide +kernel, rfl, by decide⟩)) ?_
    refine mj_all_cons 56 rfl (trivial) ?_
    refine mj_all_cons 57 rfl (show _ = _ from by decide +kernel) ?_
    refine mj_all_cons 58 rfl (trivial) ?_
    refine mj_all_cons 59 rfl (trivial) ?_
    refine mj_all_cons 60 rfl (Or.inr (Or.inl ⟨by decide +kernel, rfl, by decide⟩)) ?_
    refine mj_all_cons 61 rfl (trivial) ?_
    refine mj_all_cons 62 rfl (show _ = _ from by decide +kernel) ?_
    refine mj_all_cons 63 rfl (trivial) ?_
    refine mj_all_cons 64 rfl (trivial) ?_
    refine mj_all_cons 65 rfl (Or.inr (Or.inl ⟨by decide +kernel, rfl, by decide⟩)) ?_
    refine mj_all_cons 66 rfl (trivial) ?_
    refine mj_all_cons 67 rfl (Or.inl ⟨2, by decide +kernel, rfl, rfl⟩) ?_
    refine mj_all_cons 68 rfl (Or.inl ⟨by decide +kernel, rfl⟩) ?_
    refine mj_all_cons 69 rfl (Or.inl ⟨3, by decide +kernel, rfl, rfl⟩) ?_
    refine mj_all_cons 70 rfl (⟨mjmM24, 183, 4, rfl, by decide, mjmd24, mw_16, Or.inl ⟨9, mjF9, 46, by decide +kernel, rfl, rfl, rfl, mw_1239, mw_1241, mjsel_83⟩⟩) ?_
    refine mj_all_cons 71 rfl (trivial) ?_
    refine mj_all_cons 72 rfl (trivial) ?_
    refine mj_all_cons 73 rfl (Or.inl ⟨0, by decide +kernel, rfl, rfl⟩) ?_
    refine mj_all_cons 74 rfl (Or.inl ⟨by decide +kernel, rfl⟩) ?_
    refine mj_all_cons 75 rfl (Or.inl ⟨0, by decide +kernel, rfl, rfl⟩) ?_
    refine mj_all_cons 76 rfl (Or.inl ⟨2, by decide +kernel, rfl, rfl⟩) ?_
    refine mj_all_cons 77 rfl (⟨mjmM5, 111, 1, rfl, by decide, mjmd5, mw_16, Or.inl ⟨9, mjF9, 46, by decide +kernel, rfl, rfl, rfl, mw_1197, mw_1199, mjsel_74⟩⟩) ?_
    refine mj_all_cons 78 rfl (trivial) ?_
    refine mj_all_cons 79 rfl (trivial) ?_
    refine mj_all_cons 80 rfl (Or.inl ⟨by decide +kernel, rfl⟩) ?_
    refine mj_all_cons 81 rfl (Or.inl ⟨by decide +kernel, rfl⟩) ?_
    refine mj_all_cons 82 rfl (⟨mjmM24, 183, 4, rfl, by decide, mjmd24, mw_16, Or.inl ⟨9, mjF9, 46, by decide +kernel, rfl, rfl, rfl, mw_1239, mw_1241, mjsel_83⟩⟩) ?_
    refine mj_all_cons 83 rfl (trivial) ?_
    refine mj_all_cons 84 rfl (trivial) ?_
    refine mj_all_cons 85 rfl (show _ = _ from by decide +kernel) ?_
    exact trivial
  intro pc o ho
  have := mj_all_get _ 0 h pc o ho
  rw [Nat.zero_add] at this
  exact this
set_option maxRecDepth 100000 in
theorem mjmi46 : ∀ (pc : Nat) (o : mj_O), mjmo46[pc]? = some o → mj_is mj_kl mjmM46.1.cls mj_WS mj_NWs mjm_Ms mjmM46.2.1 pc o := by
  have h : mj_all (mj_is mj_kl mjmM46.1.cls mj_WS mj_NWs mjm_Ms mjmM46.2.1) 0 mjmo46 := by
    unfold mjmo46
    refine mj_all_cons 1 rfl (Or.inl ⟨1, by decide +kernel, rfl, rfl⟩) ?_
    refine mj_all_cons 2 rfl (⟨mjmM3, 103, 1, rfl, by decide, mjmd3, mw_16, Or.inr (Or.inl ⟨by decide +kernel, rfl, rfl, mw_1194, mw_1195⟩)⟩) ?_
    refine mj_all_cons 3 rfl (trivial) ?_
    refine mj_all_cons 4 rfl (trivial) ?_
    refine mj_all_cons 5 rfl (show _ = _ from by decide +kernel) ?_
    refine mj_all_cons 6 rfl (trivial) ?_
    refine mj_all_cons 7 rfl (trivial) ?_
    refine mj_all_cons 8 rfl (Or.inl ⟨0, by decide +kernel, rfl, rfl⟩) ?_
    refine mj_all_cons 9 rfl (Or.inl ⟨1, by decide +kernel, rfl, rfl⟩) ?_
    refine mj_all_cons 10 rfl (⟨mjmM4, 200, 1, rfl, by decide, mjmd4, mw_16, Or.inr (Or.inl ⟨by decide +kernel, rfl, rfl, mw_1218, mw_1219⟩)⟩) ?_
    refine mj_all_cons 11 rfl (trivial) ?_
    refine mj_all_cons 12 rfl (trivial) ?_
    refine mj_all_cons 13 rfl (show _ = _ from by decide +kernel) ?_
    refine mj_all_cons 14 rfl (trivial) ?_
    refine mj_all_cons 15 rfl (trivial) ?_
    refine mj_all_cons 16 rfl (Or.inl ⟨1, by decide +kernel, rfl, rfl⟩) ?_
    refine mj_all_cons 17 rfl (Or.inr (Or.inr (Or.inr (Or.inl ⟨101, by decide +kernel, rfl, mw_1150⟩)))) ?_
    refine mj_all_cons 18 rfl (trivial) ?_
    refine mj_all_cons 19 rfl (show _ = _ from by decide +kernel) ?_
    refine mj_all_cons 20 rfl (trivial) ?_
    refine mj_all_cons 21 rfl (trivial) ?_
    refine mj_all_cons 22 rfl (Or.inl ⟨1, by decide +kernel, rfl, rfl⟩) ?_
    refine mj_all_cons 23 rfl (Or.inr (Or.inr (Or.inr (Or.inl ⟨203, by decide +kernel, rfl, mw_1230⟩)))) ?_
    refine mj_all_cons 24 rfl (trivial) ?_
    refine mj_all_cons 25 rfl (show _ = _ from by decide +kernel) ?_
    refine mj_all_cons 26 rfl (trivial) ?_
    refine mj_all_cons 27 rfl (trivial) ?_
    refine mj_all_cons 28 rfl (Or.inl ⟨1, by decide +kernel, rfl, rfl⟩) ?_
    refine mj_all_cons 29 rfl (show _ = _ from by decide +kernel) ?_
    refine mj_all_cons 30 rfl (trivial) ?_
    refine mj_all_cons 31 rfl (trivial) ?_
    refine mj_all_cons 32 rfl (Or.inl ⟨0, by decide +kernel, rfl, rfl⟩) ?_
    refine mj_all_cons 33 rfl (⟨69, "ListSpeakerModel", mjF9, 46, by decide +kernel, rfl, by decide, mw_1007, mjw9⟩) ?_
    refine mj_all_cons 34 rfl (trivial) ?_
    refine mj_all_cons 35 rfl (trivial) ?_
    refine mj_all_cons 36 rfl (Or.inl ⟨0, by decide +kernel, rfl, rfl⟩) ?_
    refine mj_all_cons 37 rfl (Or.inl ⟨1, by decide +kernel, rfl, rfl⟩) ?_
    refine mj_all_cons 38 rfl (⟨mjmM26, 204, 1, rfl, by decide, mjmd26, mw_16, Or.inl ⟨9, mjF9, 46, by decide +kernel, rfl, rfl, rfl, mw_1247, mw_1249, mjsel_85⟩⟩) ?_
    refine mj_all_cons 39 rfl (trivial) ?_
    refine mj_all_cons 40 rfl (trivial) ?_
    refine mj_all_cons 41 rfl (show _ = _ from by decide +kernel) ?_
    refine mj_all_cons 42 rfl (⟨mjmM38, 273, 1, rfl, by decide, mjmd38, mw_16, Or.inl ⟨9, mjF9, 46, by decide +kernel, rfl, rfl, rfl, mw_1287, mw_1289, mjsel_95⟩⟩) ?_
    refine mj_all_cons 43 rfl (trivial) ?_
    refine mj_all_cons 44 rfl (trivial) ?_
    refine mj_all_cons 45 rfl (show _ = _ from by decide +kernel) ?_
    refine mj_all_cons 46 rfl (Or.inl ⟨0, by decide +kernel, rfl, rfl⟩) ?_
    refine mj_all_cons 47 rfl (Or.inl ⟨1, by decide +kernel, rfl, rfl⟩) ?_
    refine mj_all_cons 48 rfl (⟨mjmM5, 111, 1, rfl, by decide, mjmd5, mw_16, Or.inl ⟨9, mjF9, 46, by decide +kernel, rfl, rfl, rfl, mw_1197, mw_1199, mjsel_74⟩⟩) ?_
    refine mj_all_cons 49 rfl (trivial) ?_
    refine mj_all_cons 50 rfl (trivial) ?_
    refine mj_all_cons 51 rfl (Or.inr (Or.inr (Or.inr (Or.inl ⟨101, by decide +kernel, rfl, mw_1150⟩)))) ?_
    refine mj_all_cons 52 rfl (trivial) ?_
    refine mj_all_cons 53 rfl (show _ = _ from by decide +kernel) ?_
    refine mj_all_cons 54 rfl (Or.inl ⟨3, by decide +kernel, rfl, rfl⟩) ?_
    refine mj_all_cons 55 rfl (Or.inl ⟨0, by decide +kernel, rfl, rfl⟩) ?_
    refine mj_all_cons 56 rfl (Or.inl ⟨1, by decide +kernel, rfl, rfl⟩) ?_
    refine mj_all_cons 57 rfl (⟨mjmM6, 107, 1, rfl, by decide, mjmd6, mw_16, Or.inl ⟨9, mjF9, 46, by decide +kernel, rfl, rfl, rfl, mw_1210, mw_1212, mjsel_77⟩⟩) ?_
    refine mj_all_cons 58 rfl (trivial) ?_
    refine mj_all_cons 59 rfl (trivial) ?_
    refine mj_all_cons 60 rfl (Or.inr ⟨by decide +kernel, rfl⟩) ?_
    refine mj_all_cons 61 rfl (trivial) ?_
    refine mj_all_cons 62 rfl (Or.inl ⟨0, by decide +kernel, rfl, rfl⟩) ?_
    refine mj_all_cons 63 rfl (Or.inr ⟨by decide +kernel, rfl⟩) ?_
    refine mj_all_cons 64 rfl (trivial) ?_
    refine mj_all_cons 65 rfl (⟨mjmM7, 207, 1, rfl, by decide, mjmd7, mw_16, Or.inl ⟨9, mjF9, 46, by decide +kernel, rfl, rfl, rfl, mw_1206, mw_1208, mjsel_76⟩⟩) ?_
    refine mj_all_cons 66 rfl (trivial) ?_
    refine mj_all_cons 67 rfl (trivial) ?_
    refine mj_all_cons 68 rfl (Or.inr ⟨by decide +kernel, rfl⟩) ?_
    refine mj_all_cons 69 rfl (trivial) ?_
    refine mj_all_cons 70 rfl (Or.inl ⟨3, by decide +kernel, rfl, rfl⟩) ?_
    refine mj_all_cons 71 rfl (Or.inl ⟨by decide +kernel, rfl⟩) ?_
    refine mj_all_cons 72 rfl (show _ = _ from by decide +kernel) ?_
    refine mj_all_cons 73 rfl (trivial) ?_
    refine mj_all_cons 74 rfl (trivial) ?_
    refine mj_all_cons 75 rfl (Or.inl ⟨0, by decide +kernel, rfl, rfl⟩) ?_
    refine mj_all_cons 76 rfl (Or.inl ⟨0, by decide +kernel, rfl, rfl⟩) ?_
    refine mj_all_cons 77 rfl (Or.inr ⟨by decide +kernel, rfl⟩) ?_
    refine mj_all_cons 78 rfl (trivial) ?_
    refine mj_all_cons 79 rfl (⟨mjmM5, 111, 1, rfl, by decide, mjmd5, mw_16, Or.inl ⟨9, mjF9, 46, by decide +kernel, rfl, rfl, rfl, mw_1197, mw_1199, mjsel_74⟩⟩) ?_
    refine mj_all_cons 80 rfl (trivial) ?_
    refine mj_all_cons 81 rfl (trivial) ?_
    refine mj_all_cons 82 rfl (⟨mjmM38, 273, 1, rfl, by decide, mjmd38, mw_16, Or.inl ⟨9, mjF9, 46, by decide +kernel, rfl, rfl, rfl, mw_1287, mw_1289, mjsel_95⟩⟩) ?_
    refine mj_all_cons 83 rfl (trivial) ?_
    refine mj_all_cons 84 rfl (trivial) ?_
    refine mj_all_cons 85 rfl (show _ = _ from by decide +kernel) ?_
    refine mj_all_cons 86 rfl (trivial) ?_
    refine mj_all_cons 87 rfl (trivial) ?_
    refine mj_all_cons 88 rfl (Or.inl ⟨3, by decide +kernel, rfl, rfl⟩) ?_
    refine mj_all_cons 89 rfl (Or.inl ⟨by decide +kernel, rfl⟩) ?_
    refine mj_all_cons 90 rfl (show _ = _ from by decide +kernel) ?_
    refine mj_all_cons 91 rfl (trivial) ?_
    refine mj_all_cons 92 rfl (trivial) ?_
    refine mj_all_cons 93 rfl (Or.inl ⟨0, by decide +kernel, rfl, rfl⟩) ?_
    refine mj_all_cons 94 rfl (Or.inl ⟨by decide +kernel, rfl⟩) ?_
    refine mj_all_cons 95 rfl (Or.inl ⟨1, by decide +kernel, rfl, rfl⟩) ?_
    refine mj_all_cons 96 rfl (Or.inl ⟨by decide +kernel, rfl⟩) ?_
    refine mj_all_cons 97 rfl (Or.inl ⟨2, by decide +kernel, rfl, rfl⟩) ?_
    refine mj_all_cons 98 rfl (⟨mjmM24, 183, 4, rfl, by decide, mjmd24, mw_16, Or.inl ⟨9, mjF9, 46, by decide +kernel, rfl, rfl, rfl, mw_1239, mw_1241, mjsel_83⟩⟩) ?_
    refine mj_all_cons 99 rfl (trivial) ?_
    refine mj_all_cons 100 rfl (trivial) ?_
    refine mj_all_cons 101 rfl (Or.inl ⟨0, by decide +kernel, rfl, rfl⟩) ?_
    refine mj_all_cons 102 rfl (Or.inl ⟨by decide +kernel, rfl⟩) ?_
    refine mj_all_cons 103 rfl (Or.inl ⟨0, by decide +kernel, rfl, rfl⟩) ?_
    refine mj_all_cons 104 rfl (Or.inr ⟨by decide +kernel, rfl⟩) ?_
    refine mj_all_cons 105 rfl (trivial) ?_
    refine mj_all_cons 106 rfl (⟨mjmM5, 111, 1, rfl, by decide, mjmd5, mw_16, Or.inl ⟨9, mjF9, 46, by decide +kernel, rfl, rfl, rfl, mw_1197, mw_1199, mjsel_74⟩⟩) ?_
    refine mj_all_cons 107 rfl (trivial) ?_
    refine mj_all_cons 108 rfl (trivial) ?_
    refine mj_all_cons 109 rfl (Or.inl ⟨by decide +kernel, rfl⟩) ?_
    refine mj_all_cons 110 rfl (Or.inl ⟨by decide +kernel, rfl⟩) ?_
    refine mj_all_cons 111 rfl (⟨mjmM24, 183, 4, rfl, by decide, mjmd24, mw_16, Or.inl ⟨9, mjF9, 46, by decide +kernel, rfl, rfl, rfl, mw_1239, mw_1241, mjsel_83⟩⟩) ?_
    refine mj_all_cons 112 rfl (trivial) ?_
    refine mj_all_cons 113 rfl (trivial) ?_
    refine mj_all_cons 114 rfl (show _ = _ from by decide +kernel) ?_
    refine mj_all_cons 115 rfl (trivial) ?_
    refine mj_all_cons 116 rfl (trivial) ?_
    refine mj_all_cons 117 rfl (Or.inl ⟨3, by decide +kernel, rfl, rfl⟩) ?_
    refine mj_all_cons 118 rfl (Or.inl ⟨by decide +kernel, rfl⟩) ?_
    refine mj_all_cons 119 rfl (show _ = _ from by decide +kernel) ?_
    refine mj_all_cons 120 rfl (trivial) ?_
    refine mj_all_cons 121 rfl (trivial) ?_
    refine mj_all_cons 122 rfl (Or.inl ⟨0, by decide +kernel, rfl, rfl⟩) ?_
    refine mj_all_cons 123 rfl (Or.inl ⟨by decide +kernel, rfl⟩) ?_
    refine mj_all_cons 124 rfl (Or.inl ⟨1, by decide +kernel, rfl, rfl⟩) ?_
    refine mj_all_cons 125 rfl (Or.inl ⟨0, by decide +kernel, rfl, rfl⟩) ?_
    refine mj_all_cons 126 rfl (Or.inl ⟨0, by decide +kernel, rfl, rfl⟩) ?_
    refine mj_all_cons 127 rfl (Or.inr ⟨by decide +kernel, rfl⟩) ?_
    refine mj_all_cons 128 rfl (trivial) ?_
    refine mj_all_cons 129 rfl (⟨mjmM5, 111, 1, rfl, by decide, mjmd5, mw_16, Or.inl ⟨9, mjF9, 46, by decide +kernel, rfl, rfl, rfl, mw_1197, mw_1199, mjsel_74⟩⟩) ?_
    refine mj_all_cons 130 rfl (trivial) ?_
    refine mj_all_cons 131 rfl (trivial) ?_
    refine mj_all_cons 132 rfl (⟨mjmM7, 207, 1, rfl, by decide, mjmd7, mw_16, Or.inl ⟨9, mjF9, 46, by decide +kernel, rfl, rfl, rfl, mw_1206, mw_1208, mjsel_76⟩⟩) ?_
    refine mj_all_cons 133 rfl (trivial) ?_
    refine mj_all_cons 134 rfl (trivial) ?_
    refine mj_all_cons 135 rfl (Or.inl ⟨2, by decide +kernel, rfl, rfl⟩) ?_
    refine mj_all_cons 136 rfl (⟨mjmM24, 183, 4, rfl, by decide, mjmd24, mw_16, Or.inl ⟨9, mjF9, 46, by decide +kernel, rfl, rfl, rfl, mw_1239, mw_1241, mjsel_83⟩⟩) ?_
    refine mj_all_cons 137 rfl (trivial) ?_
    refine mj_all_cons 138 rfl (trivial) ?_
    refine mj_all_cons 139 rfl (Or.inl ⟨0, by decide +kernel, rfl, rfl⟩) ?_
    refine mj_all_cons 140 rfl (Or.inl ⟨by decide +kernel, rfl⟩) ?_
    refine mj_all_cons 141 rfl (Or.inl ⟨0, by decide +kernel, rfl, rfl⟩) ?_
    refine mj_all_cons 142 rfl (Or.inr ⟨by decide +kernel, rfl⟩) ?_
    refine mj_all_cons 143 rfl (trivial) ?_
    refine mj_all_cons 144 rfl (⟨mjmM5, 111, 1, rfl, by decide, mjmd5, mw_16, Or.inl ⟨9, mjF9, 46, by decide +kernel, rfl, rfl, rfl, mw_1197, mw_1199, mjsel_74⟩⟩) ?_
    refine mj_all_cons 145 rfl (trivial) ?_
    refine mj_all_cons 146 rfl (trivial) ?_
    refine mj_all_cons 147 rfl (Or.inl ⟨by decide +kernel, rfl⟩) ?_
    refine mj_all_cons 148 rfl (Or.inl ⟨by decide +kernel, rfl⟩) ?_
    refine mj_all_cons 149 rfl (⟨mjmM24, 183, 4, rfl, by decide, mjmd24, mw_16, Or.inl ⟨9, mjF9, 46, by decide +kernel, rfl, rfl, rfl, mw_1239, mw_1241, mjsel_83⟩⟩) ?_
    refine mj_all_cons 150 rfl (trivial) ?_
    refine mj_all_cons 151 rfl (trivial) ?_
    refine mj_all_cons 152 rfl (show _ = _ from by decide +kernel) ?_
    refine mj_all_cons 153 rfl (trivial) ?_
    refine mj_all_cons 154 rfl (trivial) ?_
    refine mj_all_cons 155 rfl (Or.inl ⟨3, by decide +kernel, rfl, rfl⟩) ?_
    refine mj_all_cons 156 rfl (Or.inl ⟨by decide +kernel, rfl⟩) ?_
    refine mj_all_cons 157 rfl (show _ = _ from by decide +kernel) ?_
    refine mj_all_cons 158 rfl (trivial) ?_
    refine mj_all_cons 159 rfl (trivial) ?_
    refine mj_all_cons 160 rfl (Or.inl ⟨0, by decide +kernel, rfl, rfl⟩) ?_
    refine mj_all_cons 161 rfl (Or.inr (Or.inl ⟨by decide +kernel, rfl, by decide⟩)) ?_
    refine mj_all_cons 162 rfl (trivial) ?_
    refine mj_all_cons 163 rfl (Or.inr ⟨by decide +kernel, rfl⟩) ?_
    refine mj_all_cons 164 rfl (trivial) ?_
    refine mj_all_cons 165 rfl (Or.inl ⟨by decide +kernel, rfl⟩) ?_
    refine mj_all_cons 166 rfl (Or.inl ⟨2, by decide +kernel, rfl, rfl⟩) ?_
    refine mj_all_cons 167 rfl (⟨mjmM24, 183, 4, rfl, by decide, mjmd24, mw_16, Or.inl ⟨9, mjF9, 46, by decide +kernel, rfl, rfl, rfl, mw_1239, mw_1241, mjsel_83⟩⟩) ?_
    refine mj_all_cons 168 rfl (trivial) ?_
    refine mj_all_cons 169 rfl (trivial) ?_
    refine mj_all_cons 170 rfl (show _ = _ from by decide +kernel) ?_
    refine mj_all_cons 171 rfl (trivial) ?_
    refine mj_all_cons 172 rfl (trivial) ?_
    refine mj_all_cons 173 rfl (Or.inl ⟨3, by decide +kernel, rfl, rfl⟩) ?_
    refine mj_all_cons 174 rfl (Or.inr (Or.inl ⟨by decide +kernel, rfl, by decide⟩)) ?_
    refine mj_all_cons 175 rfl (trivial) ?_
    refine mj_all_cons 176 rfl (show _ = _ from by decide +kernel) ?_
    refine mj_all_cons 177 rfl (trivial) ?_
    refine mj_all_cons 178 rfl (trivial) ?_
    refine mj_all_cons 179 rfl (Or.inl ⟨3, by decide +kernel, rfl, rfl⟩) ?_
    refine mj_all_cons 180 rfl (Or.inr (Or.inl ⟨by decide +kernel, rfl, by decide⟩)) ?_
    refine mj_all_cons 181 rfl (trivial) ?_
    refine mj_all_cons 182 rfl (show _ = _ from by decide +kernel) ?_
    refine mj_all_cons 183 rfl (trivial) ?_
    refine mj_all_cons 184 rfl (trivial) ?_
    refine mj_all_cons 185 rfl (Or.inl ⟨0, by decide +kernel, rfl, rfl⟩) ?_
    refine mj_all_cons 186 rfl (Or.inl ⟨3, by decide +kernel, rfl, rfl⟩) ?_
    refine mj_all_cons 187 rfl (Or.inr (Or.inl ⟨by decide +kernel, rfl, by decide⟩)) ?_
    refine mj_all_cons 188 rfl (trivial) ?_
    refine mj_all_cons 189 rfl (show _ = _ from by decide +kernel) ?_
    refine mj_all_cons 190 rfl (trivial) ?_
    refine mj_all_cons 191 rfl (trivial) ?_
    refine mj_all_cons 192 rfl (Or.inr (Or.inl ⟨by decide +kernel, rfl, by decide⟩)) ?_
    refine mj_all_cons 193 rfl (trivial) ?_
    refine mj_all_cons 194 rfl (show _ = _ from by decide +kernel) ?_
    refine mj_all_cons 195 rfl (trivial) ?_
    refine mj_all_cons 196 rfl (trivial) ?_
    refine mj_all_cons 197 rfl (Or.inr (Or.inl ⟨by decide +kernel, rfl, by decide⟩)) ?_
    refine mj_all_cons 198 rfl (trivial) ?_
    refine mj_all_cons 199 rfl (Or.inr ⟨by decide +kernel, rfl⟩) ?_
    refine mj_all_cons 200 rfl (trivial) ?_
    refine mj_all_cons 201 rfl (Or.inl ⟨2, by decide +kernel, rfl, rfl⟩) ?_
    refine mj_all_cons 202 rfl (⟨mjmM45, 276, 3, rfl, by decide, mjmd45, mw_16, Or.inl ⟨9, mjF9, 46, by decide +kernel, rfl, rfl, rfl, mw_1291, mw_1293, mjsel_96⟩⟩) ?_
    refine mj_all_cons 203 rfl (trivial) ?_
    refine mj_all_cons 204 rfl (trivial) ?_
    refine mj_all_cons 205 rfl (show _ = _ from by decide +kernel) ?_
    refine mj_all_cons 206 rfl (trivial) ?_
    refine mj_all_cons 207 rfl (trivial) ?_
    refine mj_all_cons 208 rfl (Or.inl ⟨3, by decide +kernel, rfl, rfl⟩) ?_
    refine mj_all_cons 209 rfl (Or.inr (Or.inl ⟨by decide +kernel, rfl, by decide⟩)) ?_
    refine mj_all_cons 210 rfl (trivial) ?_
    refine mj_all_cons 211 rfl (show _ = _ from by decide +kernel) ?_
    refine mj_all_cons 212 rfl (trivial) ?_
    refine mj_all_cons 213 rfl (trivial) ?_
    refine mj_all_cons 214 rfl (Or.inl ⟨0, by decide +kernel, rfl, rfl⟩) ?_
    refine mj_all_cons 215 rfl (Or.inr (Or.inl ⟨by decide +kernel, rfl, by decide⟩)) ?_
    refine mj_all_cons 216 rfl (trivial) ?_
    refine mj_all_cons 217 rfl (Or.inr (Or.inr (Or.inr (Or.inl ⟨101, by decide +kernel, rfl, mw_1150⟩)))) ?_
    refine mj_all_cons 218 rfl (trivial) ?_
    refine mj_all_cons 219 rfl (Or.inr ⟨by decide +kernel, rfl⟩) ?_
    refine mj_all_cons 220 rfl (trivial) ?_
    refine mj_all_cons 221 rfl (Or.inl ⟨by decide +kernel, rfl⟩) ?_
    refine mj_all_cons 222 rfl (⟨mjmM24, 183, 4, rfl, by decide, mjmd24, mw_16, Or.inl ⟨9, mjF9, 46, by decide +kernel, rfl, rfl, rfl, mw_1239, mw_1241, mjsel_83⟩⟩) ?_
    refine mj_all_cons 223 rfl (trivial) ?_
    refine mj_all_cons 224 rfl (trivial) ?_
    refine mj_all_cons 225 rfl (show _ = _ from by decide +kernel) ?_
    refine mj_all_cons 226 rfl (trivial) ?_
    refine mj_all_cons 227 rfl (trivial) ?_
    refine mj_all_cons 228 rfl (Or.inl ⟨3, by decide +kernel, rfl, rfl⟩) ?_
    refine mj_all_cons 229 rfl (Or.inr (Or.inl ⟨by decide +kernel, rfl, by decide⟩)) ?_
    refine mj_all_cons 230 rfl (trivial) ?_
    refine mj_all_cons 231 rfl (show _ = _ from by decide +kernel) ?_
    refine mj_all_cons 232 rfl (trivial) ?_
    refine mj_all_cons 233 rfl (trivial) ?_
    refine mj_all_cons 234 rfl (Or.inl ⟨3, by decide +kernel, rfl, rfl⟩) ?_
    refine mj_all_cons 235 rfl (Or.inr (Or.inl ⟨by decide +kernel, rfl, by decide⟩)) ?_
    refine mj_all_cons 236 rfl (trivial) ?_
    refine mj_all_cons 237 rfl (show _ = _ from by decide +kernel) ?_
    refine mj_all_cons 238 rfl (trivial) ?_
    refine mj_all_cons 239 rfl (trivial) ?_
    refine mj_all_cons 240 rfl (Or.inl ⟨0, by decide +kernel, rfl, rfl⟩) ?_
    refine mj_all_cons 241 rfl (Or.inr (Or.inl ⟨by decide +kernel, rfl, by decide⟩)) ?_
    refine mj_all_cons 242 rfl (trivial) ?_
    refine mj_all_cons 243 rfl (Or.inr (Or.inr (Or.inr (Or.inl ⟨101, by decide +kernel, rfl, mw_1150⟩)))) ?_
    refine mj_all_cons 244 rfl (trivial) ?_
    refine mj_all_cons 245 rfl (Or.inl ⟨3, by decide +kernel, rfl, rfl⟩) ?_
    refine mj_all_cons 246 rfl (Or.inl ⟨by decide +kernel, rfl⟩) ?_
    refine mj_all_cons 247 rfl (⟨mjmM24, 183, 4, rfl, by decide, mjmd24, mw_16, Or.inl ⟨9, mjF9, 46, by decide +kernel, rfl, rfl, rfl, mw_1239, mw_1241, mjsel_83⟩⟩) ?_
    refine mj_all_cons 248 rfl (trivial) ?_
    refine mj_all_cons 249 rfl (trivial) ?_
    refine mj_all_cons 250 rfl (show _ = _ from by decide +kernel) ?_
    refine mj_all_cons 251 rfl (trivial) ?_
    refine mj_all_cons 252 rfl (trivial) ?_
    refine mj_all_cons 253 rfl (Or.inl ⟨0, by decide +kernel, rfl, rfl⟩) ?_
    refine mj_all_cons 254 rfl (Or.inr (Or.inl ⟨by decide +kernel, rfl, by decide⟩)) ?_
    refine mj_all_cons 255 rfl (trivial) ?_
    refine mj_all_cons 256 rfl (Or.inl ⟨0, by decide +kernel, rfl, rfl⟩) ?_
    refine mj_all_cons 257 rfl (Or.inl ⟨1, by decide +kernel, rfl, rfl⟩) ?_
    refine mj_all_cons 258 rfl (⟨mjmM5, 111, 1, rfl, by decide, mjmd5, mw_16, Or.inl ⟨9, mjF9, 46, by decide +kernel, rfl, rfl, rfl, mw_1197, mw_1199, mjsel_74⟩⟩) ?_
    refine mj_all_cons 259 rfl (trivial) ?_
    refine mj_all_cons 260 rfl (trivial) ?_
    refine mj_all_cons 261 rfl (Or.inr ⟨by decide +kernel, rfl⟩) ?_
    refine mj_all_cons 262 rfl (trivial) ?_
    refine mj_all_cons 263 rfl (Or.inl ⟨2, by decide +kernel, rfl, rfl⟩) ?_
    refine mj_all_cons 264 rfl (⟨mjmM24, 183, 4, rfl, by decide, mjmd24, mw_16, Or.inl ⟨9, mjF9, 46, by decide +kernel, rfl, rfl, rfl, mw_1239, mw_1241, mjsel_83⟩⟩) ?_
    refine mj_all_cons 265 rfl (trivial) ?_
    refine mj_all_cons 266 rfl (trivial) ?_
    refine mj_all_cons 267 rfl (Or.inl ⟨0, by decide +kernel, rfl, rfl⟩) ?_
    refine mj_all_cons 268 rfl (Or.inl ⟨by decide +kernel, rfl⟩) ?_
    refine mj_all_cons 269 rfl (Or.inr ⟨by decide +kernel, rfl⟩) ?_
    refine mj_all_cons 270 rfl (trivial) ?_
    refine mj_all_cons 271 rfl (Or.inl ⟨by decide +kernel, rfl⟩) ?_
    refine mj_all_cons 272 rfl (Or.inl ⟨by decide +kernel, rfl⟩) ?_
    refine mj_all_cons 273 rfl (⟨mjmM24, 183, 4, rfl, by decide, mjmd24, mw_16, Or.inl ⟨9, mjF9, 46, by decide +kernel, rfl, rfl, rfl, mw_1239, mw_1241, mjsel_83⟩⟩) ?_
    refine mj_all_cons 274 rfl (trivial) ?_
    refine mj_all_cons 275 rfl (trivial) ?_
    refine mj_all_cons 276 rfl (show _ = _ from by decide +kernel) ?_
    exact trivial
  intro pc o ho
  have := mj_all_get _ 0 h pc o ho
  rw [Nat.zero_add] at this
  exact this
set_option maxRecDepth 100000 in
theorem mjmi47 : ∀ (pc : Nat) (o : mj_O), mjmo47[pc]? = some o → mj_is mj_kl mjmM47.1.cls mj_WS mj_NWs mjm_Ms mjmM47.2.1 pc o := by
  have h : mj_all (mj_is mj_kl mjmM47.1.cls mj_WS mj_NWs mjm_Ms mjmM47.2.1) 0 mjmo47 := by
    unfold mjmo47
    refine mj_all_cons 1 rfl (Or.inl ⟨0, by decide +kernel, rfl, rfl⟩) ?_
    refine mj_all_cons 2 rfl (Or.inl ⟨1, by decide +kernel, rfl, rfl⟩) ?_
    refine mj_all_cons 3 rfl (⟨mjmM34, 230, 1, rfl, by decide, mjmd34, mw_16, Or.inl ⟨9, mjF9, 46, by decide +kernel, rfl, rfl, rfl, mw_1263, mw_1265, mjsel_89⟩⟩) ?_
    refine mj_all_cons 4 rfl (trivial) ?_
    refine mj_all_cons 5 rfl (trivial) ?_
    refine mj_all_cons 6 rfl (Or.inr ⟨by decide +kernel, rfl⟩) ?_
    refine mj_all_cons 7 rfl (trivial) ?_
    refine mj_all_cons 8 rfl (Or.inr ⟨by decide +kernel, rfl⟩) ?_
    refine mj_all_cons 9 rfl (trivial) ?_
    refine mj_all_cons 10 rfl (show _ = _ from by decide +kernel) ?_
    refine mj_all_cons 11 rfl (trivial) ?_
    refine mj_all_cons 12 rfl (trivial) ?_
    refine mj_all_cons 13 rfl (Or.inl ⟨0, by decide +kernel, rfl, rfl⟩) ?_
    refine mj_all_cons 14 rfl (Or.inl ⟨0, by decide +kernel, rfl, rfl⟩) ?_
    refine mj_all_cons 15 rfl (⟨51, "ListSpeakerModel", mjF9, 46, by decide +kernel, rfl, by decide, mw_999, mjw9⟩) ?_
    refine mj_all_cons 16 rfl (trivial) ?_
    refine mj_all_cons 17 rfl (trivial) ?_
    refine mj_all_cons 18 rfl (Or.inr ⟨by decide +kernel, rfl⟩) ?_
    refine mj_all_cons 19 rfl (trivial) ?_
    refine mj_all_cons 20 rfl (show _ = _ from by decide +kernel) ?_
    refine mj_all_cons 21 rfl (⟨mjmM7, 207, 1, rfl, by decide, mjmd7, mw_16, Or.inl ⟨9, mjF9, 46, by decide +kernel, rfl, rfl, rfl, mw_1206, mw_1208, mjsel_76⟩⟩) ?_
    refine mj_all_cons 22 rfl (trivial) ?_
    refine mj_all_cons 23 rfl (trivial) ?_
    refine mj_all_cons 24 rfl (Or.inl ⟨2, by decide +kernel, rfl, rfl⟩) ?_
    refine mj_all_cons 25 rfl (show _ = _ from by decide +kernel) ?_
    refine mj_all_cons 26 rfl (trivial) ?_
    refine mj_all_cons 27 rfl (trivial) ?_
    refine mj_all_cons 28 rfl (Or.inl ⟨0, by decide +kernel, rfl, rfl⟩) ?_
    refine mj_all_cons 29 rfl (Or.inr ⟨by decide +kernel, rfl⟩) ?_
    refine mj_all_cons 30 rfl (trivial) ?_
    refine mj_all_cons 31 rfl (show _ = _ from by decide +kernel) ?_
    refine mj_all_cons 32 rfl (trivial) ?_
    refine mj_all_cons 33 rfl (trivial) ?_
    refine mj_all_cons 34 rfl (Or.inl ⟨by decide +kernel, rfl⟩) ?_
    refine mj_all_cons 35 rfl (show _ = _ from by decide +kernel) ?_
    refine mj_all_cons 36 rfl (trivial) ?_
    refine mj_all_cons 37 rfl (trivial) ?_
    refine mj_all_cons 38 rfl (Or.inl ⟨by decide +kernel, rfl⟩) ?_
    refine mj_all_cons 39 rfl (⟨mjmM2, 138, 1, rfl, by decide, mjmd2, mw_16, Or.inl ⟨9, mjF9, 46, by decide +kernel, rfl, rfl, rfl, mw_1146, mw_1148, mjsel_65⟩⟩) ?_
    refine mj_all_cons 40 rfl (trivial) ?_
    refine mj_all_cons 41 rfl (trivial) ?_
    refine mj_all_cons 42 rfl (show _ = _ from by decide +kernel) ?_
    refine mj_all_cons 43 rfl (show _ = _ from by decide +kernel) ?_
    refine mj_all_cons 44 rfl (Or.inl ⟨3, by decide +kernel, rfl, rfl⟩) ?_
    refine mj_all_cons 45 rfl (show _ = _ from by decide +kernel) ?_
    refine mj_all_cons 46 rfl (trivial) ?_
    refine mj_all_cons 47 rfl (trivial) ?_
    refine mj_all_cons 48 rfl (Or.inl ⟨by decide +kernel, rfl⟩) ?_
    refine mj_all_cons 49 rfl (Or.inr ⟨by decide +kernel, rfl⟩) ?_
    refine mj_all_cons 50 rfl (trivial) ?_
    refine mj_all_cons 51 rfl (Or.inr ⟨by decide +kernel, rfl⟩) ?_
    refine mj_all_cons 52 rfl (trivial) ?_
    refine mj_all_cons 53 rfl (Or.inl ⟨2, by decide +kernel, rfl, rfl⟩) ?_
    refine mj_all_cons 54 rfl (show _ = _ from by decide +kernel) ?_
    refine mj_all_cons 55 rfl (trivial) ?_
    refine mj_all_cons 56 rfl (trivial) ?_
    refine mj_all_cons 57 rfl (Or.inl ⟨0, by decide +kernel, rfl, rfl⟩) ?_
    refine mj_all_cons 58 rfl (⟨69, "ListSpeakerModel", mjF9, 46, by decide +kernel, rfl, by decide, mw_1007, mjw9⟩) ?_
    refine mj_all_cons 59 rfl (trivial) ?_
    refine mj_all_cons 60 rfl (trivial) ?_
    refine mj_all_cons 61 rfl (Or.inl ⟨0, by decide +kernel, rfl, rfl⟩) ?_
    refine mj_all_cons 62 rfl (⟨291, "ListSpeakerModel", mjF9, 46, by decide +kernel, rfl, by decide, mw_1012, mjw9⟩) ?_
    refine mj_all_cons 63 rfl (trivial) ?_
    refine mj_all_cons 64 rfl (trivial) ?_
    refine mj_all_cons 65 rfl (Or.inr ⟨by decide +kernel, rfl⟩) ?_
    refine mj_all_cons 66 rfl (trivial) ?_
    refine mj_all_cons 67 rfl (show _ = _ from by decide +kernel) ?_
    refine mj_all_cons 68 rfl (Or.inl ⟨0, by decide +kernel, rfl, rfl⟩) ?_
    refine mj_all_cons 69 rfl (⟨69, "ListSpeakerModel", mjF9, 46, by decide +kernel, rfl, by decide, mw_1007, mjw9⟩) ?_
    refine mj_all_cons 70 rfl (trivial) ?_
    refine mj_all_cons 71 rfl (trivial) ?_
    refine mj_all_cons 72 rfl (Or.inl ⟨0, by decide +kernel, rfl, rfl⟩) ?_
    refine mj_all_cons 73 rfl (⟨247, "ListSpeakerModel", mjF9, 46, by decide +kernel, rfl, by decide, mw_1006, mjw9⟩) ?_
    refine mj_all_cons 74 rfl (trivial) ?_
    refine mj_all_cons 75 rfl (trivial) ?_
    refine mj_all_cons 76 rfl (Or.inl ⟨2, by decide +kernel, rfl, rfl⟩) ?_
    refine mj_all_cons 77 rfl (show _ = _ from by decide +kernel) ?_
    refine mj_all_cons 78 rfl (Or.inr ⟨by decide +kernel, rfl⟩) ?_
    refine mj_all_cons 79 rfl (trivial) ?_
    refine mj_all_cons 80 rfl (show _ = _ from by decide +kernel) ?_
    refine mj_all_cons 81 rfl (show _ = _ from by decide +kernel) ?_
    refine mj_all_cons 82 rfl (show _ = _ from by decide +kernel) ?_
    refine mj_all_cons 83 rfl (show _ = _ from by decide +kernel) ?_
    refine mj_all_cons 84 rfl (trivial) ?_
    refine mj_all_cons 85 rfl (trivial) ?_
    refine mj_all_cons 86 rfl (show _ = _ from by decide +kernel) ?_
    refine mj_all_cons 87 rfl (trivial) ?_
    refine mj_all_cons 88 rfl (trivial) ?_
    refine mj_all_cons 89 rfl (Or.inl ⟨0, by decide +kernel, rfl, rfl⟩) ?_
    refine mj_all_cons 90 rfl (Or.inl ⟨0, by decide +kernel, rfl, rfl⟩) ?_
    refine mj_all_cons 91 rfl (⟨291, "ListSpeakerModel", mjF9, 46, by decide +kernel, rfl, by decide, mw_1012, mjw9⟩) ?_
    refine mj_all_cons 92 rfl (trivial) ?_
    refine mj_all_cons 93 rfl (trivial) ?_
    refine mj_all_cons 94 rfl (Or.inl ⟨2, by decide +kernel, rfl, rfl⟩) ?_
    refine mj_all_cons 95 rfl (show _ = _ from by decide +kernel) ?_
    refine mj_all_cons 96 rfl (⟨247, "ListSpeakerModel", mjF9, 46, mjt9, by decide +kernel, rfl, by decide, mw_1006, mjw9, mjk9, mjn9, rfl, by decide +kernel⟩) ?_
    refine mj_all_cons 97 rfl (trivial) ?_
    refine mj_all_cons 98 rfl (trivial) ?_
    refine mj_all_cons 99 rfl (Or.inl ⟨0, by decide +kernel, rfl, rfl⟩) ?_
    refine mj_all_cons 100 rfl (⟨57, "ListSpeakerModel", mjF9, 46, by decide +kernel, rfl, by decide, mw_1002, mjw9⟩) ?_
    refine mj_all_cons 101 rfl (trivial) ?_
    refine mj_all_cons 102 rfl (trivial) ?_
    refine mj_all_cons 103 rfl (Or.inl ⟨0, by decide +kernel, rfl, rfl⟩) ?_
    refine mj_all_cons 104 rfl (⟨174, "ListSpeakerModel", mjF9, 46, by decide +kernel, rfl, by decide, mw_1001, mjw9⟩) ?_
    refine mj_all_cons 105 rfl (trivial) ?_
    refine mj_all_cons 106 rfl (trivial) ?_
    refine mj_all_cons 107 rfl (Or.inl ⟨by decide +kernel, rfl⟩) ?_
    refine mj_all_cons 108 rfl (show _ = _ from by decide +kernel) ?_
    refine mj_all_cons 109 rfl (show _ = _ from by decide +kernel) ?_
    refine mj_all_cons 110 rfl (Or.inr (Or.inl ⟨by decide +kernel, rfl, by decide⟩)) ?_
    refine mj_all_cons 111 rfl (trivial) ?_
    refine mj_all_cons 112 rfl (show _ = _ from by decide +kernel) ?_
    refine mj_all_cons 113 rfl (trivial) ?_
    refine mj_all_cons 114 rfl (trivial) ?_
    refine mj_all_cons 115 rfl (Or.inl ⟨0, by decide +kernel, rfl, rfl⟩) ?_
    refine mj_all_cons 116 rfl (show _ = _ from by decide +kernel) ?_
    refine mj_all_cons 117 rfl (⟨174, "ListSpeakerModel", mjF9, 46, by decide +kernel, rfl, by decide, mw_1001, mjw9⟩) ?_
    refine mj_all_cons 118 rfl (trivial) ?_
    refine mj_all_cons 119 rfl (trivial) ?_
    refine mj_all_cons 120 rfl (Or.inl ⟨by decide +kernel, rfl⟩) ?_
    refine mj_all_cons 121 rfl (show _ = _ from by decide +kernel) ?_
    refine mj_all_cons 122 rfl (⟨174, "ListSpeakerModel", mjF9, 46, mjt9, by decide +kernel, rfl, by decide, mw_1001, mjw9, mjk9, mjn9, rfl, by decide +kernel⟩) ?_
    refine mj_all_cons 123 rfl (trivial) ?_
    refine mj_all_cons 124 rfl (trivial) ?_
    refine mj_all_cons 125 rfl (show _ = _ from by decide +kernel) ?_
    refine mj_all_cons 126 rfl (trivial) ?_
    refine mj_all_cons 127 rfl (trivial) ?_
    refine mj_all_cons 128 rfl (Or.inl ⟨0, by decide +kernel, rfl, rfl⟩) ?_
    refine mj_all_cons 129 rfl (⟨78, "ListSpeakerModel", mjF9, 46, by decide +kernel, rfl, by decide, mw_1014, mjw9⟩) ?_
    refine mj_all_cons 130 rfl (trivial) ?_
    refine mj_all_cons 131 rfl (trivial) ?_
    refine mj_all_cons 132 rfl (Or.inl ⟨0, by decide +kernel, rfl, rfl⟩) ?_
    refine mj_all_cons 133 rfl (⟨253, "ListSpeakerModel", mjF9, 46, by decide +kernel, rfl, by decide, mw_1013, mjw9⟩) ?_
    refine mj_all_cons 134 rfl (trivial) ?_
    refine mj_all_cons 135 rfl (trivial) ?_
    refine mj_all_cons 136 rfl (Or.inl ⟨0, by decide +kernel, rfl, rfl⟩) ?_
    refine mj_all_cons 137 rfl (⟨180, "ListSpeakerModel", mjF9, 46, by decide +kernel, rfl, by decide, mw_1011, mjw9⟩) ?_
    refine mj_all_cons 138 rfl (trivial) ?_
    refine mj_all_cons 139 rfl (trivial) ?_
    refine mj_all_cons 140 rfl (show _ = _ from by decide +kernel) ?_
    refine mj_all_cons 141 rfl (Or.inl ⟨0, by decide +kernel, rfl, rfl⟩) ?_
    refine mj_all_cons 142 rfl (⟨78, "ListSpeakerModel", mjF9, 46, by decide +kernel, rfl, by decide, mw_1014, mjw9⟩) ?_
    refine mj_all_cons 143 rfl (trivial) ?_
    refine mj_all_cons 144 rfl (trivial) ?_
    refine mj_all_cons 145 rfl (Or.inl ⟨0, by decide +kernel, rfl, rfl⟩) ?_
    refine mj_all_cons 146 rfl (⟨253, "ListSpeakerModel", mjF9, 46, by decide +kernel, rfl, by decide, mw_1013, mjw9⟩) ?_
    refine mj_all_cons 147 rfl (trivial) ?_
    refine mj_all_cons 148 rfl (trivial) ?_
    refine mj_all_cons 149 rfl (Or.inl ⟨by decide +kernel, rfl⟩) ?_
    refine mj_all_cons 150 rfl (show _ = _ from by decide +kernel) ?_
    refine mj_all_cons 151 rfl (Or.inl ⟨0, by decide +kernel, rfl, rfl⟩) ?_
    refine mj_all_cons 152 rfl (⟨291, "ListSpeakerModel", mjF9, 46, by decide +kernel, rfl, by decide, mw_1012, mjw9⟩) ?_
    refine mj_all_cons 153 rfl (trivial) ?_
    refine mj_all_cons 154 rfl (trivial) ?_
    refine mj_all_cons 155 rfl (show _ = _ from by decide +kernel) ?_
    refine mj_all_cons 156 rfl (Or.inl ⟨0, by decide +kernel, rfl, rfl⟩) ?_
    refine mj_all_cons 157 rfl (show _ = _ from by decide +kernel) ?_
    refine mj_all_cons 158 rfl (⟨253, "ListSpeakerModel", mjF9, 46, by decide +kernel, rfl, by decide, mw_1013, mjw9⟩) ?_
    refine mj_all_cons 159 rfl (trivial) ?_
    refine mj_all_cons 160 rfl (trivial) ?_
    refine mj_all_cons 161 rfl (Or.inl ⟨by decide +kernel, rfl⟩) ?_
    refine mj_all_cons 162 rfl (show _ = _ from by decide +kernel) ?_
    refine mj_all_cons 163 rfl (⟨253, "ListSpeakerModel", mjF9, 46, mjt9, by decide +kernel, rfl, by decide, mw_1013, mjw9, mjk9, mjn9, rfl, by decide +kernel⟩) ?_
    refine mj_all_cons 164 rfl (trivial) ?_
    refine mj_all_cons 165 rfl (trivial) ?_
    refine mj_all_cons 166 rfl (Or.inl ⟨0, by decide +kernel, rfl, rfl⟩) ?_
    refine mj_all_cons 167 rfl (Or.inl ⟨0, by decide +kernel, rfl, rfl⟩) ?_
    refine mj_all_cons 168 rfl (⟨247, "ListSpeakerModel", mjF9, 46, by decide +kernel, rfl, by decide, mw_1006, mjw9⟩) ?_
    refine mj_all_cons 169 rfl (trivial) ?_
    refine mj_all_cons 170 rfl (trivial) ?_
    refine mj_all_cons 171 rfl (Or.inl ⟨2, by decide +kernel, rfl, rfl⟩) ?_
    refine mj_all_cons 172 rfl (show _ = _ from by decide +kernel) ?_
    refine mj_all_cons 173 rfl (⟨291, "ListSpeakerModel", mjF9, 46, mjt9, by decide +kernel, rfl, by decide, mw_1012, mjw9, mjk9, mjn9, rfl, by decide +kernel⟩) ?_
    refine mj_all_cons 174 rfl (trivial) ?_
    refine mj_all_cons 175 rfl (trivial) ?_
    refine mj_all_cons 176 rfl (Or.inl ⟨0, by decide +kernel, rfl, rfl⟩) ?_
    refine mj_all_cons 177 rfl (Or.inl ⟨0, by decide +kernel, rfl, rfl⟩) ?_
    refine mj_all_cons 178 rfl (⟨177, "ListSpeakerModel", mjF9, 46, by decide +kernel, rfl, by decide, mw_1008, mjw9⟩) ?_
    refine mj_all_cons 179 rfl (trivial) ?_
    refine mj_all_cons 180 rfl (trivial) ?_
    refine mj_all_cons 181 rfl (⟨180, "ListSpeakerModel", mjF9, 46, mjt9, by decide +kernel, rfl, by decide, mw_1011, mjw9, mjk9, mjn9, rfl, by decide +kernel⟩) ?_
    refine mj_all_cons 182 rfl (trivial) ?_
    refine mj_all_cons 183 rfl (trivial) ?_
    refine mj_all_cons 184 rfl (Or.inl ⟨0, by decide +kernel, rfl, rfl⟩) ?_
    refine mj_all_cons 185 rfl (Or.inr (Or.inl ⟨by decide +kernel, rfl, by decide⟩)) ?_
    refine mj_all_cons 186 rfl (trivial) ?_
    refine mj_all_cons 187 rfl (Or.inr (Or.inr (Or.inr (Or.inl ⟨101, by decide +kernel, rfl, mw_1150⟩)))) ?_
    refine mj_all_cons 188 rfl (trivial) ?_
    refine mj_all_cons 189 rfl (Or.inl ⟨by decide +kernel, rfl⟩) ?_
    refine mj_all_cons 190 rfl (Or.inl ⟨by decide +kernel, rfl⟩) ?_
    refine mj_all_cons 191 rfl (⟨mjmM24, 183, 4, rfl, by decide, mjmd24, mw_16, Or.inl ⟨9, mjF9, 46, by decide +kernel, rfl, rfl, rfl, mw_1239, mw_1241, mjsel_83⟩⟩) ?_
    refine mj_all_cons 192 rfl (trivial) ?_
    refine mj_all_cons 193 rfl (trivial) ?_
    refine mj_all_cons 194 rfl (Or.inl ⟨0, by decide +kernel, rfl, rfl⟩) ?_
    refine mj_all_cons 195 rfl (Or.inl ⟨by decide +kernel, rfl⟩) ?_
    refine mj_all_cons 196 rfl (⟨mjmM38, 273, 1, rfl, by decide, mjmd38, mw_16, Or.inl ⟨9, mjF9, 46, by decide +kernel, rfl, rfl, rfl, mw_1287, mw_1289, mjsel_95⟩⟩) ?_
    refine mj_all_cons 197 rfl (trivial) ?_
    refine mj_all_cons 198 rfl (trivial) ?_
    refine mj_all_cons 199 rfl (Or.inl ⟨0, by decide +kernel, rfl, rfl⟩) ?_
    refine mj_all_cons 200 rfl (Or.inl ⟨0, by decide +kernel, rfl, rfl⟩) ?_
    refine mj_all_cons 201 rfl (⟨180, "ListSpeakerModel", mjF9, 46, by decide +kernel, rfl, by decide, mw_1011, mjw9⟩) ?_
    refine mj_all_cons 202 rfl (trivial) ?_
    refine mj_all_cons 203 rfl (trivial) ?_
    refine mj_all_cons 204 rfl (⟨177, "ListSpeakerModel", mjF9, 46, mjt9, by decide +kernel, rfl, by decide, mw_1008, mjw9, mjk9, mjn9, rfl, by decide +kernel⟩) ?_
    refine mj_all_cons 205 rfl (trivial) ?_
    refine mj_all_cons 206 rfl (trivial) ?_
    refine mj_all_cons 207 rfl (Or.inl ⟨0, by decide +kernel, rfl, rfl⟩) ?_
    refine mj_all_cons 208 rfl (⟨291, "ListSpeakerModel", mjF9, 46, by decide +kernel, rfl, by decide, mw_1012, mjw9⟩) ?_
    refine mj_all_cons 209 rfl (trivial) ?_
    refine mj_all_cons 210 rfl (trivial) ?_
    refine mj_all_cons 211 rfl (Or.inr ⟨by decide +kernel, rfl⟩) ?_
    refine mj_all_cons 212 rfl (trivial) ?_
    refine mj_all_cons 213 rfl (Or.inl ⟨0, by decide +kernel, rfl, rfl⟩) ?_
    refine mj_all_cons 214 rfl (⟨51, "ListSpeakerModel", mjF9, 46, by decide +kernel, rfl, by decide, mw_999, mjw9⟩) ?_
    refine mj_all_cons 215 rfl (trivial) ?_
    refine mj_all_cons 216 rfl (trivial) ?_
    refine mj_all_cons 217 rfl (Or.inr ⟨by decide +kernel, rfl⟩) ?_
    refine mj_all_cons 218 rfl (trivial) ?_
    refine mj_all_cons 219 rfl (show _ = _ from by decide +kernel) ?_
    refine mj_all_cons 220 rfl (Or.inr ⟨by decide +kernel, rfl⟩) ?_
    refine mj_all_cons 221 rfl (trivial) ?_
    refine mj_all_cons 222 rfl (Or.inr ⟨by decide +kernel, rfl⟩) ?_
    refine mj_all_cons 223 rfl (trivial) ?_
    refine mj_all_cons 224 rfl (⟨mjmM3, 103, 1, rfl, by decide, mjmd3, mw_16, Or.inr (Or.inl ⟨by decide +kernel, rfl, rfl, mw_1194, mw_1195⟩)⟩) ?_
    refine mj_all_cons 225 rfl (trivial) ?_
    refine mj_all_cons 226 rfl (trivial) ?_
    refine mj_all_cons 227 rfl (show _ = _ from by decide +kernel) ?_
    refine mj_all_cons 228 rfl (trivial) ?_
    refine mj_all_cons 229 rfl (trivial) ?_
    refine mj_all_cons 230 rfl (Or.inl ⟨0, by decide +kernel, rfl, rfl⟩) ?_
    refine mj_all_cons 231 rfl (Or.inl ⟨0, by decide +kernel, rfl, rfl⟩) ?_
    refine mj_all_cons 232 rfl (Or.inr ⟨by decide +kernel, rfl⟩) ?_
    refine mj_all_cons 233 rfl (trivial) ?_
    refine mj_all_cons 234 rfl (⟨mjmM5, 111, 1, rfl, by decide, mjmd5, mw_16, Or.inl ⟨9, mjF9, 46, by decide +kernel, rfl, rfl, rfl, mw_1197, mw_1199, mjsel_74⟩⟩) ?_
    refine mj_all_cons 235 rfl (trivial) ?_
    refine mj_all_cons 236 rfl (trivial) ?_
    refine mj_all_cons 237 rfl (Or.inr ⟨by decide +kernel, rfl⟩) ?_
    refine mj_all_cons 238 rfl (trivial) ?_
    refine mj_all_cons 239 rfl (⟨mjmM25, 196, 2, rfl, by decide, mjmd25, mw_16, Or.inl ⟨9, mjF9, 46, by decide +kernel, rfl, rfl, rfl, mw_1231, mw_1233, mjsel_81⟩⟩) ?_
    refine mj_all_cons 240 rfl (trivial) ?_
    refine mj_all_cons 241 rfl (trivial) ?_
    refine mj_all_cons 242 rfl (show _ = _ from by decide +kernel) ?_
    refine mj_all_cons 243 rfl (trivial) ?_
    refine mj_all_cons 244 rfl (trivial) ?_
    refine mj_all_cons 245 rfl (Or.inl ⟨0, by decide +kernel, rfl, rfl⟩) ?_
    refine mj_all_cons 246 rfl (Or.inr ⟨by decide +kernel, rfl⟩) ?_
    refine mj_all_cons 247 rfl (trivial) ?_
    refine mj_all_cons 248 rfl (⟨mjmM6, 107, 1, rfl, by decide, mjmd6, mw_16, Or.inl ⟨9, mjF9, 46, by decide +kernel, rfl, rfl, rfl, mw_1210, mw_1212, mjsel_77⟩⟩) ?_
    refine mj_all_cons 249 rfl (trivial) ?_
    refine mj_all_cons 250 rfl (trivial) ?_
    refine mj_all_cons 251 rfl (Or.inr ⟨by decide +kernel, rfl⟩) ?_
    refine mj_all_cons 252 rfl (trivial) ?_
    refine mj_all_cons 253 rfl (show _ = _ from by decide +kernel) ?_
    refine mj_all_cons 254 rfl (trivial) ?_
    refine mj_all_cons 255 rfl (trivial) ?_
    refine mj_all_cons 256 rfl (Or.inl ⟨0, by decide +kernel, rfl, rfl⟩) ?_
    refine mj_all_cons 257 rfl (Or.inl ⟨by decide +kernel, rfl⟩) ?_
    refine mj_all_cons 258 rfl (Or.inl ⟨0, by decide +kernel, rfl, rfl⟩) ?_
    refine mj_all_cons 259 rfl (⟨54, "ListSpeakerModel", mjF9, 46, by decide +kernel, rfl, by decide, mw_1000, mjw9⟩) ?_
    refine mj_all_cons 260 rfl (trivial) ?_
    refine mj_all_cons 261 rfl (trivial) ?_
    refine mj_all_cons 262 rfl (Or.inr ⟨by decide +kernel, rfl⟩) ?_
    refine mj_all_cons 263 rfl (trivial) ?_
    refine mj_all_cons 264 rfl (show _ = _ from by decide +kernel) ?_
    refine mj_all_cons 265 rfl (Or.inl ⟨by decide +kernel, rfl⟩) ?_
    refine mj_all_cons 266 rfl (Or.inl ⟨by decide +kernel, rfl⟩) ?_
    refine mj_all_cons 267 rfl (⟨mjmM24, 183, 4, rfl, by decide, mjmd24, mw_16, Or.inl ⟨9, mjF9, 46, by decide +kernel, rfl, rfl, rfl, mw_1239, mw_1241, mjsel_83⟩⟩) ?_
    refine mj_all_cons 268 rfl (trivial) ?_
    refine mj_all_cons 269 rfl (trivial) ?_
    refine mj_all_cons 270 rfl (show _ = _ from by decide +kernel) ?_
    exact trivial
  intro pc o ho
  have := mj_all_get _ 0 h pc o ho
  rw [Nat.zero_add] at this
  exact this
set_option maxRecDepth 100000 in
theorem mjmi48 : ∀ (pc : Nat) (o : mj_O), mjmo48[pc]? = some o → mj_is mj_kl mjmM48.1.cls mj_WS mj_NWs mjm_Ms mjmM48.2.1 pc o := by
  have h : mj_all (mj_is mj_kl mjmM48.1.cls mj_WS mj_NWs mjm_Ms mjmM48.2.1) 0 mjmo48 := by
    unfold mjmo48
    refine mj_all_cons 1 rfl (Or.inl ⟨0, by decide +kernel, rfl, rfl⟩) ?_
    refine mj_all_cons 2 rfl (⟨294, "ListSpeakerModel", mjF9, 46, by decide +kernel, rfl, by decide, mw_987, mjw9⟩) ?_
    refine mj_all_cons 3 rfl (trivial) ?_
    refine mj_all_cons 4 rfl (trivial) ?_
    refine mj_all_cons 5 rfl (Or.inl ⟨0, by decide +kernel, rfl, rfl⟩) ?_
    refine mj_all_cons 6 rfl (⟨84, "ListSpeakerModel", mjF9, 46, by decide +kernel, rfl, by decide, mw_975, mjw9⟩) ?_
    refine mj_all_cons 7 rfl (trivial) ?_
    refine mj_all_cons 8 rfl (trivial) ?_
    refine mj_all_cons 9 rfl (show _ = _ from by decide +kernel) ?_
    refine mj_all_cons 10 rfl (trivial) ?_
    refine mj_all_cons 11 rfl (trivial) ?_
    refine mj_all_cons 12 rfl (Or.inl ⟨0, by decide +kernel, rfl, rfl⟩) ?_
    refine mj_all_cons 13 rfl (⟨mjmM49, 297, 0, rfl, by decide, mjmd49, mw_16, Or.inl ⟨9, mjF9, 46, by decide +kernel, rfl, rfl, rfl, mw_1311, mw_1313, mjsel_101⟩⟩) ?_
    refine mj_all_cons 14 rfl (trivial) ?_
    refine mj_all_cons 15 rfl (trivial) ?_
    refine mj_all_cons 16 rfl (Or.inl ⟨0, by decide +kernel, rfl, rfl⟩) ?_
    refine mj_all_cons 17 rfl (⟨294, "ListSpeakerModel", mjF9, 46, by decide +kernel, rfl, by decide, mw_987, mjw9⟩) ?_
    refine mj_all_cons 18 rfl (trivial) ?_
    refine mj_all_cons 19 rfl (trivial) ?_
    refine mj_all_cons 20 rfl (Or.inl ⟨0, by decide +kernel, rfl, rfl⟩) ?_
    refine mj_all_cons 21 rfl (⟨84, "ListSpeakerModel", mjF9, 46, by decide +kernel, rfl, by decide, mw_975, mjw9⟩) ?_
    refine mj_all_cons 22 rfl (trivial) ?_
    refine mj_all_cons 23 rfl (trivial) ?_
    refine mj_all_cons 24 rfl (show _ = _ from by decide +kernel) ?_
    refine mj_all_cons 25 rfl (trivial) ?_
    refine mj_all_cons 26 rfl (trivial) ?_
    refine mj_all_cons 27 rfl (Or.inl ⟨0, by decide +kernel, rfl, rfl⟩) ?_
    refine mj_all_cons 28 rfl (Or.inr (Or.inl ⟨by decide +kernel, rfl, by decide⟩)) ?_
    refine mj_all_cons 29 rfl (trivial) ?_
    refine mj_all_cons 30 rfl (⟨mjmM2, 138, 1, rfl, by decide, mjmd2, mw_16, Or.inl ⟨9, mjF9, 46, by decide +kernel, rfl, rfl, rfl, mw_1146, mw_1148, mjsel_65⟩⟩) ?_
    refine mj_all_cons 31 rfl (trivial) ?_
    refine mj_all_cons 32 rfl (trivial) ?_
    refine mj_all_cons 33 rfl (show _ = _ from by decide +kernel) ?_
    refine mj_all_cons 34 rfl (show _ = _ from by decide +kernel) ?_
    refine mj_all_cons 35 rfl (Or.inl ⟨by decide +kernel, rfl⟩) ?_
    refine mj_all_cons 36 rfl (Or.inl ⟨1, by decide +kernel, rfl, rfl⟩) ?_
    refine mj_all_cons 37 rfl (Or.inl ⟨0, by decide +kernel, rfl, rfl⟩) ?_
    refine mj_all_cons 38 rfl (⟨26, "ListSpeakerModel", mjF9, 46, by decide +kernel, rfl, by decide, mw_989, mjw9⟩) ?_
    refine mj_all_cons 39 rfl (trivial) ?_
    refine mj_all_cons 40 rfl (trivial) ?_
    refine mj_all_cons 41 rfl (Or.inl ⟨1, by decide +kernel, rfl, rfl⟩) ?_
    refine mj_all_cons 42 rfl (show _ = _ from by decide +kernel) ?_
    refine mj_all_cons 43 rfl (show _ = _ from by decide +kernel) ?_
    refine mj_all_cons 44 rfl (trivial) ?_
    refine mj_all_cons 45 rfl (trivial) ?_
    refine mj_all_cons 46 rfl (show _ = _ from by decide +kernel) ?_
    refine mj_all_cons 47 rfl (trivial) ?_
    refine mj_all_cons 48 rfl (trivial) ?_
    refine mj_all_cons 49 rfl (show _ = _ from by decide +kernel) ?_
    refine mj_all_cons 50 rfl (trivial) ?_
    refine mj_all_cons 51 rfl (trivial) ?_
    refine mj_all_cons 52 rfl (Or.inl ⟨0, by decide +kernel, rfl, rfl⟩) ?_
    refine mj_all_cons 53 rfl (⟨26, "ListSpeakerModel", mjF9, 46, by decide +kernel, rfl, by decide, mw_989, mjw9⟩) ?_
    refine mj_all_cons 54 rfl (trivial) ?_
    refine mj_all_cons 55 rfl (trivial) ?_
    refine mj_all_cons 56 rfl (Or.inl ⟨1, by decide +kernel, rfl, rfl⟩) ?_
    refine mj_all_cons 57 rfl (Or.inl ⟨by decide +kernel, rfl⟩) ?_
    refine mj_all_cons 58 rfl (show _ = _ from by decide +kernel) ?_
    refine mj_all_cons 59 rfl (Or.inl ⟨0, by decide +kernel, rfl, rfl⟩) ?_
    refine mj_all_cons 60 rfl (show _ = _ from by decide +kernel) ?_
    refine mj_all_cons 61 rfl (⟨294, "ListSpeakerModel", mjF9, 46, by decide +kernel, rfl, by decide, mw_987, mjw9⟩) ?_
    refine mj_all_cons 62 rfl (trivial) ?_
    refine mj_all_cons 63 rfl (trivial) ?_
    refine mj_all_cons 64 rfl (Or.inl ⟨by decide +kernel, rfl⟩) ?_
    refine mj_all_cons 65 rfl (show _ = _ from by decide +kernel) ?_
    refine mj_all_cons 66 rfl (⟨294, "ListSpeakerModel", mjF9, 46, mjt9, by decide +kernel, rfl, by decide, mw_987, mjw9, mjk9, mjn9, rfl, by decide +kernel⟩) ?_
    refine mj_all_cons 67 rfl (trivial) ?_
    refine mj_all_cons 68 rfl (trivial) ?_
    refine mj_all_cons 69 rfl (Or.inl ⟨0, by decide +kernel, rfl, rfl⟩) ?_
    refine mj_all_cons 70 rfl (⟨23, "ListSpeakerModel", mjF9, 46, by decide +kernel, rfl, by decide, mw_985, mjw9⟩) ?_
    refine mj_all_cons 71 rfl (trivial) ?_
    refine mj_all_cons 72 rfl (trivial) ?_
    refine mj_all_cons 73 rfl (Or.inr (Or.inr (Or.inl ⟨by decide +kernel, rfl, by decide⟩))) ?_
    refine mj_all_cons 74 rfl (trivial) ?_
    refine mj_all_cons 75 rfl (trivial) ?_
    refine mj_all_cons 76 rfl (Or.inl ⟨1, by decide +kernel, rfl, rfl⟩) ?_
    refine mj_all_cons 77 rfl (show _ = _ from by decide +kernel) ?_
    refine mj_all_cons 78 rfl (Or.inl ⟨0, by decide +kernel, rfl, rfl⟩) ?_
    refine mj_all_cons 79 rfl (⟨mjmM39, 259, 0, rfl, by decide, mjmd39, mw_16, Or.inl ⟨9, mjF9, 46, by decide +kernel, rfl, rfl, rfl, mw_1295, mw_1297, mjsel_97⟩⟩) ?_
    refine mj_all_cons 80 rfl (trivial) ?_
    refine mj_all_cons 81 rfl (trivial) ?_
    refine mj_all_cons 82 rfl (show _ = _ from by decide +kernel) ?_
    refine mj_all_cons 83 rfl (Or.inl ⟨0, by decide +kernel, rfl, rfl⟩) ?_
    refine mj_all_cons 84 rfl (⟨20, "ListSpeakerModel", mjF9, 46, by decide +kernel, rfl, by decide, mw_984, mjw9⟩) ?_
    refine mj_all_cons 85 rfl (trivial) ?_
    refine mj_all_cons 86 rfl (trivial) ?_
    refine mj_all_cons 87 rfl (Or.inr (Or.inr (Or.inl ⟨by decide +kernel, rfl, by decide⟩))) ?_
    refine mj_all_cons 88 rfl (trivial) ?_
    refine mj_all_cons 89 rfl (trivial) ?_
    refine mj_all_cons 90 rfl (Or.inl ⟨1, by decide +kernel, rfl, rfl⟩) ?_
    refine mj_all_cons 91 rfl (show _ = _ from by decide +kernel) ?_
    refine mj_all_cons 92 rfl (Or.inl ⟨0, by decide +kernel, rfl, rfl⟩) ?_
    refine mj_all_cons 93 rfl (⟨mjmM39, 259, 0, rfl, by decide, mjmd39, mw_16, Or.inl ⟨9, mjF9, 46, by decide +kernel, rfl, rfl, rfl, mw_1295, mw_1297, mjsel_97⟩⟩) ?_
    refine mj_all_cons 94 rfl (trivial) ?_
    refine mj_all_cons 95 rfl (trivial) ?_
    refine mj_all_cons 96 rfl (show _ = _ from by decide +kernel) ?_
    refine mj_all_cons 97 rfl (Or.inl ⟨0, by decide +kernel, rfl, rfl⟩) ?_
    refine mj_all_cons 98 rfl (Or.inr (Or.inr (Or.inr (Or.inr ⟨300, by decide +kernel, rfl, mw_1319⟩)))) ?_
    refine mj_all_cons 99 rfl (trivial) ?_
    refine mj_all_cons 100 rfl (trivial) ?_
    refine mj_all_cons 101 rfl (Or.inl ⟨1, by decide +kernel, rfl, rfl⟩) ?_
    refine mj_all_cons 102 rfl (show _ = _ from by decide +kernel) ?_
    refine mj_all_cons 103 rfl (⟨mjmM38, 273, 1, rfl, by decide, mjmd38, mw_16, Or.inl ⟨9, mjF9, 46, by decide +kernel, rfl, rfl, rfl, mw_1287, mw_1289, mjsel_95⟩⟩) ?_
    refine mj_all_cons 104 rfl (trivial) ?_
    refine mj_all_cons 105 rfl (trivial) ?_
    refine mj_all_cons 106 rfl (show _ = _ from by decide +kernel) ?_
    exact trivial
  intro pc o ho
  have := mj_all_get _ 0 h pc o ho
  rw [Nat.zero_add] at this
  exact this
