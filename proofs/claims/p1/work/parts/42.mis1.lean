set_option maxRecDepth 100000 in
theorem mjmi18 : ∀ (pc : Nat) (o : mj_O), mjmo18[pc]? = some o → mj_is mj_kl mjmM18.1.cls mj_WS mj_NWs mjm_Ms mjmM18.2.1 pc o := by
  have h : mj_all (mj_is mj_kl mjmM18.1.cls mj_WS mj_NWs mjm_Ms mjmM18.2.1) 0 mjmo18 := by
    unfold mjmo18
    refine mj_all_cons 1 rfl (Or.inl ⟨0, by decide +kernel, rfl, rfl⟩) ?_
    refine mj_all_cons 2 rfl (⟨145, "ListSpeakerModel", mjF9, 46, by decide +kernel, rfl, by decide, mw_986, mjw9⟩) ?_
    refine mj_all_cons 3 rfl (trivial) ?_
    refine mj_all_cons 4 rfl (trivial) ?_
    refine mj_all_cons 5 rfl (Or.inr (Or.inr (Or.inl ⟨by decide +kernel, rfl, by decide⟩))) ?_
    refine mj_all_cons 6 rfl (trivial) ?_
    refine mj_all_cons 7 rfl (trivial) ?_
    refine mj_all_cons 8 rfl (show _ = _ from by decide +kernel) ?_
    refine mj_all_cons 9 rfl (trivial) ?_
    refine mj_all_cons 10 rfl (trivial) ?_
    refine mj_all_cons 11 rfl (Or.inl ⟨0, by decide +kernel, rfl, rfl⟩) ?_
    refine mj_all_cons 12 rfl (Or.inr (Or.inl ⟨by decide +kernel, rfl, by decide⟩)) ?_
    refine mj_all_cons 13 rfl (trivial) ?_
    refine mj_all_cons 14 rfl (⟨mjmM2, 138, 1, rfl, by decide, mjmd2, mw_16, Or.inl ⟨9, mjF9, 46, by decide +kernel, rfl, rfl, rfl, mw_1146, mw_1148, mjsel_65⟩⟩) ?_
    refine mj_all_cons 15 rfl (trivial) ?_
    refine mj_all_cons 16 rfl (trivial) ?_
    refine mj_all_cons 17 rfl (show _ = _ from by decide +kernel) ?_
    refine mj_all_cons 18 rfl (Or.inl ⟨0, by decide +kernel, rfl, rfl⟩) ?_
    refine mj_all_cons 19 rfl (⟨20, "ListSpeakerModel", mjF9, 46, by decide +kernel, rfl, by decide, mw_984, mjw9⟩) ?_
    refine mj_all_cons 20 rfl (trivial) ?_
    refine mj_all_cons 21 rfl (trivial) ?_
    refine mj_all_cons 22 rfl (Or.inl ⟨0, by decide +kernel, rfl, rfl⟩) ?_
    refine mj_all_cons 23 rfl (⟨145, "ListSpeakerModel", mjF9, 46, by decide +kernel, rfl, by decide, mw_986, mjw9⟩) ?_
    refine mj_all_cons 24 rfl (trivial) ?_
    refine mj_all_cons 25 rfl (trivial) ?_
    refine mj_all_cons 26 rfl (Or.inl ⟨1, by decide +kernel, rfl, rfl⟩) ?_
    refine mj_all_cons 27 rfl (show _ = _ from by decide +kernel) ?_
    refine mj_all_cons 28 rfl (Or.inl ⟨0, by decide +kernel, rfl, rfl⟩) ?_
    refine mj_all_cons 29 rfl (⟨23, "ListSpeakerModel", mjF9, 46, by decide +kernel, rfl, by decide, mw_985, mjw9⟩) ?_
    refine mj_all_cons 30 rfl (trivial) ?_
    refine mj_all_cons 31 rfl (trivial) ?_
    refine mj_all_cons 32 rfl (Or.inl ⟨0, by decide +kernel, rfl, rfl⟩) ?_
    refine mj_all_cons 33 rfl (⟨145, "ListSpeakerModel", mjF9, 46, by decide +kernel, rfl, by decide, mw_986, mjw9⟩) ?_
    refine mj_all_cons 34 rfl (trivial) ?_
    refine mj_all_cons 35 rfl (trivial) ?_
    refine mj_all_cons 36 rfl (Or.inl ⟨2, by decide +kernel, rfl, rfl⟩) ?_
    refine mj_all_cons 37 rfl (show _ = _ from by decide +kernel) ?_
    refine mj_all_cons 38 rfl (Or.inl ⟨0, by decide +kernel, rfl, rfl⟩) ?_
    refine mj_all_cons 39 rfl (show _ = _ from by decide +kernel) ?_
    refine mj_all_cons 40 rfl (⟨145, "ListSpeakerModel", mjF9, 46, by decide +kernel, rfl, by decide, mw_986, mjw9⟩) ?_
    refine mj_all_cons 41 rfl (trivial) ?_
    refine mj_all_cons 42 rfl (trivial) ?_
    refine mj_all_cons 43 rfl (Or.inl ⟨by decide +kernel, rfl⟩) ?_
    refine mj_all_cons 44 rfl (show _ = _ from by decide +kernel) ?_
    refine mj_all_cons 45 rfl (⟨145, "ListSpeakerModel", mjF9, 46, mjt9, by decide +kernel, rfl, by decide, mw_986, mjw9, mjk9, mjn9, rfl, by decide +kernel⟩) ?_
    refine mj_all_cons 46 rfl (trivial) ?_
    refine mj_all_cons 47 rfl (trivial) ?_
    refine mj_all_cons 48 rfl (Or.inr (Or.inr (Or.inr (Or.inl ⟨102, by decide +kernel, rfl, mw_1192⟩)))) ?_
    refine mj_all_cons 49 rfl (trivial) ?_
    refine mj_all_cons 50 rfl (Or.inl ⟨0, by decide +kernel, rfl, rfl⟩) ?_
    refine mj_all_cons 51 rfl (⟨145, "ListSpeakerModel", mjF9, 46, by decide +kernel, rfl, by decide, mw_986, mjw9⟩) ?_
    refine mj_all_cons 52 rfl (trivial) ?_
    refine mj_all_cons 53 rfl (trivial) ?_
    refine mj_all_cons 54 rfl (show _ = _ from by decide +kernel) ?_
    refine mj_all_cons 55 rfl (Or.inl ⟨by decide +kernel, rfl⟩) ?_
    refine mj_all_cons 56 rfl (show _ = _ from by decide +kernel) ?_
    refine mj_all_cons 57 rfl (show _ = _ from by decide +kernel) ?_
    exact trivial
  intro pc o ho
  have := mj_all_get _ 0 h pc o ho
  rw [Nat.zero_add] at this
  exact this
set_option maxRecDepth 100000 in
theorem mjmi19 : ∀ (pc : Nat) (o : mj_O), mjmo19[pc]? = some o → mj_is mj_kl mjmM19.1.cls mj_WS mj_NWs mjm_Ms mjmM19.2.1 pc o := by
  have h : mj_all (mj_is mj_kl mjmM19.1.cls mj_WS mj_NWs mjm_Ms mjmM19.2.1) 0 mjmo19 := by
    unfold mjmo19
    refine mj_all_cons 1 rfl (Or.inl ⟨0, by decide +kernel, rfl, rfl⟩) ?_
    refine mj_all_cons 2 rfl (⟨36, "ListSpeakerModel", mjF9, 46, by decide +kernel, rfl, by decide, mw_993, mjw9⟩) ?_
    refine mj_all_cons 3 rfl (trivial) ?_
    refine mj_all_cons 4 rfl (trivial) ?_
    refine mj_all_cons 5 rfl (Or.inl ⟨0, by decide +kernel, rfl, rfl⟩) ?_
    refine mj_all_cons 6 rfl (⟨148, "ListSpeakerModel", mjF9, 46, by decide +kernel, rfl, by decide, mw_992, mjw9⟩) ?_
    refine mj_all_cons 7 rfl (trivial) ?_
    refine mj_all_cons 8 rfl (trivial) ?_
    refine mj_all_cons 9 rfl (Or.inl ⟨1, by decide +kernel, rfl, rfl⟩) ?_
    refine mj_all_cons 10 rfl (show _ = _ from by decide +kernel) ?_
    refine mj_all_cons 11 rfl (Or.inl ⟨0, by decide +kernel, rfl, rfl⟩) ?_
    refine mj_all_cons 12 rfl (⟨39, "ListSpeakerModel", mjF9, 46, by decide +kernel, rfl, by decide, mw_994, mjw9⟩) ?_
    refine mj_all_cons 13 rfl (trivial) ?_
    refine mj_all_cons 14 rfl (trivial) ?_
    refine mj_all_cons 15 rfl (Or.inl ⟨0, by decide +kernel, rfl, rfl⟩) ?_
    refine mj_all_cons 16 rfl (⟨148, "ListSpeakerModel", mjF9, 46, by decide +kernel, rfl, by decide, mw_992, mjw9⟩) ?_
    refine mj_all_cons 17 rfl (trivial) ?_
    refine mj_all_cons 18 rfl (trivial) ?_
    refine mj_all_cons 19 rfl (Or.inr (Or.inr (Or.inr (Or.inl ⟨101, by decide +kernel, rfl, mw_1150⟩)))) ?_
    refine mj_all_cons 20 rfl (trivial) ?_
    refine mj_all_cons 21 rfl (show _ = _ from by decide +kernel) ?_
    refine mj_all_cons 22 rfl (Or.inl ⟨0, by decide +kernel, rfl, rfl⟩) ?_
    refine mj_all_cons 23 rfl (⟨42, "ListSpeakerModel", mjF9, 46, by decide +kernel, rfl, by decide, mw_995, mjw9⟩) ?_
    refine mj_all_cons 24 rfl (trivial) ?_
    refine mj_all_cons 25 rfl (trivial) ?_
    refine mj_all_cons 26 rfl (Or.inl ⟨0, by decide +kernel, rfl, rfl⟩) ?_
    refine mj_all_cons 27 rfl (⟨148, "ListSpeakerModel", mjF9, 46, by decide +kernel, rfl, by decide, mw_992, mjw9⟩) ?_
    refine mj_all_cons 28 rfl (trivial) ?_
    refine mj_all_cons 29 rfl (trivial) ?_
    refine mj_all_cons 30 rfl (Or.inr (Or.inr (Or.inr (Or.inl ⟨101, by decide +kernel, rfl, mw_1150⟩)))) ?_
    refine mj_all_cons 31 rfl (trivial) ?_
    refine mj_all_cons 32 rfl (show _ = _ from by decide +kernel) ?_
    refine mj_all_cons 33 rfl (Or.inl ⟨0, by decide +kernel, rfl, rfl⟩) ?_
    refine mj_all_cons 34 rfl (⟨45, "ListSpeakerModel", mjF9, 46, by decide +kernel, rfl, by decide, mw_996, mjw9⟩) ?_
    refine mj_all_cons 35 rfl (trivial) ?_
    refine mj_all_cons 36 rfl (trivial) ?_
    refine mj_all_cons 37 rfl (Or.inl ⟨0, by decide +kernel, rfl, rfl⟩) ?_
    refine mj_all_cons 38 rfl (⟨148, "ListSpeakerModel", mjF9, 46, by decide +kernel, rfl, by decide, mw_992, mjw9⟩) ?_
    refine mj_all_cons 39 rfl (trivial) ?_
    refine mj_all_cons 40 rfl (trivial) ?_
    refine mj_all_cons 41 rfl (Or.inl ⟨by decide +kernel, rfl⟩) ?_
    refine mj_all_cons 42 rfl (show _ = _ from by decide +kernel) ?_
    refine mj_all_cons 43 rfl (Or.inl ⟨0, by decide +kernel, rfl, rfl⟩) ?_
    refine mj_all_cons 44 rfl (show _ = _ from by decide +kernel) ?_
    refine mj_all_cons 45 rfl (⟨148, "ListSpeakerModel", mjF9, 46, by decide +kernel, rfl, by decide, mw_992, mjw9⟩) ?_
    refine mj_all_cons 46 rfl (trivial) ?_
    refine mj_all_cons 47 rfl (trivial) ?_
    refine mj_all_cons 48 rfl (Or.inl ⟨by decide +kernel, rfl⟩) ?_
    refine mj_all_cons 49 rfl (show _ = _ from by decide +kernel) ?_
    refine mj_all_cons 50 rfl (⟨148, "ListSpeakerModel", mjF9, 46, mjt9, by decide +kernel, rfl, by decide, mw_992, mjw9, mjk9, mjn9, rfl, by decide +kernel⟩) ?_
    refine mj_all_cons 51 rfl (trivial) ?_
    refine mj_all_cons 52 rfl (trivial) ?_
    refine mj_all_cons 53 rfl (Or.inl ⟨0, by decide +kernel, rfl, rfl⟩) ?_
    refine mj_all_cons 54 rfl (show _ = _ from by decide +kernel) ?_
    refine mj_all_cons 55 rfl (⟨116, "ListSpeakerModel", mjF9, 46, by decide +kernel, rfl, by decide, mw_979, mjw9⟩) ?_
    refine mj_all_cons 56 rfl (trivial) ?_
    refine mj_all_cons 57 rfl (trivial) ?_
    refine mj_all_cons 58 rfl (Or.inl ⟨by decide +kernel, rfl⟩) ?_
    refine mj_all_cons 59 rfl (show _ = _ from by decide +kernel) ?_
    refine mj_all_cons 60 rfl (⟨116, "ListSpeakerModel", mjF9, 46, mjt9, by decide +kernel, rfl, by decide, mw_979, mjw9, mjk9, mjn9, rfl, by decide +kernel⟩) ?_
    refine mj_all_cons 61 rfl (trivial) ?_
    refine mj_all_cons 62 rfl (trivial) ?_
    refine mj_all_cons 63 rfl (show _ = _ from by decide +kernel) ?_
    exact trivial
  intro pc o ho
  have := mj_all_get _ 0 h pc o ho
  rw [Nat.zero_add] at this
  exact this
set_option maxRecDepth 100000 in
theorem mjmi20 : ∀ (pc : Nat) (o : mj_O), mjmo20[pc]? = some o → mj_is mj_kl mjmM20.1.cls mj_WS mj_NWs mjm_Ms mjmM20.2.1 pc o := by
  have h : mj_all (mj_is mj_kl mjmM20.1.cls mj_WS mj_NWs mjm_Ms mjmM20.2.1) 0 mjmo20 := by
    unfold mjmo20
    refine mj_all_cons 1 rfl (Or.inl ⟨0, by decide +kernel, rfl, rfl⟩) ?_
    refine mj_all_cons 2 rfl (Or.inl ⟨by decide +kernel, rfl⟩) ?_
    refine mj_all_cons 3 rfl (⟨148, "ListSpeakerModel", mjF9, 46, mjt9, by decide +kernel, rfl, by decide, mw_992, mjw9, mjk9, mjn9, rfl, by decide +kernel⟩) ?_
    refine mj_all_cons 4 rfl (trivial) ?_
    refine mj_all_cons 5 rfl (trivial) ?_
    refine mj_all_cons 6 rfl (Or.inl ⟨0, by decide +kernel, rfl, rfl⟩) ?_
    refine mj_all_cons 7 rfl (⟨98, "ListSpeakerModel", mjF9, 46, by decide +kernel, rfl, by decide, mw_980, mjw9⟩) ?_
    refine mj_all_cons 8 rfl (trivial) ?_
    refine mj_all_cons 9 rfl (trivial) ?_
    refine mj_all_cons 10 rfl (show _ = _ from by decide +kernel) ?_
    refine mj_all_cons 11 rfl (trivial) ?_
    refine mj_all_cons 12 rfl (trivial) ?_
    refine mj_all_cons 13 rfl (Or.inl ⟨0, by decide +kernel, rfl, rfl⟩) ?_
    refine mj_all_cons 14 rfl (⟨mjmM12, 151, 0, rfl, by decide, mjmd12, mw_16, Or.inl ⟨9, mjF9, 46, by decide +kernel, rfl, rfl, rfl, mw_1130, mw_1132, mjsel_61⟩⟩) ?_
    refine mj_all_cons 15 rfl (trivial) ?_
    refine mj_all_cons 16 rfl (trivial) ?_
    refine mj_all_cons 17 rfl (Or.inl ⟨0, by decide +kernel, rfl, rfl⟩) ?_
    refine mj_all_cons 18 rfl (⟨mjmM11, 119, 0, rfl, by decide, mjmd11, mw_16, Or.inl ⟨9, mjF9, 46, by decide +kernel, rfl, rfl, rfl, mw_1134, mw_1136, mjsel_62⟩⟩) ?_
    refine mj_all_cons 19 rfl (trivial) ?_
    refine mj_all_cons 20 rfl (trivial) ?_
    refine mj_all_cons 21 rfl (Or.inl ⟨1, by decide +kernel, rfl, rfl⟩) ?_
    refine mj_all_cons 22 rfl (Or.inr (Or.inl ⟨by decide +kernel, rfl, by decide⟩)) ?_
    refine mj_all_cons 23 rfl (trivial) ?_
    refine mj_all_cons 24 rfl (Or.inl ⟨2, by decide +kernel, rfl, rfl⟩) ?_
    refine mj_all_cons 25 rfl (Or.inl ⟨1, by decide +kernel, rfl, rfl⟩) ?_
    refine mj_all_cons 26 rfl (show _ = _ from by decide +kernel) ?_
    refine mj_all_cons 27 rfl (trivial) ?_
    refine mj_all_cons 28 rfl (trivial) ?_
    refine mj_all_cons 29 rfl (Or.inl ⟨0, by decide +kernel, rfl, rfl⟩) ?_
    refine mj_all_cons 30 rfl (Or.inl ⟨by decide +kernel, rfl⟩) ?_
    refine mj_all_cons 31 rfl (⟨mjmM2, 138, 1, rfl, by decide, mjmd2, mw_16, Or.inl ⟨9, mjF9, 46, by decide +kernel, rfl, rfl, rfl, mw_1146, mw_1148, mjsel_65⟩⟩) ?_
    refine mj_all_cons 32 rfl (trivial) ?_
    refine mj_all_cons 33 rfl (trivial) ?_
    refine mj_all_cons 34 rfl (show _ = _ from by decide +kernel) ?_
    refine mj_all_cons 35 rfl (show _ = _ from by decide +kernel) ?_
    refine mj_all_cons 36 rfl (trivial) ?_
    refine mj_all_cons 37 rfl (trivial) ?_
    refine mj_all_cons 38 rfl (Or.inl ⟨1, by decide +kernel, rfl, rfl⟩) ?_
    refine mj_all_cons 39 rfl (Or.inr (Or.inl ⟨by decide +kernel, rfl, by decide⟩)) ?_
    refine mj_all_cons 40 rfl (trivial) ?_
    refine mj_all_cons 41 rfl (show _ = _ from by decide +kernel) ?_
    refine mj_all_cons 42 rfl (trivial) ?_
    refine mj_all_cons 43 rfl (trivial) ?_
    refine mj_all_cons 44 rfl (Or.inl ⟨0, by decide +kernel, rfl, rfl⟩) ?_
    refine mj_all_cons 45 rfl (⟨mjmM22, 154, 0, rfl, by decide, mjmd22, mw_16, Or.inl ⟨9, mjF9, 46, by decide +kernel, rfl, rfl, rfl, mw_1151, mw_1153, mjsel_66⟩⟩) ?_
    refine mj_all_cons 46 rfl (trivial) ?_
    refine mj_all_cons 47 rfl (trivial) ?_
    refine mj_all_cons 48 rfl (Or.inl ⟨2, by decide +kernel, rfl, rfl⟩) ?_
    refine mj_all_cons 49 rfl (show _ = _ from by decide +kernel) ?_
    refine mj_all_cons 50 rfl (trivial) ?_
    refine mj_all_cons 51 rfl (trivial) ?_
    refine mj_all_cons 52 rfl (Or.inl ⟨0, by decide +kernel, rfl, rfl⟩) ?_
    refine mj_all_cons 53 rfl (⟨148, "ListSpeakerModel", mjF9, 46, by decide +kernel, rfl, by decide, mw_992, mjw9⟩) ?_
    refine mj_all_cons 54 rfl (trivial) ?_
    refine mj_all_cons 55 rfl (trivial) ?_
    refine mj_all_cons 56 rfl (show _ = _ from by decide +kernel) ?_
    refine mj_all_cons 57 rfl (trivial) ?_
    refine mj_all_cons 58 rfl (trivial) ?_
    refine mj_all_cons 59 rfl (Or.inl ⟨0, by decide +kernel, rfl, rfl⟩) ?_
    refine mj_all_cons 60 rfl (⟨45, "ListSpeakerModel", mjF9, 46, by decide +kernel, rfl, by decide, mw_996, mjw9⟩) ?_
    refine mj_all_cons 61 rfl (trivial) ?_
    refine mj_all_cons 62 rfl (trivial) ?_
    refine mj_all_cons 63 rfl (Or.inl ⟨0, by decide +kernel, rfl, rfl⟩) ?_
    refine mj_all_cons 64 rfl (⟨148, "ListSpeakerModel", mjF9, 46, by decide +kernel, rfl, by decide, mw_992, mjw9⟩) ?_
    refine mj_all_cons 65 rfl (trivial) ?_
    refine mj_all_cons 66 rfl (trivial) ?_
    refine mj_all_cons 67 rfl (Or.inl ⟨by decide +kernel, rfl⟩) ?_
    refine mj_all_cons 68 rfl (show _ = _ from by decide +kernel) ?_
    refine mj_all_cons 69 rfl (show _ = _ from by decide +kernel) ?_
    refine mj_all_cons 70 rfl (Or.inl ⟨by decide +kernel, rfl⟩) ?_
    refine mj_all_cons 71 rfl (show _ = _ from by decide +kernel) ?_
    refine mj_all_cons 72 rfl (trivial) ?_
    refine mj_all_cons 73 rfl (trivial) ?_
    refine mj_all_cons 74 rfl (Or.inl ⟨0, by decide +kernel, rfl, rfl⟩) ?_
    refine mj_all_cons 75 rfl (Or.inl ⟨by decide +kernel, rfl⟩) ?_
    refine mj_all_cons 76 rfl (⟨mjmM2, 138, 1, rfl, by decide, mjmd2, mw_16, Or.inl ⟨9, mjF9, 46, by decide +kernel, rfl, rfl, rfl, mw_1146, mw_1148, mjsel_65⟩⟩) ?_
    refine mj_all_cons 77 rfl (trivial) ?_
    refine mj_all_cons 78 rfl (trivial) ?_
    refine mj_all_cons 79 rfl (show _ = _ from by decide +kernel) ?_
    refine mj_all_cons 80 rfl (show _ = _ from by decide +kernel) ?_
    refine mj_all_cons 81 rfl (trivial) ?_
    refine mj_all_cons 82 rfl (trivial) ?_
    refine mj_all_cons 83 rfl (Or.inl ⟨0, by decide +kernel, rfl, rfl⟩) ?_
    refine mj_all_cons 84 rfl (⟨148, "ListSpeakerModel", mjF9, 46, by decide +kernel, rfl, by decide, mw_992, mjw9⟩) ?_
    refine mj_all_cons 85 rfl (trivial) ?_
    refine mj_all_cons 86 rfl (trivial) ?_
    refine mj_all_cons 87 rfl (Or.inr (Or.inl ⟨by decide +kernel, rfl, by decide⟩)) ?_
    refine mj_all_cons 88 rfl (trivial) ?_
    refine mj_all_cons 89 rfl (show _ = _ from by decide +kernel) ?_
    refine mj_all_cons 90 rfl (trivial) ?_
    refine mj_all_cons 91 rfl (trivial) ?_
    refine mj_all_cons 92 rfl (Or.inl ⟨1, by decide +kernel, rfl, rfl⟩) ?_
    refine mj_all_cons 93 rfl (Or.inr (Or.inl ⟨by decide +kernel, rfl, by decide⟩)) ?_
    refine mj_all_cons 94 rfl (trivial) ?_
    refine mj_all_cons 95 rfl (show _ = _ from by decide +kernel) ?_
    refine mj_all_cons 96 rfl (trivial) ?_
    refine mj_all_cons 97 rfl (trivial) ?_
    refine mj_all_cons 98 rfl (Or.inl ⟨0, by decide +kernel, rfl, rfl⟩) ?_
    refine mj_all_cons 99 rfl (⟨mjmM21, 157, 0, rfl, by decide, mjmd21, mw_16, Or.inl ⟨9, mjF9, 46, by decide +kernel, rfl, rfl, rfl, mw_1155, mw_1157, mjsel_67⟩⟩) ?_
    refine mj_all_cons 100 rfl (trivial) ?_
    refine mj_all_cons 101 rfl (trivial) ?_
    refine mj_all_cons 102 rfl (show _ = _ from by decide +kernel) ?_
    refine mj_all_cons 103 rfl (trivial) ?_
    refine mj_all_cons 104 rfl (trivial) ?_
    refine mj_all_cons 105 rfl (Or.inl ⟨0, by decide +kernel, rfl, rfl⟩) ?_
    refine mj_all_cons 106 rfl (Or.inl ⟨by decide +kernel, rfl⟩) ?_
    refine mj_all_cons 107 rfl (⟨mjmM2, 138, 1, rfl, by decide, mjmd2, mw_16, Or.inl ⟨9, mjF9, 46, by decide +kernel, rfl, rfl, rfl, mw_1146, mw_1148, mjsel_65⟩⟩) ?_
    refine mj_all_cons 108 rfl (trivial) ?_
    refine mj_all_cons 109 rfl (trivial) ?_
    refine mj_all_cons 110 rfl (Or.inl ⟨2, by decide +kernel, rfl, rfl⟩) ?_
    refine mj_all_cons 111 rfl (show _ = _ from by decide +kernel) ?_
    refine mj_all_cons 112 rfl (trivial) ?_
    refine mj_all_cons 113 rfl (trivial) ?_
    refine mj_all_cons 114 rfl (Or.inl ⟨1, by decide +kernel, rfl, rfl⟩) ?_
    refine mj_all_cons 115 rfl (Or.inr (Or.inl ⟨by decide +kernel, rfl, by decide⟩)) ?_
    refine mj_all_cons 116 rfl (trivial) ?_
    refine mj_all_cons 117 rfl (show _ = _ from by decide +kernel) ?_
    refine mj_all_cons 118 rfl (trivial) ?_
    refine mj_all_cons 119 rfl (trivial) ?_
    refine mj_all_cons 120 rfl (Or.inl ⟨1, by decide +kernel, rfl, rfl⟩) ?_
    refine mj_all_cons 121 rfl (Or.inr (Or.inl ⟨by decide +kernel, rfl, by decide⟩)) ?_
    refine mj_all_cons 122 rfl (trivial) ?_
    refine mj_all_cons 123 rfl (show _ = _ from by decide +kernel) ?_
    refine mj_all_cons 124 rfl (trivial) ?_
    refine mj_all_cons 125 rfl (trivial) ?_
    refine mj_all_cons 126 rfl (Or.inl ⟨0, by decide +kernel, rfl, rfl⟩) ?_
    refine mj_all_cons 127 rfl (Or.inl ⟨1, by decide +kernel, rfl, rfl⟩) ?_
    refine mj_all_cons 128 rfl (Or.inr (Or.inl ⟨by decide +kernel, rfl, by decide⟩)) ?_
    refine mj_all_cons 129 rfl (trivial) ?_
    refine mj_all_cons 130 rfl (show _ = _ from by decide +kernel) ?_
    refine mj_all_cons 131 rfl (trivial) ?_
    refine mj_all_cons 132 rfl (trivial) ?_
    refine mj_all_cons 133 rfl (Or.inl ⟨by decide +kernel, rfl⟩) ?_
    refine mj_all_cons 134 rfl (show _ = _ from by decide +kernel) ?_
    refine mj_all_cons 135 rfl (trivial) ?_
    refine mj_all_cons 136 rfl (trivial) ?_
    refine mj_all_cons 137 rfl (Or.inl ⟨by decide +kernel, rfl⟩) ?_
    refine mj_all_cons 138 rfl (⟨mjmM19, 160, 1, rfl, by decide, mjmd19, mw_16, Or.inl ⟨9, mjF9, 46, by decide +kernel, rfl, rfl, rfl, mw_1180, mw_1182, mjsel_71⟩⟩) ?_
    refine mj_all_cons 139 rfl (trivial) ?_
    refine mj_all_cons 140 rfl (trivial) ?_
    refine mj_all_cons 141 rfl (show _ = _ from by decide +kernel) ?_
    refine mj_all_cons 142 rfl (trivial) ?_
    refine mj_all_cons 143 rfl (trivial) ?_
    refine mj_all_cons 144 rfl (Or.inl ⟨0, by decide +kernel, rfl, rfl⟩) ?_
    refine mj_all_cons 145 rfl (⟨mjmM16, 164, 0, rfl, by decide, mjmd16, mw_16, Or.inl ⟨9, mjF9, 46, by decide +kernel, rfl, rfl, rfl, mw_1159, mw_1161, mjsel_68⟩⟩) ?_
    refine mj_all_cons 146 rfl (trivial) ?_
    refine mj_all_cons 147 rfl (trivial) ?_
    refine mj_all_cons 148 rfl (Or.inl ⟨2, by decide +kernel, rfl, rfl⟩) ?_
    refine mj_all_cons 149 rfl (Or.inl ⟨2, by decide +kernel, rfl, rfl⟩) ?_
    refine mj_all_cons 150 rfl (Or.inl ⟨by decide +kernel, rfl⟩) ?_
    refine mj_all_cons 151 rfl (show _ = _ from by decide +kernel) ?_
    refine mj_all_cons 152 rfl (trivial) ?_
    refine mj_all_cons 153 rfl (trivial) ?_
    refine mj_all_cons 154 rfl (Or.inl ⟨0, by decide +kernel, rfl, rfl⟩) ?_
    refine mj_all_cons 155 rfl (⟨mjmM21, 157, 0, rfl, by decide, mjmd21, mw_16, Or.inl ⟨9, mjF9, 46, by decide +kernel, rfl, rfl, rfl, mw_1155, mw_1157, mjsel_67⟩⟩) ?_
    refine mj_all_cons 156 rfl (trivial) ?_
    refine mj_all_cons 157 rfl (trivial) ?_
    refine mj_all_cons 158 rfl (Or.inl ⟨2, by decide +kernel, rfl, rfl⟩) ?_
    refine mj_all_cons 159 rfl (Or.inl ⟨2, by decide +kernel, rfl, rfl⟩) ?_
    refine mj_all_cons 160 rfl (show _ = _ from by decide +kernel) ?_
    refine mj_all_cons 161 rfl (trivial) ?_
    refine mj_all_cons 162 rfl (trivial) ?_
    refine mj_all_cons 163 rfl (Or.inl ⟨0, by decide +kernel, rfl, rfl⟩) ?_
    refine mj_all_cons 164 rfl (⟨98, "ListSpeakerModel", mjF9, 46, by decide +kernel, rfl, by decide, mw_980, mjw9⟩) ?_
    refine mj_all_cons 165 rfl (trivial) ?_
    refine mj_all_cons 166 rfl (trivial) ?_
    refine mj_all_cons 167 rfl (show _ = _ from by decide +kernel) ?_
    refine mj_all_cons 168 rfl (trivial) ?_
    refine mj_all_cons 169 rfl (trivial) ?_
    refine mj_all_cons 170 rfl (Or.inl ⟨0, by decide +kernel, rfl, rfl⟩) ?_
    refine mj_all_cons 171 rfl (⟨148, "ListSpeakerModel", mjF9, 46, by decide +kernel, rfl, by decide, mw_992, mjw9⟩) ?_
    refine mj_all_cons 172 rfl (trivial) ?_
    refine mj_all_cons 173 rfl (trivial) ?_
    refine mj_all_cons 174 rfl (show _ = _ from by decide +kernel) ?_
    refine mj_all_cons 175 rfl (trivial) ?_
    refine mj_all_cons 176 rfl (trivial) ?_
    refine mj_all_cons 177 rfl (Or.inl ⟨2, by decide +kernel, rfl, rfl⟩) ?_
    refine mj_all_cons 178 rfl (show _ = _ from by decide +kernel) ?_
    refine mj_all_cons 179 rfl (Or.inl ⟨0, by decide +kernel, rfl, rfl⟩) ?_
    refine mj_all_cons 180 rfl (Or.inl ⟨2, by decide +kernel, rfl, rfl⟩) ?_
    refine mj_all_cons 181 rfl (⟨mjmM23, 167, 1, rfl, by decide, mjmd23, mw_16, Or.inl ⟨9, mjF9, 46, by decide +kernel, rfl, rfl, rfl, mw_1184, mw_1186, mjsel_72⟩⟩) ?_
    refine mj_all_cons 182 rfl (trivial) ?_
    refine mj_all_cons 183 rfl (trivial) ?_
    refine mj_all_cons 184 rfl (Or.inl ⟨2, by decide +kernel, rfl, rfl⟩) ?_
    refine mj_all_cons 185 rfl (show _ = _ from by decide +kernel) ?_
    refine mj_all_cons 186 rfl (trivial) ?_
    refine mj_all_cons 187 rfl (trivial) ?_
    refine mj_all_cons 188 rfl (show _ = _ from by decide +kernel) ?_
    refine mj_all_cons 189 rfl (trivial) ?_
    refine mj_all_cons 190 rfl (trivial) ?_
    refine mj_all_cons 191 rfl (Or.inr (Or.inr (Or.inr (Or.inl ⟨101, by decide +kernel, rfl, mw_1150⟩)))) ?_
    refine mj_all_cons 192 rfl (trivial) ?_
    refine mj_all_cons 193 rfl (show _ = _ from by decide +kernel) ?_
    exact trivial
  intro pc o ho
  have := mj_all_get _ 0 h pc o ho
  rw [Nat.zero_add] at this
  exact this
set_option maxRecDepth 100000 in
theorem mjmi21 : ∀ (pc : Nat) (o : mj_O), mjmo21[pc]? = some o → mj_is mj_kl mjmM21.1.cls mj_WS mj_NWs mjm_Ms mjmM21.2.1 pc o := by
  have h : mj_all (mj_is mj_kl mjmM21.1.cls mj_WS mj_NWs mjm_Ms mjmM21.2.1) 0 mjmo21 := by
    unfold mjmo21
    refine mj_all_cons 1 rfl (Or.inl ⟨0, by decide +kernel, rfl, rfl⟩) ?_
    refine mj_all_cons 2 rfl (⟨mjmM11, 119, 0, rfl, by decide, mjmd11, mw_16, Or.inl ⟨9, mjF9, 46, by decide +kernel, rfl, rfl, rfl, mw_1134, mw_1136, mjsel_62⟩⟩) ?_
    refine mj_all_cons 3 rfl (trivial) ?_
    refine mj_all_cons 4 rfl (trivial) ?_
    refine mj_all_cons 5 rfl (Or.inr (Or.inl ⟨by decide +kernel, rfl, by decide⟩)) ?_
    refine mj_all_cons 6 rfl (trivial) ?_
    refine mj_all_cons 7 rfl (show _ = _ from by decide +kernel) ?_
    refine mj_all_cons 8 rfl (trivial) ?_
    refine mj_all_cons 9 rfl (trivial) ?_
    refine mj_all_cons 10 rfl (Or.inl ⟨0, by decide +kernel, rfl, rfl⟩) ?_
    refine mj_all_cons 11 rfl (⟨mjmM16, 164, 0, rfl, by decide, mjmd16, mw_16, Or.inl ⟨9, mjF9, 46, by decide +kernel, rfl, rfl, rfl, mw_1159, mw_1161, mjsel_68⟩⟩) ?_
    refine mj_all_cons 12 rfl (trivial) ?_
    refine mj_all_cons 13 rfl (trivial) ?_
    refine mj_all_cons 14 rfl (show _ = _ from by decide +kernel) ?_
    refine mj_all_cons 15 rfl (Or.inl ⟨0, by decide +kernel, rfl, rfl⟩) ?_
    refine mj_all_cons 16 rfl (⟨148, "ListSpeakerModel", mjF9, 46, by decide +kernel, rfl, by decide, mw_992, mjw9⟩) ?_
    refine mj_all_cons 17 rfl (trivial) ?_
    refine mj_all_cons 18 rfl (trivial) ?_
    refine mj_all_cons 19 rfl (show _ = _ from by decide +kernel) ?_
    refine mj_all_cons 20 rfl (trivial) ?_
    refine mj_all_cons 21 rfl (trivial) ?_
    refine mj_all_cons 22 rfl (Or.inl ⟨0, by decide +kernel, rfl, rfl⟩) ?_
    refine mj_all_cons 23 rfl (⟨36, "ListSpeakerModel", mjF9, 46, by decide +kernel, rfl, by decide, mw_993, mjw9⟩) ?_
    refine mj_all_cons 24 rfl (trivial) ?_
    refine mj_all_cons 25 rfl (trivial) ?_
    refine mj_all_cons 26 rfl (Or.inl ⟨0, by decide +kernel, rfl, rfl⟩) ?_
    refine mj_all_cons 27 rfl (⟨148, "ListSpeakerModel", mjF9, 46, by decide +kernel, rfl, by decide, mw_992, mjw9⟩) ?_
    refine mj_all_cons 28 rfl (trivial) ?_
    refine mj_all_cons 29 rfl (trivial) ?_
    refine mj_all_cons 30 rfl (Or.inl ⟨by decide +kernel, rfl⟩) ?_
    refine mj_all_cons 31 rfl (show _ = _ from by decide +kernel) ?_
    refine mj_all_cons 32 rfl (show _ = _ from by decide +kernel) ?_
    refine mj_all_cons 33 rfl (show _ = _ from by decide +kernel) ?_
    refine mj_all_cons 34 rfl (trivial) ?_
    refine mj_all_cons 35 rfl (trivial) ?_
    refine mj_all_cons 36 rfl (Or.inl ⟨0, by decide +kernel, rfl, rfl⟩) ?_
    refine mj_all_cons 37 rfl (⟨42, "ListSpeakerModel", mjF9, 46, by decide +kernel, rfl, by decide, mw_995, mjw9⟩) ?_
    refine mj_all_cons 38 rfl (trivial) ?_
    refine mj_all_cons 39 rfl (trivial) ?_
    refine mj_all_cons 40 rfl (Or.inl ⟨0, by decide +kernel, rfl, rfl⟩) ?_
    refine mj_all_cons 41 rfl (⟨148, "ListSpeakerModel", mjF9, 46, by decide +kernel, rfl, by decide, mw_992, mjw9⟩) ?_
    refine mj_all_cons 42 rfl (trivial) ?_
    refine mj_all_cons 43 rfl (trivial) ?_
    refine mj_all_cons 44 rfl (Or.inl ⟨by decide +kernel, rfl⟩) ?_
    refine mj_all_cons 45 rfl (show _ = _ from by decide +kernel) ?_
    refine mj_all_cons 46 rfl (show _ = _ from by decide +kernel) ?_
    refine mj_all_cons 47 rfl (Or.inr (Or.inr (Or.inr (Or.inl ⟨101, by decide +kernel, rfl, mw_1150⟩)))) ?_
    refine mj_all_cons 48 rfl (trivial) ?_
    refine mj_all_cons 49 rfl (show _ = _ from by decide +kernel) ?_
    refine mj_all_cons 50 rfl (trivial) ?_
    refine mj_all_cons 51 rfl (trivial) ?_
    refine mj_all_cons 52 rfl (Or.inl ⟨0, by decide +kernel, rfl, rfl⟩) ?_
    refine mj_all_cons 53 rfl (⟨45, "ListSpeakerModel", mjF9, 46, by decide +kernel, rfl, by decide, mw_996, mjw9⟩) ?_
    refine mj_all_cons 54 rfl (trivial) ?_
    refine mj_all_cons 55 rfl (trivial) ?_
    refine mj_all_cons 56 rfl (Or.inl ⟨0, by decide +kernel, rfl, rfl⟩) ?_
    refine mj_all_cons 57 rfl (⟨148, "ListSpeakerModel", mjF9, 46, by decide +kernel, rfl, by decide, mw_992, mjw9⟩) ?_
    refine mj_all_cons 58 rfl (trivial) ?_
    refine mj_all_cons 59 rfl (trivial) ?_
    refine mj_all_cons 60 rfl (Or.inl ⟨by decide +kernel, rfl⟩) ?_
    refine mj_all_cons 61 rfl (show _ = _ from by decide +kernel) ?_
    refine mj_all_cons 62 rfl (show _ = _ from by decide +kernel) ?_
    refine mj_all_cons 63 rfl (show _ = _ from by decide +kernel) ?_
    refine mj_all_cons 64 rfl (trivial) ?_
    refine mj_all_cons 65 rfl (trivial) ?_
    refine mj_all_cons 66 rfl (Or.inl ⟨by decide +kernel, rfl⟩) ?_
    refine mj_all_cons 67 rfl (show _ = _ from by decide +kernel) ?_
    refine mj_all_cons 68 rfl (trivial) ?_
    refine mj_all_cons 69 rfl (trivial) ?_
    refine mj_all_cons 70 rfl (Or.inl ⟨by decide +kernel, rfl⟩) ?_
    refine mj_all_cons 71 rfl (Or.inl ⟨1, by decide +kernel, rfl, rfl⟩) ?_
    refine mj_all_cons 72 rfl (Or.inl ⟨1, by decide +kernel, rfl, rfl⟩) ?_
    refine mj_all_cons 73 rfl (show _ = _ from by decide +kernel) ?_
    refine mj_all_cons 74 rfl (trivial) ?_
    refine mj_all_cons 75 rfl (trivial) ?_
    refine mj_all_cons 76 rfl (Or.inl ⟨0, by decide +kernel, rfl, rfl⟩) ?_
    refine mj_all_cons 77 rfl (Or.inl ⟨by decide +kernel, rfl⟩) ?_
    refine mj_all_cons 78 rfl (⟨mjmM2, 138, 1, rfl, by decide, mjmd2, mw_16, Or.inl ⟨9, mjF9, 46, by decide +kernel, rfl, rfl, rfl, mw_1146, mw_1148, mjsel_65⟩⟩) ?_
    refine mj_all_cons 79 rfl (trivial) ?_
    refine mj_all_cons 80 rfl (trivial) ?_
    refine mj_all_cons 81 rfl (show _ = _ from by decide +kernel) ?_
    refine mj_all_cons 82 rfl (show _ = _ from by decide +kernel) ?_
    refine mj_all_cons 83 rfl (trivial) ?_
    refine mj_all_cons 84 rfl (trivial) ?_
    refine mj_all_cons 85 rfl (Or.inl ⟨0, by decide +kernel, rfl, rfl⟩) ?_
    refine mj_all_cons 86 rfl (⟨45, "ListSpeakerModel", mjF9, 46, by decide +kernel, rfl, by decide, mw_996, mjw9⟩) ?_
    refine mj_all_cons 87 rfl (trivial) ?_
    refine mj_all_cons 88 rfl (trivial) ?_
    refine mj_all_cons 89 rfl (Or.inl ⟨0, by decide +kernel, rfl, rfl⟩) ?_
    refine mj_all_cons 90 rfl (⟨148, "ListSpeakerModel", mjF9, 46, by decide +kernel, rfl, by decide, mw_992, mjw9⟩) ?_
    refine mj_all_cons 91 rfl (trivial) ?_
    refine mj_all_cons 92 rfl (trivial) ?_
    refine mj_all_cons 93 rfl (Or.inl ⟨by decide +kernel, rfl⟩) ?_
    refine mj_all_cons 94 rfl (show _ = _ from by decide +kernel) ?_
    refine mj_all_cons 95 rfl (Or.inl ⟨by decide +kernel, rfl⟩) ?_
    refine mj_all_cons 96 rfl (show _ = _ from by decide +kernel) ?_
    refine mj_all_cons 97 rfl (Or.inr (Or.inl ⟨by decide +kernel, rfl, by decide⟩)) ?_
    refine mj_all_cons 98 rfl (trivial) ?_
    refine mj_all_cons 99 rfl (show _ = _ from by decide +kernel) ?_
    exact trivial
  intro pc o ho
  have := mj_all_get _ 0 h pc o ho
  rw [Nat.zero_add] at this
  exact this
set_option maxRecDepth 100000 in
theorem mjmi22 : ∀ (pc : Nat) (o : mj_O), mjmo22[pc]? = some o → mj_is mj_kl mjmM22.1.cls mj_WS mj_NWs mjm_Ms mjmM22.2.1 pc o := by
  have h : mj_all (mj_is mj_kl mjmM22.1.cls mj_WS mj_NWs mjm_Ms mjmM22.2.1) 0 mjmo22 := by
    unfold mjmo22
    refine mj_all_cons 1 rfl (Or.inl ⟨0, by decide +kernel, rfl, rfl⟩) ?_
    refine mj_all_cons 2 rfl (⟨148, "ListSpeakerModel", mjF9, 46, by decide +kernel, rfl, by decide, mw_992, mjw9⟩) ?_
    refine mj_all_cons 3 rfl (trivial) ?_
    refine mj_all_cons 4 rfl (trivial) ?_
    refine mj_all_cons 5 rfl (show _ = _ from by decide +kernel) ?_
    refine mj_all_cons 6 rfl (trivial) ?_
    refine mj_all_cons 7 rfl (trivial) ?_
    refine mj_all_cons 8 rfl (Or.inl ⟨0, by decide +kernel, rfl, rfl⟩) ?_
    refine mj_all_cons 9 rfl (⟨36, "ListSpeakerModel", mjF9, 46, by decide +kernel, rfl, by decide, mw_993, mjw9⟩) ?_
    refine mj_all_cons 10 rfl (trivial) ?_
    refine mj_all_cons 11 rfl (trivial) ?_
    refine mj_all_cons 12 rfl (Or.inl ⟨0, by decide +kernel, rfl, rfl⟩) ?_
    refine mj_all_cons 13 rfl (⟨148, "ListSpeakerModel", mjF9, 46, by decide +kernel, rfl, by decide, mw_992, mjw9⟩) ?_
    refine mj_all_cons 14 rfl (trivial) ?_
    refine mj_all_cons 15 rfl (trivial) ?_
    refine mj_all_cons 16 rfl (Or.inl ⟨by decide +kernel, rfl⟩) ?_
    refine mj_all_cons 17 rfl (show _ = _ from by decide +kernel) ?_
    refine mj_all_cons 18 rfl (show _ = _ from by decide +kernel) ?_
    refine mj_all_cons 19 rfl (Or.inl ⟨by decide +kernel, rfl⟩) ?_
    refine mj_all_cons 20 rfl (show _ = _ from by decide +kernel) ?_
    refine mj_all_cons 21 rfl (trivial) ?_
    refine mj_all_cons 22 rfl (trivial) ?_
    refine mj_all_cons 23 rfl (Or.inl ⟨0, by decide +kernel, rfl, rfl⟩) ?_
    refine mj_all_cons 24 rfl (⟨45, "ListSpeakerModel", mjF9, 46, by decide +kernel, rfl, by decide, mw_996, mjw9⟩) ?_
    refine mj_all_cons 25 rfl (trivial) ?_
    refine mj_all_cons 26 rfl (trivial) ?_
    refine mj_all_cons 27 rfl (Or.inl ⟨0, by decide +kernel, rfl, rfl⟩) ?_
    refine mj_all_cons 28 rfl (⟨148, "ListSpeakerModel", mjF9, 46, by decide +kernel, rfl, by decide, mw_992, mjw9⟩) ?_
    refine mj_all_cons 29 rfl (trivial) ?_
    refine mj_all_cons 30 rfl (trivial) ?_
    refine mj_all_cons 31 rfl (Or.inl ⟨by decide +kernel, rfl⟩) ?_
    refine mj_all_cons 32 rfl (show _ = _ from by decide +kernel) ?_
    refine mj_all_cons 33 rfl (show _ = _ from by decide +kernel) ?_
    refine mj_all_cons 34 rfl (Or.inl ⟨by decide +kernel, rfl⟩) ?_
    refine mj_all_cons 35 rfl (show _ = _ from by decide +kernel) ?_
    refine mj_all_cons 36 rfl (trivial) ?_
    refine mj_all_cons 37 rfl (trivial) ?_
    refine mj_all_cons 38 rfl (Or.inl ⟨0, by decide +kernel, rfl, rfl⟩) ?_
    refine mj_all_cons 39 rfl (Or.inl ⟨by decide +kernel, rfl⟩) ?_
    refine mj_all_cons 40 rfl (⟨mjmM2, 138, 1, rfl, by decide, mjmd2, mw_16, Or.inl ⟨9, mjF9, 46, by decide +kernel, rfl, rfl, rfl, mw_1146, mw_1148, mjsel_65⟩⟩) ?_
    refine mj_all_cons 41 rfl (trivial) ?_
    refine mj_all_cons 42 rfl (trivial) ?_
    refine mj_all_cons 43 rfl (show _ = _ from by decide +kernel) ?_
    refine mj_all_cons 44 rfl (Or.inl ⟨0, by decide +kernel, rfl, rfl⟩) ?_
    refine mj_all_cons 45 rfl (show _ = _ from by decide +kernel) ?_
    refine mj_all_cons 46 rfl (⟨116, "ListSpeakerModel", mjF9, 46, by decide +kernel, rfl, by decide, mw_979, mjw9⟩) ?_
    refine mj_all_cons 47 rfl (trivial) ?_
    refine mj_all_cons 48 rfl (trivial) ?_
    refine mj_all_cons 49 rfl (Or.inl ⟨by decide +kernel, rfl⟩) ?_
    refine mj_all_cons 50 rfl (show _ = _ from by decide +kernel) ?_
    refine mj_all_cons 51 rfl (⟨116, "ListSpeakerModel", mjF9, 46, mjt9, by decide +kernel, rfl, by decide, mw_979, mjw9, mjk9, mjn9, rfl, by decide +kernel⟩) ?_
    refine mj_all_cons 52 rfl (trivial) ?_
    refine mj_all_cons 53 rfl (trivial) ?_
    refine mj_all_cons 54 rfl (Or.inl ⟨0, by decide +kernel, rfl, rfl⟩) ?_
    refine mj_all_cons 55 rfl (show _ = _ from by decide +kernel) ?_
    refine mj_all_cons 56 rfl (⟨148, "ListSpeakerModel", mjF9, 46, by decide +kernel, rfl, by decide, mw_992, mjw9⟩) ?_
    refine mj_all_cons 57 rfl (trivial) ?_
    refine mj_all_cons 58 rfl (trivial) ?_
    refine mj_all_cons 59 rfl (Or.inl ⟨by decide +kernel, rfl⟩) ?_
    refine mj_all_cons 60 rfl (show _ = _ from by decide +kernel) ?_
    refine mj_all_cons 61 rfl (⟨148, "ListSpeakerModel", mjF9, 46, mjt9, by decide +kernel, rfl, by decide, mw_992, mjw9, mjk9, mjn9, rfl, by decide +kernel⟩) ?_
    refine mj_all_cons 62 rfl (trivial) ?_
    refine mj_all_cons 63 rfl (trivial) ?_
    refine mj_all_cons 64 rfl (Or.inl ⟨0, by decide +kernel, rfl, rfl⟩) ?_
    refine mj_all_cons 65 rfl (⟨39, "ListSpeakerModel", mjF9, 46, by decide +kernel, rfl, by decide, mw_994, mjw9⟩) ?_
    refine mj_all_cons 66 rfl (trivial) ?_
    refine mj_all_cons 67 rfl (trivial) ?_
    refine mj_all_cons 68 rfl (Or.inl ⟨0, by decide +kernel, rfl, rfl⟩) ?_
    refine mj_all_cons 69 rfl (⟨148, "ListSpeakerModel", mjF9, 46, by decide +kernel, rfl, by decide, mw_992, mjw9⟩) ?_
    refine mj_all_cons 70 rfl (trivial) ?_
    refine mj_all_cons 71 rfl (trivial) ?_
    refine mj_all_cons 72 rfl (show _ = _ from by decide +kernel) ?_
    refine mj_all_cons 73 rfl (show _ = _ from by decide +kernel) ?_
    exact trivial
  intro pc o ho
  have := mj_all_get _ 0 h pc o ho
  rw [Nat.zero_add] at this
  exact this
set_option maxRecDepth 100000 in
theorem mjmi23 : ∀ (pc : Nat) (o : mj_O), mjmo23[pc]? = some o → mj_is mj_kl mjmM23.1.cls mj_WS mj_NWs mjm_Ms mjmM23.2.1 pc o := by
  have h : mj_all (mj_is mj_kl mjmM23.1.cls mj_WS mj_NWs mjm_Ms mjmM23.2.1) 0 mjmo23 := by
    unfold mjmo23
    refine mj_all_cons 1 rfl (Or.inl ⟨0, by decide +kernel, rfl, rfl⟩) ?_
    refine mj_all_cons 2 rfl (⟨148, "ListSpeakerModel", mjF9, 46, by decide +kernel, rfl, by decide, mw_992, mjw9⟩) ?_
    refine mj_all_cons 3 rfl (trivial) ?_
    refine mj_all_cons 4 rfl (trivial) ?_
    refine mj_all_cons 5 rfl (Or.inl ⟨by decide +kernel, rfl⟩) ?_
    refine mj_all_cons 6 rfl (show _ = _ from by decide +kernel) ?_
    refine mj_all_cons 7 rfl (Or.inl ⟨2, by decide +kernel, rfl, rfl⟩) ?_
    refine mj_all_cons 8 rfl (Or.inl ⟨0, by decide +kernel, rfl, rfl⟩) ?_
    refine mj_all_cons 9 rfl (⟨36, "ListSpeakerModel", mjF9, 46, by decide +kernel, rfl, by decide, mw_993, mjw9⟩) ?_
    refine mj_all_cons 10 rfl (trivial) ?_
    refine mj_all_cons 11 rfl (trivial) ?_
    refine mj_all_cons 12 rfl (Or.inl ⟨2, by decide +kernel, rfl, rfl⟩) ?_
    refine mj_all_cons 13 rfl (show _ = _ from by decide +kernel) ?_
    refine mj_all_cons 14 rfl (Or.inl ⟨by decide +kernel, rfl⟩) ?_
    refine mj_all_cons 15 rfl (show _ = _ from by decide +kernel) ?_
    refine mj_all_cons 16 rfl (trivial) ?_
    refine mj_all_cons 17 rfl (trivial) ?_
    refine mj_all_cons 18 rfl (Or.inl ⟨0, by decide +kernel, rfl, rfl⟩) ?_
    refine mj_all_cons 19 rfl (show _ = _ from by decide +kernel) ?_
    refine mj_all_cons 20 rfl (⟨148, "ListSpeakerModel", mjF9, 46, by decide +kernel, rfl, by decide, mw_992, mjw9⟩) ?_
    refine mj_all_cons 21 rfl (trivial) ?_
    refine mj_all_cons 22 rfl (trivial) ?_
    refine mj_all_cons 23 rfl (Or.inl ⟨by decide +kernel, rfl⟩) ?_
    refine mj_all_cons 24 rfl (show _ = _ from by decide +kernel) ?_
    refine mj_all_cons 25 rfl (⟨148, "ListSpeakerModel", mjF9, 46, mjt9, by decide +kernel, rfl, by decide, mw_992, mjw9, mjk9, mjn9, rfl, by decide +kernel⟩) ?_
    refine mj_all_cons 26 rfl (trivial) ?_
    refine mj_all_cons 27 rfl (trivial) ?_
    refine mj_all_cons 28 rfl (Or.inl ⟨0, by decide +kernel, rfl, rfl⟩) ?_
    refine mj_all_cons 29 rfl (Or.inl ⟨1, by decide +kernel, rfl, rfl⟩) ?_
    refine mj_all_cons 30 rfl (Or.inr (Or.inr (Or.inr (Or.inl ⟨101, by decide +kernel, rfl, mw_1150⟩)))) ?_
    refine mj_all_cons 31 rfl (trivial) ?_
    refine mj_all_cons 32 rfl (⟨mjmM18, 170, 2, rfl, by decide, mjmd18, mw_16, Or.inl ⟨9, mjF9, 46, by decide +kernel, rfl, rfl, rfl, mw_1188, mw_1190, mjsel_73⟩⟩) ?_
    refine mj_all_cons 33 rfl (trivial) ?_
    refine mj_all_cons 34 rfl (trivial) ?_
    refine mj_all_cons 35 rfl (Or.inl ⟨3, by decide +kernel, rfl, rfl⟩) ?_
    refine mj_all_cons 36 rfl (Or.inl ⟨0, by decide +kernel, rfl, rfl⟩) ?_
    refine mj_all_cons 37 rfl (⟨98, "ListSpeakerModel", mjF9, 46, by decide +kernel, rfl, by decide, mw_980, mjw9⟩) ?_
    refine mj_all_cons 38 rfl (trivial) ?_
    refine mj_all_cons 39 rfl (trivial) ?_
    refine mj_all_cons 40 rfl (show _ = _ from by decide +kernel) ?_
    refine mj_all_cons 41 rfl (trivial) ?_
    refine mj_all_cons 42 rfl (trivial) ?_
    refine mj_all_cons 43 rfl (Or.inr (Or.inr (Or.inr (Or.inl ⟨101, by decide +kernel, rfl, mw_1150⟩)))) ?_
    refine mj_all_cons 44 rfl (trivial) ?_
    refine mj_all_cons 45 rfl (show _ = _ from by decide +kernel) ?_
    refine mj_all_cons 46 rfl (trivial) ?_
    refine mj_all_cons 47 rfl (trivial) ?_
    refine mj_all_cons 48 rfl (Or.inl ⟨0, by decide +kernel, rfl, rfl⟩) ?_
    refine mj_all_cons 49 rfl (Or.inr (Or.inr (Or.inr (Or.inl ⟨173, by decide +kernel, rfl, mw_1193⟩)))) ?_
    refine mj_all_cons 50 rfl (trivial) ?_
    refine mj_all_cons 51 rfl (Or.inl ⟨3, by decide +kernel, rfl, rfl⟩) ?_
    refine mj_all_cons 52 rfl (⟨mjmM18, 170, 2, rfl, by decide, mjmd18, mw_16, Or.inl ⟨9, mjF9, 46, by decide +kernel, rfl, rfl, rfl, mw_1188, mw_1190, mjsel_73⟩⟩) ?_
    refine mj_all_cons 53 rfl (trivial) ?_
    refine mj_all_cons 54 rfl (trivial) ?_
    refine mj_all_cons 55 rfl (show _ = _ from by decide +kernel) ?_
    refine mj_all_cons 56 rfl (Or.inl ⟨0, by decide +kernel, rfl, rfl⟩) ?_
    refine mj_all_cons 57 rfl (⟨45, "ListSpeakerModel", mjF9, 46, by decide +kernel, rfl, by decide, mw_996, mjw9⟩) ?_
    refine mj_all_cons 58 rfl (trivial) ?_
    refine mj_all_cons 59 rfl (trivial) ?_
    refine mj_all_cons 60 rfl (Or.inl ⟨2, by decide +kernel, rfl, rfl⟩) ?_
    refine mj_all_cons 61 rfl (show _ = _ from by decide +kernel) ?_
    refine mj_all_cons 62 rfl (Or.inl ⟨by decide +kernel, rfl⟩) ?_
    refine mj_all_cons 63 rfl (show _ = _ from by decide +kernel) ?_
    refine mj_all_cons 64 rfl (trivial) ?_
    refine mj_all_cons 65 rfl (trivial) ?_
    refine mj_all_cons 66 rfl (Or.inl ⟨0, by decide +kernel, rfl, rfl⟩) ?_
    refine mj_all_cons 67 rfl (⟨23, "ListSpeakerModel", mjF9, 46, by decide +kernel, rfl, by decide, mw_985, mjw9⟩) ?_
    refine mj_all_cons 68 rfl (trivial) ?_
    refine mj_all_cons 69 rfl (trivial) ?_
    refine mj_all_cons 70 rfl (Or.inl ⟨0, by decide +kernel, rfl, rfl⟩) ?_
    refine mj_all_cons 71 rfl (⟨42, "ListSpeakerModel", mjF9, 46, by decide +kernel, rfl, by decide, mw_995, mjw9⟩) ?_
    refine mj_all_cons 72 rfl (trivial) ?_
    refine mj_all_cons 73 rfl (trivial) ?_
    refine mj_all_cons 74 rfl (Or.inl ⟨2, by decide +kernel, rfl, rfl⟩) ?_
    refine mj_all_cons 75 rfl (show _ = _ from by decide +kernel) ?_
    refine mj_all_cons 76 rfl (Or.inr (Or.inr (Or.inr (Or.inl ⟨102, by decide +kernel, rfl, mw_1192⟩)))) ?_
    refine mj_all_cons 77 rfl (trivial) ?_
    refine mj_all_cons 78 rfl (show _ = _ from by decide +kernel) ?_
    refine mj_all_cons 79 rfl (Or.inl ⟨1, by decide +kernel, rfl, rfl⟩) ?_
    refine mj_all_cons 80 rfl (show _ = _ from by decide +kernel) ?_
    refine mj_all_cons 81 rfl (Or.inl ⟨0, by decide +kernel, rfl, rfl⟩) ?_
    refine mj_all_cons 82 rfl (⟨45, "ListSpeakerModel", mjF9, 46, by decide +kernel, rfl, by decide, mw_996, mjw9⟩) ?_
    refine mj_all_cons 83 rfl (trivial) ?_
    refine mj_all_cons 84 rfl (trivial) ?_
    refine mj_all_cons 85 rfl (Or.inl ⟨2, by decide +kernel, rfl, rfl⟩) ?_
    refine mj_all_cons 86 rfl (Or.inl ⟨by decide +kernel, rfl⟩) ?_
    refine mj_all_cons 87 rfl (show _ = _ from by decide +kernel) ?_
    refine mj_all_cons 88 rfl (Or.inr (Or.inl ⟨by decide +kernel, rfl, by decide⟩)) ?_
    refine mj_all_cons 89 rfl (trivial) ?_
    refine mj_all_cons 90 rfl (show _ = _ from by decide +kernel) ?_
    refine mj_all_cons 91 rfl (Or.inl ⟨0, by decide +kernel, rfl, rfl⟩) ?_
    refine mj_all_cons 92 rfl (Or.inl ⟨1, by decide +kernel, rfl, rfl⟩) ?_
    refine mj_all_cons 93 rfl (Or.inr (Or.inr (Or.inr (Or.inl ⟨101, by decide +kernel, rfl, mw_1150⟩)))) ?_
    refine mj_all_cons 94 rfl (trivial) ?_
    refine mj_all_cons 95 rfl (⟨mjmM18, 170, 2, rfl, by decide, mjmd18, mw_16, Or.inl ⟨9, mjF9, 46, by decide +kernel, rfl, rfl, rfl, mw_1188, mw_1190, mjsel_73⟩⟩) ?_
    refine mj_all_cons 96 rfl (trivial) ?_
    refine mj_all_cons 97 rfl (trivial) ?_
    refine mj_all_cons 98 rfl (Or.inl ⟨3, by decide +kernel, rfl, rfl⟩) ?_
    refine mj_all_cons 99 rfl (Or.inl ⟨0, by decide +kernel, rfl, rfl⟩) ?_
    refine mj_all_cons 100 rfl (⟨98, "ListSpeakerModel", mjF9, 46, by decide +kernel, rfl, by decide, mw_980, mjw9⟩) ?_
    refine mj_all_cons 101 rfl (trivial) ?_
    refine mj_all_cons 102 rfl (trivial) ?_
    refine mj_all_cons 103 rfl (show _ = _ from by decide +kernel) ?_
    refine mj_all_cons 104 rfl (trivial) ?_
    refine mj_all_cons 105 rfl (trivial) ?_
    refine mj_all_cons 106 rfl (Or.inr (Or.inr (Or.inr (Or.inl ⟨101, by decide +kernel, rfl, mw_1150⟩)))) ?_
    refine mj_all_cons 107 rfl (trivial) ?_
    refine mj_all_cons 108 rfl (show _ = _ from by decide +kernel) ?_
    refine mj_all_cons 109 rfl (Or.inl ⟨0, by decide +kernel, rfl, rfl⟩) ?_
    refine mj_all_cons 110 rfl (⟨42, "ListSpeakerModel", mjF9, 46, by decide +kernel, rfl, by decide, mw_995, mjw9⟩) ?_
    refine mj_all_cons 111 rfl (trivial) ?_
    refine mj_all_cons 112 rfl (trivial) ?_
    refine mj_all_cons 113 rfl (Or.inl ⟨2, by decide +kernel, rfl, rfl⟩) ?_
    refine mj_all_cons 114 rfl (show _ = _ from by decide +kernel) ?_
    refine mj_all_cons 115 rfl (Or.inr (Or.inr (Or.inr (Or.inl ⟨101, by decide +kernel, rfl, mw_1150⟩)))) ?_
    refine mj_all_cons 116 rfl (trivial) ?_
    refine mj_all_cons 117 rfl (show _ = _ from by decide +kernel) ?_
    refine mj_all_cons 118 rfl (trivial) ?_
    refine mj_all_cons 119 rfl (trivial) ?_
    refine mj_all_cons 120 rfl (Or.inl ⟨0, by decide +kernel, rfl, rfl⟩) ?_
    refine mj_all_cons 121 rfl (⟨39, "ListSpeakerModel", mjF9, 46, by decide +kernel, rfl, by decide, mw_994, mjw9⟩) ?_
    refine mj_all_cons 122 rfl (trivial) ?_
    refine mj_all_cons 123 rfl (trivial) ?_
    refine mj_all_cons 124 rfl (Or.inl ⟨2, by decide +kernel, rfl, rfl⟩) ?_
    refine mj_all_cons 125 rfl (Or.inl ⟨3, by decide +kernel, rfl, rfl⟩) ?_
    refine mj_all_cons 126 rfl (show _ = _ from by decide +kernel) ?_
    refine mj_all_cons 127 rfl (show _ = _ from by decide +kernel) ?_
    refine mj_all_cons 128 rfl (trivial) ?_
    refine mj_all_cons 129 rfl (trivial) ?_
    refine mj_all_cons 130 rfl (Or.inl ⟨0, by decide +kernel, rfl, rfl⟩) ?_
    refine mj_all_cons 131 rfl (⟨23, "ListSpeakerModel", mjF9, 46, by decide +kernel, rfl, by decide, mw_985, mjw9⟩) ?_
    refine mj_all_cons 132 rfl (trivial) ?_
    refine mj_all_cons 133 rfl (trivial) ?_
    refine mj_all_cons 134 rfl (Or.inl ⟨0, by decide +kernel, rfl, rfl⟩) ?_
    refine mj_all_cons 135 rfl (⟨42, "ListSpeakerModel", mjF9, 46, by decide +kernel, rfl, by decide, mw_995, mjw9⟩) ?_
    refine mj_all_cons 136 rfl (trivial) ?_
    refine mj_all_cons 137 rfl (trivial) ?_
    refine mj_all_cons 138 rfl (Or.inl ⟨2, by decide +kernel, rfl, rfl⟩) ?_
    refine mj_all_cons 139 rfl (show _ = _ from by decide +kernel) ?_
    refine mj_all_cons 140 rfl (Or.inr (Or.inr (Or.inr (Or.inl ⟨102, by decide +kernel, rfl, mw_1192⟩)))) ?_
    refine mj_all_cons 141 rfl (trivial) ?_
    refine mj_all_cons 142 rfl (show _ = _ from by decide +kernel) ?_
    refine mj_all_cons 143 rfl (Or.inl ⟨3, by decide +kernel, rfl, rfl⟩) ?_
    refine mj_all_cons 144 rfl (show _ = _ from by decide +kernel) ?_
    refine mj_all_cons 145 rfl (Or.inl ⟨0, by decide +kernel, rfl, rfl⟩) ?_
    refine mj_all_cons 146 rfl (⟨42, "ListSpeakerModel", mjF9, 46, by decide +kernel, rfl, by decide, mw_995, mjw9⟩) ?_
    refine mj_all_cons 147 rfl (trivial) ?_
    refine mj_all_cons 148 rfl (trivial) ?_
    refine mj_all_cons 149 rfl (Or.inl ⟨2, by decide +kernel, rfl, rfl⟩) ?_
    refine mj_all_cons 150 rfl (Or.inl ⟨3, by decide +kernel, rfl, rfl⟩) ?_
    refine mj_all_cons 151 rfl (show _ = _ from by decide +kernel) ?_
    refine mj_all_cons 152 rfl (Or.inr (Or.inl ⟨by decide +kernel, rfl, by decide⟩)) ?_
    refine mj_all_cons 153 rfl (trivial) ?_
    refine mj_all_cons 154 rfl (show _ = _ from by decide +kernel) ?_
    exact trivial
  intro pc o ho
  have := mj_all_get _ 0 h pc o ho
  rw [Nat.zero_add] at this
  exact this
set_option maxRecDepth 100000 in
theorem mjmi24 : ∀ (pc : Nat) (o : mj_O), mjmo24[pc]? = some o → mj_is mj_kl mjmM24.1.cls mj_WS mj_NWs mjm_Ms mjmM24.2.1 pc o := by
  have h : mj_all (mj_is mj_kl mjmM24.1.cls mj_WS mj_NWs mjm_Ms mjmM24.2.1) 0 mjmo24 := by
    unfold mjmo24
    refine mj_all_cons 1 rfl (Or.inl ⟨0, by decide +kernel, rfl, rfl⟩) ?_
    refine mj_all_cons 2 rfl (⟨57, "ListSpeakerModel", mjF9, 46, by decide +kernel, rfl, by decide, mw_1002, mjw9⟩) ?_
    refine mj_all_cons 3 rfl (trivial) ?_
    refine mj_all_cons 4 rfl (trivial) ?_
    refine mj_all_cons 5 rfl (Or.inl ⟨0, by decide +kernel, rfl, rfl⟩) ?_
    refine mj_all_cons 6 rfl (⟨174, "ListSpeakerModel", mjF9, 46, by decide +kernel, rfl, by decide, mw_1001, mjw9⟩) ?_
    refine mj_all_cons 7 rfl (trivial) ?_
    refine mj_all_cons 8 rfl (trivial) ?_
    refine mj_all_cons 9 rfl (Or.inl ⟨1, by decide +kernel, rfl, rfl⟩) ?_
    refine mj_all_cons 10 rfl (show _ = _ from by decide +kernel) ?_
    refine mj_all_cons 11 rfl (Or.inl ⟨0, by decide +kernel, rfl, rfl⟩) ?_
    refine mj_all_cons 12 rfl (⟨60, "ListSpeakerModel", mjF9, 46, by decide +kernel, rfl, by decide, mw_1003, mjw9⟩) ?_
    refine mj_all_cons 13 rfl (trivial) ?_
    refine mj_all_cons 14 rfl (trivial) ?_
    refine mj_all_cons 15 rfl (Or.inl ⟨0, by decide +kernel, rfl, rfl⟩) ?_
    refine mj_all_cons 16 rfl (⟨174, "ListSpeakerModel", mjF9, 46, by decide +kernel, rfl, by decide, mw_1001, mjw9⟩) ?_
    refine mj_all_cons 17 rfl (trivial) ?_
    refine mj_all_cons 18 rfl (trivial) ?_
    refine mj_all_cons 19 rfl (Or.inl ⟨2, by decide +kernel, rfl, rfl⟩) ?_
    refine mj_all_cons 20 rfl (show _ = _ from by decide +kernel) ?_
    refine mj_all_cons 21 rfl (Or.inl ⟨0, by decide +kernel, rfl, rfl⟩) ?_
    refine mj_all_cons 22 rfl (⟨63, "ListSpeakerModel", mjF9, 46, by decide +kernel, rfl, by decide, mw_1004, mjw9⟩) ?_
    refine mj_all_cons 23 rfl (trivial) ?_
    refine mj_all_cons 24 rfl (trivial) ?_
    refine mj_all_cons 25 rfl (Or.inl ⟨0, by decide +kernel, rfl, rfl⟩) ?_
    refine mj_all_cons 26 rfl (⟨174, "ListSpeakerModel", mjF9, 46, by decide +kernel, rfl, by decide, mw_1001, mjw9⟩) ?_
    refine mj_all_cons 27 rfl (trivial) ?_
    refine mj_all_cons 28 rfl (trivial) ?_
    refine mj_all_cons 29 rfl (Or.inl ⟨3, by decide +kernel, rfl, rfl⟩) ?_
    refine mj_all_cons 30 rfl (show _ = _ from by decide +kernel) ?_
    refine mj_all_cons 31 rfl (Or.inl ⟨0, by decide +kernel, rfl, rfl⟩) ?_
    refine mj_all_cons 32 rfl (⟨66, "ListSpeakerModel", mjF9, 46, by decide +kernel, rfl, by decide, mw_1005, mjw9⟩) ?_
    refine mj_all_cons 33 rfl (trivial) ?_
    refine mj_all_cons 34 rfl (trivial) ?_
    refine mj_all_cons 35 rfl (Or.inl ⟨0, by decide +kernel, rfl, rfl⟩) ?_
    refine mj_all_cons 36 rfl (⟨174, "ListSpeakerModel", mjF9, 46, by decide +kernel, rfl, by decide, mw_1001, mjw9⟩) ?_
    refine mj_all_cons 37 rfl (trivial) ?_
    refine mj_all_cons 38 rfl (trivial) ?_
    refine mj_all_cons 39 rfl (Or.inr ⟨by decide +kernel, rfl⟩) ?_
    refine mj_all_cons 40 rfl (trivial) ?_
    refine mj_all_cons 41 rfl (show _ = _ from by decide +kernel) ?_
    refine mj_all_cons 42 rfl (Or.inl ⟨0, by decide +kernel, rfl, rfl⟩) ?_
    refine mj_all_cons 43 rfl (show _ = _ from by decide +kernel) ?_
    refine mj_all_cons 44 rfl (⟨174, "ListSpeakerModel", mjF9, 46, by decide +kernel, rfl, by decide, mw_1001, mjw9⟩) ?_
    refine mj_all_cons 45 rfl (trivial) ?_
    refine mj_all_cons 46 rfl (trivial) ?_
    refine mj_all_cons 47 rfl (Or.inl ⟨by decide +kernel, rfl⟩) ?_
    refine mj_all_cons 48 rfl (show _ = _ from by decide +kernel) ?_
    refine mj_all_cons 49 rfl (⟨174, "ListSpeakerModel", mjF9, 46, mjt9, by decide +kernel, rfl, by decide, mw_1001, mjw9, mjk9, mjn9, rfl, by decide +kernel⟩) ?_
    refine mj_all_cons 50 rfl (trivial) ?_
    refine mj_all_cons 51 rfl (trivial) ?_
    refine mj_all_cons 52 rfl (show _ = _ from by decide +kernel) ?_
    exact trivial
  intro pc o ho
  have := mj_all_get _ 0 h pc o ho
  rw [Nat.zero_add] at this
  exact this
set_option maxRecDepth 100000 in
theorem mjmi25 : ∀ (pc : Nat) (o : mj_O), mjmo25[pc]? = some o → mj_is mj_kl mjmM25.1.cls mj_WS mj_NWs mjm_Ms mjmM25.2.1 pc o := by
  have h : mj_all (mj_is mj_kl mjmM25.1.cls mj_WS mj_NWs mjm_Ms mjmM25.2.1) 0 mjmo25 := by
    unfold mjmo25
    refine mj_all_cons 1 rfl (Or.inl ⟨0, by decide +kernel, rfl, rfl⟩) ?_
    refine mj_all_cons 2 rfl (⟨72, "ListSpeakerModel", mjF9, 46, by decide +kernel, rfl, by decide, mw_1009, mjw9⟩) ?_
    refine mj_all_cons 3 rfl (trivial) ?_
    refine mj_all_cons 4 rfl (trivial) ?_
    refine mj_all_cons 5 rfl (Or.inl ⟨0, by decide +kernel, rfl, rfl⟩) ?_
    refine mj_all_cons 6 rfl (⟨177, "ListSpeakerModel", mjF9, 46, by decide +kernel, rfl, by decide, mw_1008, mjw9⟩) ?_
    refine mj_all_cons 7 rfl (trivial) ?_
    refine mj_all_cons 8 rfl (trivial) ?_
    refine mj_all_cons 9 rfl (Or.inl ⟨1, by decide +kernel, rfl, rfl⟩) ?_
    refine mj_all_cons 10 rfl (show _ = _ from by decide +kernel) ?_
    refine mj_all_cons 11 rfl (Or.inl ⟨0, by decide +kernel, rfl, rfl⟩) ?_
    refine mj_all_cons 12 rfl (⟨75, "ListSpeakerModel", mjF9, 46, by decide +kernel, rfl, by decide, mw_1010, mjw9⟩) ?_
    refine mj_all_cons 13 rfl (trivial) ?_
    refine mj_all_cons 14 rfl (trivial) ?_
    refine mj_all_cons 15 rfl (Or.inl ⟨0, by decide +kernel, rfl, rfl⟩) ?_
    refine mj_all_cons 16 rfl (⟨177, "ListSpeakerModel", mjF9, 46, by decide +kernel, rfl, by decide, mw_1008, mjw9⟩) ?_
    refine mj_all_cons 17 rfl (trivial) ?_
    refine mj_all_cons 18 rfl (trivial) ?_
    refine mj_all_cons 19 rfl (Or.inl ⟨2, by decide +kernel, rfl, rfl⟩) ?_
    refine mj_all_cons 20 rfl (show _ = _ from by decide +kernel) ?_
    refine mj_all_cons 21 rfl (Or.inl ⟨0, by decide +kernel, rfl, rfl⟩) ?_
    refine mj_all_cons 22 rfl (show _ = _ from by decide +kernel) ?_
    refine mj_all_cons 23 rfl (⟨177, "ListSpeakerModel", mjF9, 46, by decide +kernel, rfl, by decide, mw_1008, mjw9⟩) ?_
    refine mj_all_cons 24 rfl (trivial) ?_
    refine mj_all_cons 25 rfl (trivial) ?_
    refine mj_all_cons 26 rfl (Or.inl ⟨by decide +kernel, rfl⟩) ?_
    refine mj_all_cons 27 rfl (show _ = _ from by decide +kernel) ?_
    refine mj_all_cons 28 rfl (⟨177, "ListSpeakerModel", mjF9, 46, mjt9, by decide +kernel, rfl, by decide, mw_1008, mjw9, mjk9, mjn9, rfl, by decide +kernel⟩) ?_
    refine mj_all_cons 29 rfl (trivial) ?_
    refine mj_all_cons 30 rfl (trivial) ?_
    refine mj_all_cons 31 rfl (show _ = _ from by decide +kernel) ?_
    exact trivial
  intro pc o ho
  have := mj_all_get _ 0 h pc o ho
  rw [Nat.zero_add] at this
  exact this
set_option maxRecDepth 100000 in
theorem mjmi26 : ∀ (pc : Nat) (o : mj_O), mjmo26[pc]? = some o → mj_is mj_kl mjmM26.1.cls mj_WS mj_NWs mjm_Ms mjmM26.2.1 pc o := by
  have h : mj_all (mj_is mj_kl mjmM26.1.cls mj_WS mj_NWs mjm_Ms mjmM26.2.1) 0 mjmo26 := by
    unfold mjmo26
    refine mj_all_cons 1 rfl (Or.inl ⟨0, by decide +kernel, rfl, rfl⟩) ?_
    refine mj_all_cons 2 rfl (⟨177, "ListSpeakerModel", mjF9, 46, by decide +kernel, rfl, by decide, mw_1008, mjw9⟩) ?_
    refine mj_all_cons 3 rfl (trivial) ?_
    refine mj_all_cons 4 rfl (trivial) ?_
    refine mj_all_cons 5 rfl (Or.inl ⟨by decide +kernel, rfl⟩) ?_
    refine mj_all_cons 6 rfl (show _ = _ from by decide +kernel) ?_
    refine mj_all_cons 7 rfl (Or.inl ⟨2, by decide +kernel, rfl, rfl⟩) ?_
    refine mj_all_cons 8 rfl (Or.inl ⟨2, by decide +kernel, rfl, rfl⟩) ?_
    refine mj_all_cons 9 rfl (Or.inl ⟨0, by decide +kernel, rfl, rfl⟩) ?_
    refine mj_all_cons 10 rfl (⟨180, "ListSpeakerModel", mjF9, 46, by decide +kernel, rfl, by decide, mw_1011, mjw9⟩) ?_
    refine mj_all_cons 11 rfl (trivial) ?_
    refine mj_all_cons 12 rfl (trivial) ?_
    refine mj_all_cons 13 rfl (show _ = _ from by decide +kernel) ?_
    refine mj_all_cons 14 rfl (trivial) ?_
    refine mj_all_cons 15 rfl (trivial) ?_
    refine mj_all_cons 16 rfl (Or.inl ⟨0, by decide +kernel, rfl, rfl⟩) ?_
    refine mj_all_cons 17 rfl (⟨72, "ListSpeakerModel", mjF9, 46, by decide +kernel, rfl, by decide, mw_1009, mjw9⟩) ?_
    refine mj_all_cons 18 rfl (trivial) ?_
    refine mj_all_cons 19 rfl (trivial) ?_
    refine mj_all_cons 20 rfl (Or.inl ⟨2, by decide +kernel, rfl, rfl⟩) ?_
    refine mj_all_cons 21 rfl (show _ = _ from by decide +kernel) ?_
    refine mj_all_cons 22 rfl (Or.inl ⟨1, by decide +kernel, rfl, rfl⟩) ?_
    refine mj_all_cons 23 rfl (show _ = _ from by decide +kernel) ?_
    refine mj_all_cons 24 rfl (trivial) ?_
    refine mj_all_cons 25 rfl (trivial) ?_
    refine mj_all_cons 26 rfl (Or.inl ⟨0, by decide +kernel, rfl, rfl⟩) ?_
    refine mj_all_cons 27 rfl (⟨75, "ListSpeakerModel", mjF9, 46, by decide +kernel, rfl, by decide, mw_1010, mjw9⟩) ?_
    refine mj_all_cons 28 rfl (trivial) ?_
    refine mj_all_cons 29 rfl (trivial) ?_
    refine mj_all_cons 30 rfl (Or.inl ⟨2, by decide +kernel, rfl, rfl⟩) ?_
    refine mj_all_cons 31 rfl (show _ = _ from by decide +kernel) ?_
    refine mj_all_cons 32 rfl (show _ = _ from by decide +kernel) ?_
    refine mj_all_cons 33 rfl (show _ = _ from by decide +kernel) ?_
    refine mj_all_cons 34 rfl (trivial) ?_
    refine mj_all_cons 35 rfl (trivial) ?_
    refine mj_all_cons 36 rfl (show _ = _ from by decide +kernel) ?_
    refine mj_all_cons 37 rfl (trivial) ?_
    refine mj_all_cons 38 rfl (trivial) ?_
    refine mj_all_cons 39 rfl (Or.inl ⟨by decide +kernel, rfl⟩) ?_
    refine mj_all_cons 40 rfl (show _ = _ from by decide +kernel) ?_
    exact trivial
  intro pc o ho
  have := mj_all_get _ 0 h pc o ho
  rw [Nat.zero_add] at this
  exact this
set_option maxRecDepth 100000 in
theorem mjmi27 : ∀ (pc : Nat) (o : mj_O), mjmo27[pc]? = some o → mj_is mj_kl mjmM27.1.cls mj_WS mj_NWs mjm_Ms mjmM27.2.1 pc o := by
  have h : mj_all (mj_is mj_kl mjmM27.1.cls mj_WS mj_NWs mjm_Ms mjmM27.2.1) 0 mjmo27 := by
    unfold mjmo27
    refine mj_all_cons 1 rfl (Or.inl ⟨0, by decide +kernel, rfl, rfl⟩) ?_
    refine mj_all_cons 2 rfl (Or.inl ⟨by decide +kernel, rfl⟩) ?_
    refine mj_all_cons 3 rfl (⟨174, "ListSpeakerModel", mjF9, 46, mjt9, by decide +kernel, rfl, by decide, mw_1001, mjw9, mjk9, mjn9, rfl, by decide +kernel⟩) ?_
    refine mj_all_cons 4 rfl (trivial) ?_
    refine mj_all_cons 5 rfl (trivial) ?_
    refine mj_all_cons 6 rfl (Or.inl ⟨0, by decide +kernel, rfl, rfl⟩) ?_
    refine mj_all_cons 7 rfl (Or.inr (Or.inl ⟨by decide +kernel, rfl, by decide⟩)) ?_
    refine mj_all_cons 8 rfl (trivial) ?_
    refine mj_all_cons 9 rfl (Or.inl ⟨1, by decide +kernel, rfl, rfl⟩) ?_
    refine mj_all_cons 10 rfl (Or.inl ⟨by decide +kernel, rfl⟩) ?_
    refine mj_all_cons 11 rfl (Or.inl ⟨by decide +kernel, rfl⟩) ?_
    refine mj_all_cons 12 rfl (⟨mjmM24, 183, 4, rfl, by decide, mjmd24, mw_16, Or.inl ⟨9, mjF9, 46, by decide +kernel, rfl, rfl, rfl, mw_1239, mw_1241, mjsel_83⟩⟩) ?_
    refine mj_all_cons 13 rfl (trivial) ?_
    refine mj_all_cons 14 rfl (trivial) ?_
    refine mj_all_cons 15 rfl (Or.inl ⟨0, by decide +kernel, rfl, rfl⟩) ?_
    refine mj_all_cons 16 rfl (⟨174, "ListSpeakerModel", mjF9, 46, by decide +kernel, rfl, by decide, mw_1001, mjw9⟩) ?_
    refine mj_all_cons 17 rfl (trivial) ?_
    refine mj_all_cons 18 rfl (trivial) ?_
    refine mj_all_cons 19 rfl (show _ = _ from by decide +kernel) ?_
    refine mj_all_cons 20 rfl (trivial) ?_
    refine mj_all_cons 21 rfl (trivial) ?_
    refine mj_all_cons 22 rfl (Or.inl ⟨0, by decide +kernel, rfl, rfl⟩) ?_
    refine mj_all_cons 23 rfl (⟨98, "ListSpeakerModel", mjF9, 46, by decide +kernel, rfl, by decide, mw_980, mjw9⟩) ?_
    refine mj_all_cons 24 rfl (trivial) ?_
    refine mj_all_cons 25 rfl (trivial) ?_
    refine mj_all_cons 26 rfl (show _ = _ from by decide +kernel) ?_
    refine mj_all_cons 27 rfl (trivial) ?_
    refine mj_all_cons 28 rfl (trivial) ?_
    refine mj_all_cons 29 rfl (Or.inl ⟨0, by decide +kernel, rfl, rfl⟩) ?_
    refine mj_all_cons 30 rfl (show _ = _ from by decide +kernel) ?_
    refine mj_all_cons 31 rfl (⟨174, "ListSpeakerModel", mjF9, 46, by decide +kernel, rfl, by decide, mw_1001, mjw9⟩) ?_
    refine mj_all_cons 32 rfl (trivial) ?_
    refine mj_all_cons 33 rfl (trivial) ?_
    refine mj_all_cons 34 rfl (Or.inl ⟨by decide +kernel, rfl⟩) ?_
    refine mj_all_cons 35 rfl (show _ = _ from by decide +kernel) ?_
    refine mj_all_cons 36 rfl (⟨174, "ListSpeakerModel", mjF9, 46, mjt9, by decide +kernel, rfl, by decide, mw_1001, mjw9, mjk9, mjn9, rfl, by decide +kernel⟩) ?_
    refine mj_all_cons 37 rfl (trivial) ?_
    refine mj_all_cons 38 rfl (trivial) ?_
    refine mj_all_cons 39 rfl (Or.inl ⟨0, by decide +kernel, rfl, rfl⟩) ?_
    refine mj_all_cons 40 rfl (⟨60, "ListSpeakerModel", mjF9, 46, by decide +kernel, rfl, by decide, mw_1003, mjw9⟩) ?_
    refine mj_all_cons 41 rfl (trivial) ?_
    refine mj_all_cons 42 rfl (trivial) ?_
    refine mj_all_cons 43 rfl (Or.inl ⟨0, by decide +kernel, rfl, rfl⟩) ?_
    refine mj_all_cons 44 rfl (⟨174, "ListSpeakerModel", mjF9, 46, by decide +kernel, rfl, by decide, mw_1001, mjw9⟩) ?_
    refine mj_all_cons 45 rfl (trivial) ?_
    refine mj_all_cons 46 rfl (trivial) ?_
    refine mj_all_cons 47 rfl (show _ = _ from by decide +kernel) ?_
    refine mj_all_cons 48 rfl (Or.inl ⟨2, by decide +kernel, rfl, rfl⟩) ?_
    refine mj_all_cons 49 rfl (Or.inl ⟨0, by decide +kernel, rfl, rfl⟩) ?_
    refine mj_all_cons 50 rfl (⟨57, "ListSpeakerModel", mjF9, 46, by decide +kernel, rfl, by decide, mw_1002, mjw9⟩) ?_
    refine mj_all_cons 51 rfl (trivial) ?_
    refine mj_all_cons 52 rfl (trivial) ?_
    refine mj_all_cons 53 rfl (Or.inl ⟨0, by decide +kernel, rfl, rfl⟩) ?_
    refine mj_all_cons 54 rfl (⟨174, "ListSpeakerModel", mjF9, 46, by decide +kernel, rfl, by decide, mw_1001, mjw9⟩) ?_
    refine mj_all_cons 55 rfl (trivial) ?_
    refine mj_all_cons 56 rfl (trivial) ?_
    refine mj_all_cons 57 rfl (show _ = _ from by decide +kernel) ?_
    refine mj_all_cons 58 rfl (Or.inr (Or.inl ⟨by decide +kernel, rfl, by decide⟩)) ?_
    refine mj_all_cons 59 rfl (trivial) ?_
    refine mj_all_cons 60 rfl (show _ = _ from by decide +kernel) ?_
    refine mj_all_cons 61 rfl (trivial) ?_
    refine mj_all_cons 62 rfl (trivial) ?_
    refine mj_all_cons 63 rfl (Or.inl ⟨0, by decide +kernel, rfl, rfl⟩) ?_
    refine mj_all_cons 64 rfl (Or.inl ⟨2, by decide +kernel, rfl, rfl⟩) ?_
    refine mj_all_cons 65 rfl (⟨mjmM29, 187, 1, rfl, by decide, mjmd29, mw_16, Or.inl ⟨9, mjF9, 46, by decide +kernel, rfl, rfl, rfl, mw_1243, mw_1245, mjsel_84⟩⟩) ?_
    refine mj_all_cons 66 rfl (trivial) ?_
    refine mj_all_cons 67 rfl (trivial) ?_
    refine mj_all_cons 68 rfl (show _ = _ from by decide +kernel) ?_
    refine mj_all_cons 69 rfl (trivial) ?_
    refine mj_all_cons 70 rfl (trivial) ?_
    refine mj_all_cons 71 rfl (Or.inl ⟨0, by decide +kernel, rfl, rfl⟩) ?_
    refine mj_all_cons 72 rfl (⟨57, "ListSpeakerModel", mjF9, 46, by decide +kernel, rfl, by decide, mw_1002, mjw9⟩) ?_
    refine mj_all_cons 73 rfl (trivial) ?_
    refine mj_all_cons 74 rfl (trivial) ?_
    refine mj_all_cons 75 rfl (Or.inl ⟨0, by decide +kernel, rfl, rfl⟩) ?_
    refine mj_all_cons 76 rfl (⟨174, "ListSpeakerModel", mjF9, 46, by decide +kernel, rfl, by decide, mw_1001, mjw9⟩) ?_
    refine mj_all_cons 77 rfl (trivial) ?_
    refine mj_all_cons 78 rfl (trivial) ?_
    refine mj_all_cons 79 rfl (show _ = _ from by decide +kernel) ?_
    refine mj_all_cons 80 rfl (Or.inr (Or.inl ⟨by decide +kernel, rfl, by decide⟩)) ?_
    refine mj_all_cons 81 rfl (trivial) ?_
    refine mj_all_cons 82 rfl (show _ = _ from by decide +kernel) ?_
    refine mj_all_cons 83 rfl (trivial) ?_
    refine mj_all_cons 84 rfl (trivial) ?_
    refine mj_all_cons 85 rfl (Or.inl ⟨0, by decide +kernel, rfl, rfl⟩) ?_
    refine mj_all_cons 86 rfl (show _ = _ from by decide +kernel) ?_
    refine mj_all_cons 87 rfl (⟨177, "ListSpeakerModel", mjF9, 46, by decide +kernel, rfl, by decide, mw_1008, mjw9⟩) ?_
    refine mj_all_cons 88 rfl (trivial) ?_
    refine mj_all_cons 89 rfl (trivial) ?_
    refine mj_all_cons 90 rfl (Or.inl ⟨0, by decide +kernel, rfl, rfl⟩) ?_
    refine mj_all_cons 91 rfl (⟨63, "ListSpeakerModel", mjF9, 46, by decide +kernel, rfl, by decide, mw_1004, mjw9⟩) ?_
    refine mj_all_cons 92 rfl (trivial) ?_
    refine mj_all_cons 93 rfl (trivial) ?_
    refine mj_all_cons 94 rfl (Or.inl ⟨0, by decide +kernel, rfl, rfl⟩) ?_
    refine mj_all_cons 95 rfl (⟨174, "ListSpeakerModel", mjF9, 46, by decide +kernel, rfl, by decide, mw_1001, mjw9⟩) ?_
    refine mj_all_cons 96 rfl (trivial) ?_
    refine mj_all_cons 97 rfl (trivial) ?_
    refine mj_all_cons 98 rfl (show _ = _ from by decide +kernel) ?_
    refine mj_all_cons 99 rfl (show _ = _ from by decide +kernel) ?_
    refine mj_all_cons 100 rfl (⟨177, "ListSpeakerModel", mjF9, 46, mjt9, by decide +kernel, rfl, by decide, mw_1008, mjw9, mjk9, mjn9, rfl, by decide +kernel⟩) ?_
    refine mj_all_cons 101 rfl (trivial) ?_
    refine mj_all_cons 102 rfl (trivial) ?_
    refine mj_all_cons 103 rfl (show _ = _ from by decide +kernel) ?_
    refine mj_all_cons 104 rfl (trivial) ?_
    refine mj_all_cons 105 rfl (trivial) ?_
    refine mj_all_cons 106 rfl (Or.inl ⟨0, by decide +kernel, rfl, rfl⟩) ?_
    refine mj_all_cons 107 rfl (⟨57, "ListSpeakerModel", mjF9, 46, by decide +kernel, rfl, by decide, mw_1002, mjw9⟩) ?_
    refine mj_all_cons 108 rfl (trivial) ?_
    refine mj_all_cons 109 rfl (trivial) ?_
    refine mj_all_cons 110 rfl (Or.inl ⟨0, by decide +kernel, rfl, rfl⟩) ?_
    refine mj_all_cons 111 rfl (⟨174, "ListSpeakerModel", mjF9, 46, by decide +kernel, rfl, by decide, mw_1001, mjw9⟩) ?_
    refine mj_all_cons 112 rfl (trivial) ?_
    refine mj_all_cons 113 rfl (trivial) ?_
    refine mj_all_cons 114 rfl (show _ = _ from by decide +kernel) ?_
    refine mj_all_cons 115 rfl (Or.inr (Or.inl ⟨by decide +kernel, rfl, by decide⟩)) ?_
    refine mj_all_cons 116 rfl (trivial) ?_
    refine mj_all_cons 117 rfl (show _ = _ from by decide +kernel) ?_
    refine mj_all_cons 118 rfl (trivial) ?_
    refine mj_all_cons 119 rfl (trivial) ?_
    refine mj_all_cons 120 rfl (Or.inl ⟨0, by decide +kernel, rfl, rfl⟩) ?_
    refine mj_all_cons 121 rfl (Or.inl ⟨2, by decide +kernel, rfl, rfl⟩) ?_
    refine mj_all_cons 122 rfl (⟨mjmM28, 190, 1, rfl, by decide, mjmd28, mw_16, Or.inl ⟨9, mjF9, 46, by decide +kernel, rfl, rfl, rfl, mw_1259, mw_1261, mjsel_88⟩⟩) ?_
    refine mj_all_cons 123 rfl (trivial) ?_
    refine mj_all_cons 124 rfl (trivial) ?_
    refine mj_all_cons 125 rfl (show _ = _ from by decide +kernel) ?_
    refine mj_all_cons 126 rfl (trivial) ?_
    refine mj_all_cons 127 rfl (trivial) ?_
    refine mj_all_cons 128 rfl (Or.inl ⟨2, by decide +kernel, rfl, rfl⟩) ?_
    refine mj_all_cons 129 rfl (⟨mjmM3, 103, 1, rfl, by decide, mjmd3, mw_16, Or.inr (Or.inl ⟨by decide +kernel, rfl, rfl, mw_1194, mw_1195⟩)⟩) ?_
    refine mj_all_cons 130 rfl (trivial) ?_
    refine mj_all_cons 131 rfl (trivial) ?_
    refine mj_all_cons 132 rfl (show _ = _ from by decide +kernel) ?_
    refine mj_all_cons 133 rfl (trivial) ?_
    refine mj_all_cons 134 rfl (trivial) ?_
    refine mj_all_cons 135 rfl (Or.inl ⟨0, by decide +kernel, rfl, rfl⟩) ?_
    refine mj_all_cons 136 rfl (⟨63, "ListSpeakerModel", mjF9, 46, by decide +kernel, rfl, by decide, mw_1004, mjw9⟩) ?_
    refine mj_all_cons 137 rfl (trivial) ?_
    refine mj_all_cons 138 rfl (trivial) ?_
    refine mj_all_cons 139 rfl (Or.inl ⟨0, by decide +kernel, rfl, rfl⟩) ?_
    refine mj_all_cons 140 rfl (⟨174, "ListSpeakerModel", mjF9, 46, by decide +kernel, rfl, by decide, mw_1001, mjw9⟩) ?_
    refine mj_all_cons 141 rfl (trivial) ?_
    refine mj_all_cons 142 rfl (trivial) ?_
    refine mj_all_cons 143 rfl (show _ = _ from by decide +kernel) ?_
    refine mj_all_cons 144 rfl (Or.inl ⟨3, by decide +kernel, rfl, rfl⟩) ?_
    refine mj_all_cons 145 rfl (Or.inl ⟨0, by decide +kernel, rfl, rfl⟩) ?_
    refine mj_all_cons 146 rfl (Or.inl ⟨2, by decide +kernel, rfl, rfl⟩) ?_
    refine mj_all_cons 147 rfl (⟨mjmM5, 111, 1, rfl, by decide, mjmd5, mw_16, Or.inl ⟨9, mjF9, 46, by decide +kernel, rfl, rfl, rfl, mw_1197, mw_1199, mjsel_74⟩⟩) ?_
    refine mj_all_cons 148 rfl (trivial) ?_
    refine mj_all_cons 149 rfl (trivial) ?_
    refine mj_all_cons 150 rfl (Or.inr ⟨by decide +kernel, rfl⟩) ?_
    refine mj_all_cons 151 rfl (trivial) ?_
    refine mj_all_cons 152 rfl (Or.inl ⟨0, by decide +kernel, rfl, rfl⟩) ?_
    refine mj_all_cons 153 rfl (Or.inl ⟨by decide +kernel, rfl⟩) ?_
    refine mj_all_cons 154 rfl (Or.inl ⟨0, by decide +kernel, rfl, rfl⟩) ?_
    refine mj_all_cons 155 rfl (Or.inl ⟨2, by decide +kernel, rfl, rfl⟩) ?_
    refine mj_all_cons 156 rfl (⟨mjmM6, 107, 1, rfl, by decide, mjmd6, mw_16, Or.inl ⟨9, mjF9, 46, by decide +kernel, rfl, rfl, rfl, mw_1210, mw_1212, mjsel_77⟩⟩) ?_
    refine mj_all_cons 157 rfl (trivial) ?_
    refine mj_all_cons 158 rfl (trivial) ?_
    refine mj_all_cons 159 rfl (Or.inl ⟨3, by decide +kernel, rfl, rfl⟩) ?_
    refine mj_all_cons 160 rfl (Or.inl ⟨by decide +kernel, rfl⟩) ?_
    refine mj_all_cons 161 rfl (⟨mjmM24, 183, 4, rfl, by decide, mjmd24, mw_16, Or.inl ⟨9, mjF9, 46, by decide +kernel, rfl, rfl, rfl, mw_1239, mw_1241, mjsel_83⟩⟩) ?_
    refine mj_all_cons 162 rfl (trivial) ?_
    refine mj_all_cons 163 rfl (trivial) ?_
    refine mj_all_cons 164 rfl (Or.inl ⟨3, by decide +kernel, rfl, rfl⟩) ?_
    refine mj_all_cons 165 rfl (Or.inl ⟨by decide +kernel, rfl⟩) ?_
    refine mj_all_cons 166 rfl (show _ = _ from by decide +kernel) ?_
    refine mj_all_cons 167 rfl (trivial) ?_
    refine mj_all_cons 168 rfl (trivial) ?_
    refine mj_all_cons 169 rfl (Or.inl ⟨0, by decide +kernel, rfl, rfl⟩) ?_
    refine mj_all_cons 170 rfl (Or.inr (Or.inl ⟨by decide +kernel, rfl, by decide⟩)) ?_
    refine mj_all_cons 171 rfl (trivial) ?_
    refine mj_all_cons 172 rfl (Or.inl ⟨0, by decide +kernel, rfl, rfl⟩) ?_
    refine mj_all_cons 173 rfl (Or.inr ⟨by decide +kernel, rfl⟩) ?_
    refine mj_all_cons 174 rfl (trivial) ?_
    refine mj_all_cons 175 rfl (Or.inl ⟨by decide +kernel, rfl⟩) ?_
    refine mj_all_cons 176 rfl (⟨mjmM8, 193, 2, rfl, by decide, mjmd8, mw_16, Or.inl ⟨9, mjF9, 46, by decide +kernel, rfl, rfl, rfl, mw_1214, mw_1216, mjsel_78⟩⟩) ?_
    refine mj_all_cons 177 rfl (trivial) ?_
    refine mj_all_cons 178 rfl (trivial) ?_
    refine mj_all_cons 179 rfl (Or.inl ⟨by decide +kernel, rfl⟩) ?_
    refine mj_all_cons 180 rfl (Or.inl ⟨by decide +kernel, rfl⟩) ?_
    refine mj_all_cons 181 rfl (⟨mjmM24, 183, 4, rfl, by decide, mjmd24, mw_16, Or.inl ⟨9, mjF9, 46, by decide +kernel, rfl, rfl, rfl, mw_1239, mw_1241, mjsel_83⟩⟩) ?_
    refine mj_all_cons 182 rfl (trivial) ?_
    refine mj_all_cons 183 rfl (trivial) ?_
    refine mj_all_cons 184 rfl (Or.inl ⟨0, by decide +kernel, rfl, rfl⟩) ?_
    refine mj_all_cons 185 rfl (Or.inr (Or.inl ⟨by decide +kernel, rfl, by decide⟩)) ?_
    refine mj_all_cons 186 rfl (trivial) ?_
    refine mj_all_cons 187 rfl (Or.inl ⟨3, by decide +kernel, rfl, rfl⟩) ?_
    refine mj_all_cons 188 rfl (show _ = _ from by decide +kernel) ?_
    refine mj_all_cons 189 rfl (trivial) ?_
    refine mj_all_cons 190 rfl (trivial) ?_
    refine mj_all_cons 191 rfl (Or.inr ⟨by decide +kernel, rfl⟩) ?_
    refine mj_all_cons 192 rfl (trivial) ?_
    refine mj_all_cons 193 rfl (show _ = _ from by decide +kernel) ?_
    refine mj_all_cons 194 rfl (trivial) ?_
    refine mj_all_cons 195 rfl (trivial) ?_
    refine mj_all_cons 196 rfl (Or.inl ⟨3, by decide +kernel, rfl, rfl⟩) ?_
    refine mj_all_cons 197 rfl (Or.inl ⟨by decide +kernel, rfl⟩) ?_
    refine mj_all_cons 198 rfl (show _ = _ from by decide +kernel) ?_
    refine mj_all_cons 199 rfl (trivial) ?_
    refine mj_all_cons 200 rfl (trivial) ?_
    refine mj_all_cons 201 rfl (Or.inl ⟨0, by decide +kernel, rfl, rfl⟩) ?_
    refine mj_all_cons 202 rfl (Or.inr ⟨by decide +kernel, rfl⟩) ?_
    refine mj_all_cons 203 rfl (trivial) ?_
    refine mj_all_cons 204 rfl (Or.inl ⟨by decide +kernel, rfl⟩) ?_
    refine mj_all_cons 205 rfl (⟨mjmM8, 193, 2, rfl, by decide, mjmd8, mw_16, Or.inl ⟨9, mjF9, 46, by decide +kernel, rfl, rfl, rfl, mw_1214, mw_1216, mjsel_78⟩⟩) ?_
    refine mj_all_cons 206 rfl (trivial) ?_
    refine mj_all_cons 207 rfl (trivial) ?_
    refine mj_all_cons 208 rfl (show _ = _ from by decide +kernel) ?_
    refine mj_all_cons 209 rfl (trivial) ?_
    refine mj_all_cons 210 rfl (trivial) ?_
    refine mj_all_cons 211 rfl (Or.inl ⟨0, by decide +kernel, rfl, rfl⟩) ?_
    refine mj_all_cons 212 rfl (Or.inr ⟨by decide +kernel, rfl⟩) ?_
    refine mj_all_cons 213 rfl (trivial) ?_
    refine mj_all_cons 214 rfl (⟨mjmM5, 111, 1, rfl, by decide, mjmd5, mw_16, Or.inl ⟨9, mjF9, 46, by decide +kernel, rfl, rfl, rfl, mw_1197, mw_1199, mjsel_74⟩⟩) ?_
    refine mj_all_cons 215 rfl (trivial) ?_
    refine mj_all_cons 216 rfl (trivial) ?_
    refine mj_all_cons 217 rfl (Or.inl ⟨by decide +kernel, rfl⟩) ?_
    refine mj_all_cons 218 rfl (Or.inl ⟨by decide +kernel, rfl⟩) ?_
    refine mj_all_cons 219 rfl (⟨mjmM24, 183, 4, rfl, by decide, mjmd24, mw_16, Or.inl ⟨9, mjF9, 46, by decide +kernel, rfl, rfl, rfl, mw_1239, mw_1241, mjsel_83⟩⟩) ?_
    refine mj_all_cons 220 rfl (trivial) ?_
    refine mj_all_cons 221 rfl (trivial) ?_
    refine mj_all_cons 222 rfl (show _ = _ from by decide +kernel) ?_
    refine mj_all_cons 223 rfl (trivial) ?_
    refine mj_all_cons 224 rfl (trivial) ?_
    refine mj_all_cons 225 rfl (show _ = _ from by decide +kernel) ?_
    exact trivial
  intro pc o ho
  have := mj_all_get _ 0 h pc o ho
  rw [Nat.zero_add] at this
  exact this
