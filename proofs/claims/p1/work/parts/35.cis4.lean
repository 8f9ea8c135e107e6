set_option maxRecDepth 100000 in
theorem mjci74 : ∀ (pc : Nat) (o : mj_O), mjco74[pc]? = some o → mj_is mj_kl mjcM74.1.cls mj_WS mj_NWs mjc_Ms mjcM74.2.1 pc o := by
  have h : mj_all (mj_is mj_kl mjcM74.1.cls mj_WS mj_NWs mjc_Ms mjcM74.2.1) 0 mjco74 := by
    unfold mjco74
    refine mj_all_cons 1 rfl (Or.inl ⟨2, by decide +kernel, rfl, rfl⟩) ?_
    refine mj_all_cons 2 rfl (Or.inl ⟨by decide +kernel, rfl⟩) ?_
    refine mj_all_cons 3 rfl (show _ = _ from by decide +kernel) ?_
    refine mj_all_cons 4 rfl (trivial) ?_
    refine mj_all_cons 5 rfl (trivial) ?_
    refine mj_all_cons 6 rfl (Or.inl ⟨by decide +kernel, rfl⟩) ?_
    refine mj_all_cons 7 rfl (show _ = _ from by decide +kernel) ?_
    refine mj_all_cons 8 rfl (Or.inl ⟨0, by decide +kernel, rfl, rfl⟩) ?_
    refine mj_all_cons 9 rfl (⟨22, "ListSpeaker$Maker", mjF5, 5, by decide +kernel, rfl, by decide, mw_209, mjw5⟩) ?_
    refine mj_all_cons 10 rfl (trivial) ?_
    refine mj_all_cons 11 rfl (trivial) ?_
    refine mj_all_cons 12 rfl (Or.inl ⟨by decide +kernel, rfl⟩) ?_
    refine mj_all_cons 13 rfl (Or.inl ⟨0, by decide +kernel, rfl, rfl⟩) ?_
    refine mj_all_cons 14 rfl (⟨18, "ListSpeaker$Maker", mjF5, 5, by decide +kernel, rfl, by decide, mw_208, mjw5⟩) ?_
    refine mj_all_cons 15 rfl (trivial) ?_
    refine mj_all_cons 16 rfl (trivial) ?_
    refine mj_all_cons 17 rfl (Or.inl ⟨1, by decide +kernel, rfl, rfl⟩) ?_
    refine mj_all_cons 18 rfl (⟨mjcM20, 62, 1, rfl, by decide, mjcd20, mw_8, Or.inl ⟨2, mjF2, 12, by decide +kernel, rfl, rfl, rfl, mw_623, mw_588, mw_589⟩⟩) ?_
    refine mj_all_cons 19 rfl (trivial) ?_
    refine mj_all_cons 20 rfl (trivial) ?_
    refine mj_all_cons 21 rfl (⟨mjcM59, 34, 2, rfl, by decide, mjcd59, mw_11, Or.inl ⟨4, mjF4, 4, by decide +kernel, rfl, rfl, rfl, mw_644, mw_645, mw_646⟩⟩) ?_
    refine mj_all_cons 22 rfl (trivial) ?_
    refine mj_all_cons 23 rfl (trivial) ?_
    refine mj_all_cons 24 rfl (show _ = _ from by decide +kernel) ?_
    refine mj_all_cons 25 rfl (Or.inl ⟨by decide +kernel, rfl⟩) ?_
    refine mj_all_cons 26 rfl (show _ = _ from by decide +kernel) ?_
    exact trivial
  intro pc o ho
  have := mj_all_get _ 0 h pc o ho
  rw [Nat.zero_add] at this
  exact this
set_option maxRecDepth 100000 in
theorem mjci75 : ∀ (pc : Nat) (o : mj_O), mjco75[pc]? = some o → mj_is mj_kl mjcM75.1.cls mj_WS mj_NWs mjc_Ms mjcM75.2.1 pc o := by
  have h : mj_all (mj_is mj_kl mjcM75.1.cls mj_WS mj_NWs mjc_Ms mjcM75.2.1) 0 mjco75 := by
    unfold mjco75
    refine mj_all_cons 1 rfl (Or.inl ⟨1, by decide +kernel, rfl, rfl⟩) ?_
    refine mj_all_cons 2 rfl (⟨mjcM71, 109, 1, rfl, by decide, mjcd71, mw_12, Or.inr (Or.inl ⟨by decide +kernel, rfl, rfl, mw_693, mw_694⟩)⟩) ?_
    refine mj_all_cons 3 rfl (trivial) ?_
    refine mj_all_cons 4 rfl (trivial) ?_
    refine mj_all_cons 5 rfl (show _ = _ from by decide +kernel) ?_
    refine mj_all_cons 6 rfl (trivial) ?_
    refine mj_all_cons 7 rfl (trivial) ?_
    refine mj_all_cons 8 rfl (Or.inl ⟨0, by decide +kernel, rfl, rfl⟩) ?_
    refine mj_all_cons 9 rfl (⟨22, "ListSpeaker$Maker", mjF5, 5, by decide +kernel, rfl, by decide, mw_209, mjw5⟩) ?_
    refine mj_all_cons 10 rfl (trivial) ?_
    refine mj_all_cons 11 rfl (trivial) ?_
    refine mj_all_cons 12 rfl (Or.inl ⟨1, by decide +kernel, rfl, rfl⟩) ?_
    refine mj_all_cons 13 rfl (Or.inl ⟨by decide +kernel, rfl⟩) ?_
    refine mj_all_cons 14 rfl (⟨mjcM59, 34, 2, rfl, by decide, mjcd59, mw_11, Or.inl ⟨4, mjF4, 4, by decide +kernel, rfl, rfl, rfl, mw_644, mw_645, mw_646⟩⟩) ?_
    refine mj_all_cons 15 rfl (trivial) ?_
    refine mj_all_cons 16 rfl (trivial) ?_
    refine mj_all_cons 17 rfl (show _ = _ from by decide +kernel) ?_
    refine mj_all_cons 18 rfl (show _ = _ from by decide +kernel) ?_
    refine mj_all_cons 19 rfl (trivial) ?_
    refine mj_all_cons 20 rfl (trivial) ?_
    refine mj_all_cons 21 rfl (Or.inl ⟨1, by decide +kernel, rfl, rfl⟩) ?_
    refine mj_all_cons 22 rfl (Or.inr (Or.inr (Or.inr (Or.inl ⟨124, by decide +kernel, rfl, mw_708⟩)))) ?_
    refine mj_all_cons 23 rfl (trivial) ?_
    refine mj_all_cons 24 rfl (show _ = _ from by decide +kernel) ?_
    refine mj_all_cons 25 rfl (trivial) ?_
    refine mj_all_cons 26 rfl (trivial) ?_
    refine mj_all_cons 27 rfl (Or.inl ⟨0, by decide +kernel, rfl, rfl⟩) ?_
    refine mj_all_cons 28 rfl (⟨22, "ListSpeaker$Maker", mjF5, 5, by decide +kernel, rfl, by decide, mw_209, mjw5⟩) ?_
    refine mj_all_cons 29 rfl (trivial) ?_
    refine mj_all_cons 30 rfl (trivial) ?_
    refine mj_all_cons 31 rfl (Or.inl ⟨by decide +kernel, rfl⟩) ?_
    refine mj_all_cons 32 rfl (Or.inr (Or.inr (Or.inr (Or.inl ⟨75, by decide +kernel, rfl, mw_631⟩)))) ?_
    refine mj_all_cons 33 rfl (trivial) ?_
    refine mj_all_cons 34 rfl (⟨mjcM59, 34, 2, rfl, by decide, mjcd59, mw_11, Or.inl ⟨4, mjF4, 4, by decide +kernel, rfl, rfl, rfl, mw_644, mw_645, mw_646⟩⟩) ?_
    refine mj_all_cons 35 rfl (trivial) ?_
    refine mj_all_cons 36 rfl (trivial) ?_
    refine mj_all_cons 37 rfl (show _ = _ from by decide +kernel) ?_
    refine mj_all_cons 38 rfl (Or.inl ⟨by decide +kernel, rfl⟩) ?_
    refine mj_all_cons 39 rfl (Or.inr ⟨by decide +kernel, rfl⟩) ?_
    refine mj_all_cons 40 rfl (trivial) ?_
    refine mj_all_cons 41 rfl (Or.inr ⟨by decide +kernel, rfl⟩) ?_
    refine mj_all_cons 42 rfl (trivial) ?_
    refine mj_all_cons 43 rfl (Or.inl ⟨2, by decide +kernel, rfl, rfl⟩) ?_
    refine mj_all_cons 44 rfl (show _ = _ from by decide +kernel) ?_
    refine mj_all_cons 45 rfl (trivial) ?_
    refine mj_all_cons 46 rfl (trivial) ?_
    refine mj_all_cons 47 rfl (Or.inl ⟨0, by decide +kernel, rfl, rfl⟩) ?_
    refine mj_all_cons 48 rfl (⟨22, "ListSpeaker$Maker", mjF5, 5, by decide +kernel, rfl, by decide, mw_209, mjw5⟩) ?_
    refine mj_all_cons 49 rfl (trivial) ?_
    refine mj_all_cons 50 rfl (trivial) ?_
    refine mj_all_cons 51 rfl (Or.inr (Or.inr (Or.inr (Or.inl ⟨123, by decide +kernel, rfl, mw_696⟩)))) ?_
    refine mj_all_cons 52 rfl (trivial) ?_
    refine mj_all_cons 53 rfl (Or.inl ⟨by decide +kernel, rfl⟩) ?_
    refine mj_all_cons 54 rfl (⟨mjcM59, 34, 2, rfl, by decide, mjcd59, mw_11, Or.inl ⟨4, mjF4, 4, by decide +kernel, rfl, rfl, rfl, mw_644, mw_645, mw_646⟩⟩) ?_
    refine mj_all_cons 55 rfl (trivial) ?_
    refine mj_all_cons 56 rfl (trivial) ?_
    refine mj_all_cons 57 rfl (show _ = _ from by decide +kernel) ?_
    refine mj_all_cons 58 rfl (show _ = _ from by decide +kernel) ?_
    refine mj_all_cons 59 rfl (trivial) ?_
    refine mj_all_cons 60 rfl (trivial) ?_
    refine mj_all_cons 61 rfl (show _ = _ from by decide +kernel) ?_
    refine mj_all_cons 62 rfl (trivial) ?_
    refine mj_all_cons 63 rfl (trivial) ?_
    refine mj_all_cons 64 rfl (show _ = _ from by decide +kernel) ?_
    refine mj_all_cons 65 rfl (trivial) ?_
    refine mj_all_cons 66 rfl (trivial) ?_
    refine mj_all_cons 67 rfl (Or.inl ⟨0, by decide +kernel, rfl, rfl⟩) ?_
    refine mj_all_cons 68 rfl (⟨22, "ListSpeaker$Maker", mjF5, 5, by decide +kernel, rfl, by decide, mw_209, mjw5⟩) ?_
    refine mj_all_cons 69 rfl (trivial) ?_
    refine mj_all_cons 70 rfl (trivial) ?_
    refine mj_all_cons 71 rfl (Or.inl ⟨3, by decide +kernel, rfl, rfl⟩) ?_
    refine mj_all_cons 72 rfl (show _ = _ from by decide +kernel) ?_
    refine mj_all_cons 73 rfl (trivial) ?_
    refine mj_all_cons 74 rfl (trivial) ?_
    refine mj_all_cons 75 rfl (Or.inr (Or.inl ⟨by decide +kernel, rfl, by decide⟩)) ?_
    refine mj_all_cons 76 rfl (trivial) ?_
    refine mj_all_cons 77 rfl (show _ = _ from by decide +kernel) ?_
    refine mj_all_cons 78 rfl (trivial) ?_
    refine mj_all_cons 79 rfl (trivial) ?_
    refine mj_all_cons 80 rfl (Or.inr (Or.inl ⟨by decide +kernel, rfl, by decide⟩)) ?_
    refine mj_all_cons 81 rfl (trivial) ?_
    refine mj_all_cons 82 rfl (Or.inl ⟨1, by decide +kernel, rfl, rfl⟩) ?_
    refine mj_all_cons 83 rfl (Or.inl ⟨2, by decide +kernel, rfl, rfl⟩) ?_
    refine mj_all_cons 84 rfl (⟨mjcM60, 125, 3, rfl, by decide, mjcd60, mw_11, Or.inl ⟨4, mjF4, 4, by decide +kernel, rfl, rfl, rfl, mw_709, mw_649, mw_650⟩⟩) ?_
    refine mj_all_cons 85 rfl (trivial) ?_
    refine mj_all_cons 86 rfl (trivial) ?_
    refine mj_all_cons 87 rfl (show _ = _ from by decide +kernel) ?_
    refine mj_all_cons 88 rfl (show _ = _ from by decide +kernel) ?_
    exact trivial
  intro pc o ho
  have := mj_all_get _ 0 h pc o ho
  rw [Nat.zero_add] at this
  exact this
set_option maxRecDepth 100000 in
theorem mjci76 : ∀ (pc : Nat) (o : mj_O), mjco76[pc]? = some o → mj_is mj_kl mjcM76.1.cls mj_WS mj_NWs mjc_Ms mjcM76.2.1 pc o := by
  have h : mj_all (mj_is mj_kl mjcM76.1.cls mj_WS mj_NWs mjc_Ms mjcM76.2.1) 0 mjco76 := by
    unfold mjco76
    refine mj_all_cons 1 rfl (Or.inl ⟨0, by decide +kernel, rfl, rfl⟩) ?_
    refine mj_all_cons 2 rfl (Or.inl ⟨0, by decide +kernel, rfl, rfl⟩) ?_
    refine mj_all_cons 3 rfl (⟨18, "ListSpeaker$Maker", mjF5, 5, by decide +kernel, rfl, by decide, mw_208, mjw5⟩) ?_
    refine mj_all_cons 4 rfl (trivial) ?_
    refine mj_all_cons 5 rfl (trivial) ?_
    refine mj_all_cons 6 rfl (Or.inl ⟨1, by decide +kernel, rfl, rfl⟩) ?_
    refine mj_all_cons 7 rfl (⟨mjcM20, 62, 1, rfl, by decide, mjcd20, mw_8, Or.inl ⟨2, mjF2, 12, by decide +kernel, rfl, rfl, rfl, mw_623, mw_588, mw_589⟩⟩) ?_
    refine mj_all_cons 8 rfl (trivial) ?_
    refine mj_all_cons 9 rfl (trivial) ?_
    refine mj_all_cons 10 rfl (Or.inl ⟨2, by decide +kernel, rfl, rfl⟩) ?_
    refine mj_all_cons 11 rfl (Or.inl ⟨by decide +kernel, rfl⟩) ?_
    refine mj_all_cons 12 rfl (Or.inr ⟨by decide +kernel, rfl⟩) ?_
    refine mj_all_cons 13 rfl (trivial) ?_
    refine mj_all_cons 14 rfl (⟨mjcM68, 30, 4, rfl, by decide, mjcd68, mw_12, Or.inl ⟨5, mjF5, 5, by decide +kernel, rfl, rfl, rfl, mw_640, mw_642, mjsel_20⟩⟩) ?_
    refine mj_all_cons 15 rfl (trivial) ?_
    refine mj_all_cons 16 rfl (trivial) ?_
    refine mj_all_cons 17 rfl (Or.inr ⟨by decide +kernel, rfl⟩) ?_
    refine mj_all_cons 18 rfl (trivial) ?_
    refine mj_all_cons 19 rfl (Or.inr ⟨by decide +kernel, rfl⟩) ?_
    refine mj_all_cons 20 rfl (trivial) ?_
    refine mj_all_cons 21 rfl (show _ = _ from by decide +kernel) ?_
    refine mj_all_cons 22 rfl (trivial) ?_
    refine mj_all_cons 23 rfl (trivial) ?_
    refine mj_all_cons 24 rfl (Or.inr ⟨by decide +kernel, rfl⟩) ?_
    refine mj_all_cons 25 rfl (trivial) ?_
    refine mj_all_cons 26 rfl (show _ = _ from by decide +kernel) ?_
    refine mj_all_cons 27 rfl (Or.inl ⟨0, by decide +kernel, rfl, rfl⟩) ?_
    refine mj_all_cons 28 rfl (⟨22, "ListSpeaker$Maker", mjF5, 5, by decide +kernel, rfl, by decide, mw_209, mjw5⟩) ?_
    refine mj_all_cons 29 rfl (trivial) ?_
    refine mj_all_cons 30 rfl (trivial) ?_
    refine mj_all_cons 31 rfl (Or.inl ⟨by decide +kernel, rfl⟩) ?_
    refine mj_all_cons 32 rfl (Or.inl ⟨by decide +kernel, rfl⟩) ?_
    refine mj_all_cons 33 rfl (⟨mjcM59, 34, 2, rfl, by decide, mjcd59, mw_11, Or.inl ⟨4, mjF4, 4, by decide +kernel, rfl, rfl, rfl, mw_644, mw_645, mw_646⟩⟩) ?_
    refine mj_all_cons 34 rfl (trivial) ?_
    refine mj_all_cons 35 rfl (trivial) ?_
    refine mj_all_cons 36 rfl (Or.inr ⟨by decide +kernel, rfl⟩) ?_
    refine mj_all_cons 37 rfl (trivial) ?_
    refine mj_all_cons 38 rfl (Or.inl ⟨0, by decide +kernel, rfl, rfl⟩) ?_
    refine mj_all_cons 39 rfl (Or.inl ⟨0, by decide +kernel, rfl, rfl⟩) ?_
    refine mj_all_cons 40 rfl (⟨18, "ListSpeaker$Maker", mjF5, 5, by decide +kernel, rfl, by decide, mw_208, mjw5⟩) ?_
    refine mj_all_cons 41 rfl (trivial) ?_
    refine mj_all_cons 42 rfl (trivial) ?_
    refine mj_all_cons 43 rfl (Or.inl ⟨1, by decide +kernel, rfl, rfl⟩) ?_
    refine mj_all_cons 44 rfl (Or.inl ⟨by decide +kernel, rfl⟩) ?_
    refine mj_all_cons 45 rfl (⟨mjcM22, 40, 2, rfl, by decide, mjcd22, mw_8, Or.inl ⟨2, mjF2, 12, by decide +kernel, rfl, rfl, rfl, mw_597, mw_598, mw_599⟩⟩) ?_
    refine mj_all_cons 46 rfl (trivial) ?_
    refine mj_all_cons 47 rfl (trivial) ?_
    refine mj_all_cons 48 rfl (Or.inl ⟨2, by decide +kernel, rfl, rfl⟩) ?_
    refine mj_all_cons 49 rfl (Or.inl ⟨3, by decide +kernel, rfl, rfl⟩) ?_
    refine mj_all_cons 50 rfl (Or.inr ⟨by decide +kernel, rfl⟩) ?_
    refine mj_all_cons 51 rfl (trivial) ?_
    refine mj_all_cons 52 rfl (⟨mjcM68, 30, 4, rfl, by decide, mjcd68, mw_12, Or.inl ⟨5, mjF5, 5, by decide +kernel, rfl, rfl, rfl, mw_640, mw_642, mjsel_20⟩⟩) ?_
    refine mj_all_cons 53 rfl (trivial) ?_
    refine mj_all_cons 54 rfl (trivial) ?_
    refine mj_all_cons 55 rfl (Or.inr ⟨by decide +kernel, rfl⟩) ?_
    refine mj_all_cons 56 rfl (trivial) ?_
    refine mj_all_cons 57 rfl (Or.inr ⟨by decide +kernel, rfl⟩) ?_
    refine mj_all_cons 58 rfl (trivial) ?_
    refine mj_all_cons 59 rfl (show _ = _ from by decide +kernel) ?_
    refine mj_all_cons 60 rfl (trivial) ?_
    refine mj_all_cons 61 rfl (trivial) ?_
    refine mj_all_cons 62 rfl (Or.inr ⟨by decide +kernel, rfl⟩) ?_
    refine mj_all_cons 63 rfl (trivial) ?_
    refine mj_all_cons 64 rfl (show _ = _ from by decide +kernel) ?_
    refine mj_all_cons 65 rfl (Or.inl ⟨0, by decide +kernel, rfl, rfl⟩) ?_
    refine mj_all_cons 66 rfl (⟨22, "ListSpeaker$Maker", mjF5, 5, by decide +kernel, rfl, by decide, mw_209, mjw5⟩) ?_
    refine mj_all_cons 67 rfl (trivial) ?_
    refine mj_all_cons 68 rfl (trivial) ?_
    refine mj_all_cons 69 rfl (Or.inl ⟨by decide +kernel, rfl⟩) ?_
    refine mj_all_cons 70 rfl (Or.inl ⟨by decide +kernel, rfl⟩) ?_
    refine mj_all_cons 71 rfl (⟨mjcM59, 34, 2, rfl, by decide, mjcd59, mw_11, Or.inl ⟨4, mjF4, 4, by decide +kernel, rfl, rfl, rfl, mw_644, mw_645, mw_646⟩⟩) ?_
    refine mj_all_cons 72 rfl (trivial) ?_
    refine mj_all_cons 73 rfl (trivial) ?_
    refine mj_all_cons 74 rfl (Or.inr ⟨by decide +kernel, rfl⟩) ?_
    refine mj_all_cons 75 rfl (trivial) ?_
    refine mj_all_cons 76 rfl (Or.inl ⟨0, by decide +kernel, rfl, rfl⟩) ?_
    refine mj_all_cons 77 rfl (⟨22, "ListSpeaker$Maker", mjF5, 5, by decide +kernel, rfl, by decide, mw_209, mjw5⟩) ?_
    refine mj_all_cons 78 rfl (trivial) ?_
    refine mj_all_cons 79 rfl (trivial) ?_
    refine mj_all_cons 80 rfl (Or.inr ⟨by decide +kernel, rfl⟩) ?_
    refine mj_all_cons 81 rfl (trivial) ?_
    refine mj_all_cons 82 rfl (⟨mjcM61, 129, 1, rfl, by decide, mjcd61, mw_11, Or.inl ⟨4, mjF4, 4, by decide +kernel, rfl, rfl, rfl, mw_672, mw_673, mw_674⟩⟩) ?_
    refine mj_all_cons 83 rfl (trivial) ?_
    refine mj_all_cons 84 rfl (trivial) ?_
    refine mj_all_cons 85 rfl (Or.inl ⟨0, by decide +kernel, rfl, rfl⟩) ?_
    refine mj_all_cons 86 rfl (Or.inl ⟨0, by decide +kernel, rfl, rfl⟩) ?_
    refine mj_all_cons 87 rfl (⟨18, "ListSpeaker$Maker", mjF5, 5, by decide +kernel, rfl, by decide, mw_208, mjw5⟩) ?_
    refine mj_all_cons 88 rfl (trivial) ?_
    refine mj_all_cons 89 rfl (trivial) ?_
    refine mj_all_cons 90 rfl (Or.inl ⟨1, by decide +kernel, rfl, rfl⟩) ?_
    refine mj_all_cons 91 rfl (Or.inl ⟨by decide +kernel, rfl⟩) ?_
    refine mj_all_cons 92 rfl (⟨mjcM22, 40, 2, rfl, by decide, mjcd22, mw_8, Or.inl ⟨2, mjF2, 12, by decide +kernel, rfl, rfl, rfl, mw_597, mw_598, mw_599⟩⟩) ?_
    refine mj_all_cons 93 rfl (trivial) ?_
    refine mj_all_cons 94 rfl (trivial) ?_
    refine mj_all_cons 95 rfl (Or.inl ⟨2, by decide +kernel, rfl, rfl⟩) ?_
    refine mj_all_cons 96 rfl (Or.inl ⟨3, by decide +kernel, rfl, rfl⟩) ?_
    refine mj_all_cons 97 rfl (Or.inr ⟨by decide +kernel, rfl⟩) ?_
    refine mj_all_cons 98 rfl (trivial) ?_
    refine mj_all_cons 99 rfl (⟨mjcM68, 30, 4, rfl, by decide, mjcd68, mw_12, Or.inl ⟨5, mjF5, 5, by decide +kernel, rfl, rfl, rfl, mw_640, mw_642, mjsel_20⟩⟩) ?_
    refine mj_all_cons 100 rfl (trivial) ?_
    refine mj_all_cons 101 rfl (trivial) ?_
    refine mj_all_cons 102 rfl (Or.inr ⟨by decide +kernel, rfl⟩) ?_
    refine mj_all_cons 103 rfl (trivial) ?_
    refine mj_all_cons 104 rfl (Or.inl ⟨0, by decide +kernel, rfl, rfl⟩) ?_
    refine mj_all_cons 105 rfl (⟨22, "ListSpeaker$Maker", mjF5, 5, by decide +kernel, rfl, by decide, mw_209, mjw5⟩) ?_
    refine mj_all_cons 106 rfl (trivial) ?_
    refine mj_all_cons 107 rfl (trivial) ?_
    refine mj_all_cons 108 rfl (Or.inr ⟨by decide +kernel, rfl⟩) ?_
    refine mj_all_cons 109 rfl (trivial) ?_
    refine mj_all_cons 110 rfl (⟨mjcM61, 129, 1, rfl, by decide, mjcd61, mw_11, Or.inl ⟨4, mjF4, 4, by decide +kernel, rfl, rfl, rfl, mw_672, mw_673, mw_674⟩⟩) ?_
    refine mj_all_cons 111 rfl (trivial) ?_
    refine mj_all_cons 112 rfl (trivial) ?_
    refine mj_all_cons 113 rfl (Or.inr ⟨by decide +kernel, rfl⟩) ?_
    refine mj_all_cons 114 rfl (trivial) ?_
    refine mj_all_cons 115 rfl (show _ = _ from by decide +kernel) ?_
    exact trivial
  intro pc o ho
  have := mj_all_get _ 0 h pc o ho
  rw [Nat.zero_add] at this
  exact this
set_option maxRecDepth 100000 in
theorem mjci77 : ∀ (pc : Nat) (o : mj_O), mjco77[pc]? = some o → mj_is mj_kl mjcM77.1.cls mj_WS mj_NWs mjc_Ms mjcM77.2.1 pc o := by
  have h : mj_all (mj_is mj_kl mjcM77.1.cls mj_WS mj_NWs mjc_Ms mjcM77.2.1) 0 mjco77 := by
    unfold mjco77
    refine mj_all_cons 1 rfl (Or.inl ⟨0, by decide +kernel, rfl, rfl⟩) ?_
    refine mj_all_cons 2 rfl (⟨18, "ListSpeaker$Maker", mjF5, 5, by decide +kernel, rfl, by decide, mw_208, mjw5⟩) ?_
    refine mj_all_cons 3 rfl (trivial) ?_
    refine mj_all_cons 4 rfl (trivial) ?_
    refine mj_all_cons 5 rfl (Or.inl ⟨1, by decide +kernel, rfl, rfl⟩) ?_
    refine mj_all_cons 6 rfl (⟨mjcM20, 62, 1, rfl, by decide, mjcd20, mw_8, Or.inl ⟨2, mjF2, 12, by decide +kernel, rfl, rfl, rfl, mw_623, mw_588, mw_589⟩⟩) ?_
    refine mj_all_cons 7 rfl (trivial) ?_
    refine mj_all_cons 8 rfl (trivial) ?_
    refine mj_all_cons 9 rfl (Or.inr ⟨by decide +kernel, rfl⟩) ?_
    refine mj_all_cons 10 rfl (trivial) ?_
    refine mj_all_cons 11 rfl (Or.inl ⟨0, by decide +kernel, rfl, rfl⟩) ?_
    refine mj_all_cons 12 rfl (⟨18, "ListSpeaker$Maker", mjF5, 5, by decide +kernel, rfl, by decide, mw_208, mjw5⟩) ?_
    refine mj_all_cons 13 rfl (trivial) ?_
    refine mj_all_cons 14 rfl (trivial) ?_
    refine mj_all_cons 15 rfl (Or.inr ⟨by decide +kernel, rfl⟩) ?_
    refine mj_all_cons 16 rfl (trivial) ?_
    refine mj_all_cons 17 rfl (⟨mjcM23, 45, 1, rfl, by decide, mjcd23, mw_8, Or.inl ⟨2, mjF2, 12, by decide +kernel, rfl, rfl, rfl, mw_606, mw_607, mw_608⟩⟩) ?_
    refine mj_all_cons 18 rfl (trivial) ?_
    refine mj_all_cons 19 rfl (trivial) ?_
    refine mj_all_cons 20 rfl (Or.inr ⟨by decide +kernel, rfl⟩) ?_
    refine mj_all_cons 21 rfl (trivial) ?_
    refine mj_all_cons 22 rfl (Or.inr ⟨by decide +kernel, rfl⟩) ?_
    refine mj_all_cons 23 rfl (trivial) ?_
    refine mj_all_cons 24 rfl (show _ = _ from by decide +kernel) ?_
    refine mj_all_cons 25 rfl (trivial) ?_
    refine mj_all_cons 26 rfl (trivial) ?_
    refine mj_all_cons 27 rfl (Or.inl ⟨0, by decide +kernel, rfl, rfl⟩) ?_
    refine mj_all_cons 28 rfl (Or.inr ⟨by decide +kernel, rfl⟩) ?_
    refine mj_all_cons 29 rfl (trivial) ?_
    refine mj_all_cons 30 rfl (Or.inr ⟨by decide +kernel, rfl⟩) ?_
    refine mj_all_cons 31 rfl (trivial) ?_
    refine mj_all_cons 32 rfl (⟨mjcM78, 98, 2, rfl, by decide, mjcd78, mw_12, Or.inl ⟨5, mjF5, 5, by decide +kernel, rfl, rfl, rfl, mw_680, mw_682, mjsel_26⟩⟩) ?_
    refine mj_all_cons 33 rfl (trivial) ?_
    refine mj_all_cons 34 rfl (trivial) ?_
    refine mj_all_cons 35 rfl (show _ = _ from by decide +kernel) ?_
    refine mj_all_cons 36 rfl (trivial) ?_
    refine mj_all_cons 37 rfl (trivial) ?_
    refine mj_all_cons 38 rfl (Or.inl ⟨0, by decide +kernel, rfl, rfl⟩) ?_
    refine mj_all_cons 39 rfl (Or.inr ⟨by decide +kernel, rfl⟩) ?_
    refine mj_all_cons 40 rfl (trivial) ?_
    refine mj_all_cons 41 rfl (Or.inr ⟨by decide +kernel, rfl⟩) ?_
    refine mj_all_cons 42 rfl (trivial) ?_
    refine mj_all_cons 43 rfl (Or.inl ⟨by decide +kernel, rfl⟩) ?_
    refine mj_all_cons 44 rfl (⟨mjcM64, 54, 3, rfl, by decide, mjcd64, mw_12, Or.inl ⟨5, mjF5, 5, by decide +kernel, rfl, rfl, rfl, mw_619, mw_621, mjsel_17⟩⟩) ?_
    refine mj_all_cons 45 rfl (trivial) ?_
    refine mj_all_cons 46 rfl (trivial) ?_
    refine mj_all_cons 47 rfl (show _ = _ from by decide +kernel) ?_
    refine mj_all_cons 48 rfl (trivial) ?_
    refine mj_all_cons 49 rfl (trivial) ?_
    refine mj_all_cons 50 rfl (Or.inl ⟨by decide +kernel, rfl⟩) ?_
    refine mj_all_cons 51 rfl (show _ = _ from by decide +kernel) ?_
    refine mj_all_cons 52 rfl (Or.inl ⟨by decide +kernel, rfl⟩) ?_
    refine mj_all_cons 53 rfl (Or.inr ⟨by decide +kernel, rfl⟩) ?_
    refine mj_all_cons 54 rfl (trivial) ?_
    refine mj_all_cons 55 rfl (Or.inr ⟨by decide +kernel, rfl⟩) ?_
    refine mj_all_cons 56 rfl (trivial) ?_
    refine mj_all_cons 57 rfl (Or.inr ⟨by decide +kernel, rfl⟩) ?_
    refine mj_all_cons 58 rfl (trivial) ?_
    refine mj_all_cons 59 rfl (show _ = _ from by decide +kernel) ?_
    refine mj_all_cons 60 rfl (trivial) ?_
    refine mj_all_cons 61 rfl (trivial) ?_
    refine mj_all_cons 62 rfl (Or.inl ⟨0, by decide +kernel, rfl, rfl⟩) ?_
    refine mj_all_cons 63 rfl (Or.inl ⟨0, by decide +kernel, rfl, rfl⟩) ?_
    refine mj_all_cons 64 rfl (⟨18, "ListSpeaker$Maker", mjF5, 5, by decide +kernel, rfl, by decide, mw_208, mjw5⟩) ?_
    refine mj_all_cons 65 rfl (trivial) ?_
    refine mj_all_cons 66 rfl (trivial) ?_
    refine mj_all_cons 67 rfl (Or.inl ⟨0, by decide +kernel, rfl, rfl⟩) ?_
    refine mj_all_cons 68 rfl (⟨18, "ListSpeaker$Maker", mjF5, 5, by decide +kernel, rfl, by decide, mw_208, mjw5⟩) ?_
    refine mj_all_cons 69 rfl (trivial) ?_
    refine mj_all_cons 70 rfl (trivial) ?_
    refine mj_all_cons 71 rfl (Or.inr ⟨by decide +kernel, rfl⟩) ?_
    refine mj_all_cons 72 rfl (trivial) ?_
    refine mj_all_cons 73 rfl (Or.inr ⟨by decide +kernel, rfl⟩) ?_
    refine mj_all_cons 74 rfl (trivial) ?_
    refine mj_all_cons 75 rfl (⟨mjcM22, 40, 2, rfl, by decide, mjcd22, mw_8, Or.inl ⟨2, mjF2, 12, by decide +kernel, rfl, rfl, rfl, mw_597, mw_598, mw_599⟩⟩) ?_
    refine mj_all_cons 76 rfl (trivial) ?_
    refine mj_all_cons 77 rfl (trivial) ?_
    refine mj_all_cons 78 rfl (Or.inl ⟨by decide +kernel, rfl⟩) ?_
    refine mj_all_cons 79 rfl (⟨mjcM22, 40, 2, rfl, by decide, mjcd22, mw_8, Or.inl ⟨2, mjF2, 12, by decide +kernel, rfl, rfl, rfl, mw_597, mw_598, mw_599⟩⟩) ?_
    refine mj_all_cons 80 rfl (trivial) ?_
    refine mj_all_cons 81 rfl (trivial) ?_
    refine mj_all_cons 82 rfl (Or.inl ⟨2, by decide +kernel, rfl, rfl⟩) ?_
    refine mj_all_cons 83 rfl (Or.inr ⟨by decide +kernel, rfl⟩) ?_
    refine mj_all_cons 84 rfl (trivial) ?_
    refine mj_all_cons 85 rfl (show _ = _ from by decide +kernel) ?_
    refine mj_all_cons 86 rfl (Or.inl ⟨by decide +kernel, rfl⟩) ?_
    refine mj_all_cons 87 rfl (Or.inr ⟨by decide +kernel, rfl⟩) ?_
    refine mj_all_cons 88 rfl (trivial) ?_
    refine mj_all_cons 89 rfl (⟨mjcM68, 30, 4, rfl, by decide, mjcd68, mw_12, Or.inl ⟨5, mjF5, 5, by decide +kernel, rfl, rfl, rfl, mw_640, mw_642, mjsel_20⟩⟩) ?_
    refine mj_all_cons 90 rfl (trivial) ?_
    refine mj_all_cons 91 rfl (trivial) ?_
    refine mj_all_cons 92 rfl (Or.inr ⟨by decide +kernel, rfl⟩) ?_
    refine mj_all_cons 93 rfl (trivial) ?_
    refine mj_all_cons 94 rfl (Or.inr ⟨by decide +kernel, rfl⟩) ?_
    refine mj_all_cons 95 rfl (trivial) ?_
    refine mj_all_cons 96 rfl (show _ = _ from by decide +kernel) ?_
    refine mj_all_cons 97 rfl (trivial) ?_
    refine mj_all_cons 98 rfl (trivial) ?_
    refine mj_all_cons 99 rfl (Or.inr ⟨by decide +kernel, rfl⟩) ?_
    refine mj_all_cons 100 rfl (trivial) ?_
    refine mj_all_cons 101 rfl (show _ = _ from by decide +kernel) ?_
    refine mj_all_cons 102 rfl (show _ = _ from by decide +kernel) ?_
    refine mj_all_cons 103 rfl (trivial) ?_
    refine mj_all_cons 104 rfl (trivial) ?_
    refine mj_all_cons 105 rfl (show _ = _ from by decide +kernel) ?_
    refine mj_all_cons 106 rfl (trivial) ?_
    refine mj_all_cons 107 rfl (trivial) ?_
    refine mj_all_cons 108 rfl (Or.inl ⟨0, by decide +kernel, rfl, rfl⟩) ?_
    refine mj_all_cons 109 rfl (⟨26, "ListSpeaker$Maker", mjF5, 5, by decide +kernel, rfl, by decide, mw_212, mjw5⟩) ?_
    refine mj_all_cons 110 rfl (trivial) ?_
    refine mj_all_cons 111 rfl (trivial) ?_
    refine mj_all_cons 112 rfl (Or.inr ⟨by decide +kernel, rfl⟩) ?_
    refine mj_all_cons 113 rfl (trivial) ?_
    refine mj_all_cons 114 rfl (Or.inl ⟨by decide +kernel, rfl⟩) ?_
    refine mj_all_cons 115 rfl (Or.inr ⟨by decide +kernel, rfl⟩) ?_
    refine mj_all_cons 116 rfl (trivial) ?_
    refine mj_all_cons 117 rfl (Or.inr ⟨by decide +kernel, rfl⟩) ?_
    refine mj_all_cons 118 rfl (trivial) ?_
    refine mj_all_cons 119 rfl (Or.inr ⟨by decide +kernel, rfl⟩) ?_
    refine mj_all_cons 120 rfl (trivial) ?_
    refine mj_all_cons 121 rfl (show _ = _ from by decide +kernel) ?_
    refine mj_all_cons 122 rfl (trivial) ?_
    refine mj_all_cons 123 rfl (trivial) ?_
    refine mj_all_cons 124 rfl (Or.inl ⟨0, by decide +kernel, rfl, rfl⟩) ?_
    refine mj_all_cons 125 rfl (Or.inl ⟨0, by decide +kernel, rfl, rfl⟩) ?_
    refine mj_all_cons 126 rfl (⟨18, "ListSpeaker$Maker", mjF5, 5, by decide +kernel, rfl, by decide, mw_208, mjw5⟩) ?_
    refine mj_all_cons 127 rfl (trivial) ?_
    refine mj_all_cons 128 rfl (trivial) ?_
    refine mj_all_cons 129 rfl (Or.inl ⟨0, by decide +kernel, rfl, rfl⟩) ?_
    refine mj_all_cons 130 rfl (⟨18, "ListSpeaker$Maker", mjF5, 5, by decide +kernel, rfl, by decide, mw_208, mjw5⟩) ?_
    refine mj_all_cons 131 rfl (trivial) ?_
    refine mj_all_cons 132 rfl (trivial) ?_
    refine mj_all_cons 133 rfl (Or.inr ⟨by decide +kernel, rfl⟩) ?_
    refine mj_all_cons 134 rfl (trivial) ?_
    refine mj_all_cons 135 rfl (Or.inr ⟨by decide +kernel, rfl⟩) ?_
    refine mj_all_cons 136 rfl (trivial) ?_
    refine mj_all_cons 137 rfl (⟨mjcM22, 40, 2, rfl, by decide, mjcd22, mw_8, Or.inl ⟨2, mjF2, 12, by decide +kernel, rfl, rfl, rfl, mw_597, mw_598, mw_599⟩⟩) ?_
    refine mj_all_cons 138 rfl (trivial) ?_
    refine mj_all_cons 139 rfl (trivial) ?_
    refine mj_all_cons 140 rfl (⟨mjcM20, 62, 1, rfl, by decide, mjcd20, mw_8, Or.inl ⟨2, mjF2, 12, by decide +kernel, rfl, rfl, rfl, mw_623, mw_588, mw_589⟩⟩) ?_
    refine mj_all_cons 141 rfl (trivial) ?_
    refine mj_all_cons 142 rfl (trivial) ?_
    refine mj_all_cons 143 rfl (Or.inl ⟨2, by decide +kernel, rfl, rfl⟩) ?_
    refine mj_all_cons 144 rfl (Or.inr ⟨by decide +kernel, rfl⟩) ?_
    refine mj_all_cons 145 rfl (trivial) ?_
    refine mj_all_cons 146 rfl (show _ = _ from by decide +kernel) ?_
    refine mj_all_cons 147 rfl (⟨mjcM67, 58, 2, rfl, by decide, mjcd67, mw_12, Or.inl ⟨5, mjF5, 5, by decide +kernel, rfl, rfl, rfl, mw_636, mw_638, mjsel_19⟩⟩) ?_
    refine mj_all_cons 148 rfl (trivial) ?_
    refine mj_all_cons 149 rfl (trivial) ?_
    refine mj_all_cons 150 rfl (show _ = _ from by decide +kernel) ?_
    refine mj_all_cons 151 rfl (trivial) ?_
    refine mj_all_cons 152 rfl (trivial) ?_
    refine mj_all_cons 153 rfl (show _ = _ from by decide +kernel) ?_
    refine mj_all_cons 154 rfl (trivial) ?_
    refine mj_all_cons 155 rfl (trivial) ?_
    refine mj_all_cons 156 rfl (Or.inl ⟨0, by decide +kernel, rfl, rfl⟩) ?_
    refine mj_all_cons 157 rfl (Or.inl ⟨0, by decide +kernel, rfl, rfl⟩) ?_
    refine mj_all_cons 158 rfl (⟨18, "ListSpeaker$Maker", mjF5, 5, by decide +kernel, rfl, by decide, mw_208, mjw5⟩) ?_
    refine mj_all_cons 159 rfl (trivial) ?_
    refine mj_all_cons 160 rfl (trivial) ?_
    refine mj_all_cons 161 rfl (Or.inl ⟨1, by decide +kernel, rfl, rfl⟩) ?_
    refine mj_all_cons 162 rfl (Or.inl ⟨by decide +kernel, rfl⟩) ?_
    refine mj_all_cons 163 rfl (⟨mjcM22, 40, 2, rfl, by decide, mjcd22, mw_8, Or.inl ⟨2, mjF2, 12, by decide +kernel, rfl, rfl, rfl, mw_597, mw_598, mw_599⟩⟩) ?_
    refine mj_all_cons 164 rfl (trivial) ?_
    refine mj_all_cons 165 rfl (trivial) ?_
    refine mj_all_cons 166 rfl (Or.inl ⟨2, by decide +kernel, rfl, rfl⟩) ?_
    refine mj_all_cons 167 rfl (Or.inr ⟨by decide +kernel, rfl⟩) ?_
    refine mj_all_cons 168 rfl (trivial) ?_
    refine mj_all_cons 169 rfl (show _ = _ from by decide +kernel) ?_
    refine mj_all_cons 170 rfl (Or.inl ⟨3, by decide +kernel, rfl, rfl⟩) ?_
    refine mj_all_cons 171 rfl (Or.inr ⟨by decide +kernel, rfl⟩) ?_
    refine mj_all_cons 172 rfl (trivial) ?_
    refine mj_all_cons 173 rfl (⟨mjcM68, 30, 4, rfl, by decide, mjcd68, mw_12, Or.inl ⟨5, mjF5, 5, by decide +kernel, rfl, rfl, rfl, mw_640, mw_642, mjsel_20⟩⟩) ?_
    refine mj_all_cons 174 rfl (trivial) ?_
    refine mj_all_cons 175 rfl (trivial) ?_
    refine mj_all_cons 176 rfl (Or.inr ⟨by decide +kernel, rfl⟩) ?_
    refine mj_all_cons 177 rfl (trivial) ?_
    refine mj_all_cons 178 rfl (Or.inl ⟨0, by decide +kernel, rfl, rfl⟩) ?_
    refine mj_all_cons 179 rfl (Or.inr ⟨by decide +kernel, rfl⟩) ?_
    refine mj_all_cons 180 rfl (trivial) ?_
    refine mj_all_cons 181 rfl (⟨26, "ListSpeaker$Maker", mjF5, 5, mjt5, by decide +kernel, rfl, by decide, mw_212, mjw5, mjk5, mjn5, rfl, by decide +kernel⟩) ?_
    refine mj_all_cons 182 rfl (trivial) ?_
    refine mj_all_cons 183 rfl (trivial) ?_
    refine mj_all_cons 184 rfl (Or.inl ⟨0, by decide +kernel, rfl, rfl⟩) ?_
    refine mj_all_cons 185 rfl (⟨22, "ListSpeaker$Maker", mjF5, 5, by decide +kernel, rfl, by decide, mw_209, mjw5⟩) ?_
    refine mj_all_cons 186 rfl (trivial) ?_
    refine mj_all_cons 187 rfl (trivial) ?_
    refine mj_all_cons 188 rfl (Or.inr (Or.inl ⟨by decide +kernel, rfl, by decide⟩)) ?_
    refine mj_all_cons 189 rfl (trivial) ?_
    refine mj_all_cons 190 rfl (Or.inr ⟨by decide +kernel, rfl⟩) ?_
    refine mj_all_cons 191 rfl (trivial) ?_
    refine mj_all_cons 192 rfl (⟨mjcM59, 34, 2, rfl, by decide, mjcd59, mw_11, Or.inl ⟨4, mjF4, 4, by decide +kernel, rfl, rfl, rfl, mw_644, mw_645, mw_646⟩⟩) ?_
    refine mj_all_cons 193 rfl (trivial) ?_
    refine mj_all_cons 194 rfl (trivial) ?_
    refine mj_all_cons 195 rfl (show _ = _ from by decide +kernel) ?_
    refine mj_all_cons 196 rfl (Or.inr ⟨by decide +kernel, rfl⟩) ?_
    refine mj_all_cons 197 rfl (trivial) ?_
    refine mj_all_cons 198 rfl (show _ = _ from by decide +kernel) ?_
    exact trivial
  intro pc o ho
  have := mj_all_get _ 0 h pc o ho
  rw [Nat.zero_add] at this
  exact this
set_option maxRecDepth 100000 in
theorem mjci78 : ∀ (pc : Nat) (o : mj_O), mjco78[pc]? = some o → mj_is mj_kl mjcM78.1.cls mj_WS mj_NWs mjc_Ms mjcM78.2.1 pc o := by
  have h : mj_all (mj_is mj_kl mjcM78.1.cls mj_WS mj_NWs mjc_Ms mjcM78.2.1) 0 mjco78 := by
    unfold mjco78
    refine mj_all_cons 1 rfl (Or.inl ⟨1, by decide +kernel, rfl, rfl⟩) ?_
    refine mj_all_cons 2 rfl (Or.inl ⟨3, by decide +kernel, rfl, rfl⟩) ?_
    refine mj_all_cons 3 rfl (Or.inl ⟨by decide +kernel, rfl⟩) ?_
    refine mj_all_cons 4 rfl (Or.inr ⟨by decide +kernel, rfl⟩) ?_
    refine mj_all_cons 5 rfl (trivial) ?_
    refine mj_all_cons 6 rfl (Or.inr ⟨by decide +kernel, rfl⟩) ?_
    refine mj_all_cons 7 rfl (trivial) ?_
    refine mj_all_cons 8 rfl (Or.inl ⟨2, by decide +kernel, rfl, rfl⟩) ?_
    refine mj_all_cons 9 rfl (show _ = _ from by decide +kernel) ?_
    refine mj_all_cons 10 rfl (trivial) ?_
    refine mj_all_cons 11 rfl (trivial) ?_
    refine mj_all_cons 12 rfl (Or.inl ⟨0, by decide +kernel, rfl, rfl⟩) ?_
    refine mj_all_cons 13 rfl (⟨18, "ListSpeaker$Maker", mjF5, 5, by decide +kernel, rfl, by decide, mw_208, mjw5⟩) ?_
    refine mj_all_cons 14 rfl (trivial) ?_
    refine mj_all_cons 15 rfl (trivial) ?_
    refine mj_all_cons 16 rfl (Or.inl ⟨0, by decide +kernel, rfl, rfl⟩) ?_
    refine mj_all_cons 17 rfl (⟨18, "ListSpeaker$Maker", mjF5, 5, by decide +kernel, rfl, by decide, mw_208, mjw5⟩) ?_
    refine mj_all_cons 18 rfl (trivial) ?_
    refine mj_all_cons 19 rfl (trivial) ?_
    refine mj_all_cons 20 rfl (Or.inl ⟨3, by decide +kernel, rfl, rfl⟩) ?_
    refine mj_all_cons 21 rfl (⟨mjcM20, 62, 1, rfl, by decide, mjcd20, mw_8, Or.inl ⟨2, mjF2, 12, by decide +kernel, rfl, rfl, rfl, mw_623, mw_588, mw_589⟩⟩) ?_
    refine mj_all_cons 22 rfl (trivial) ?_
    refine mj_all_cons 23 rfl (trivial) ?_
    refine mj_all_cons 24 rfl (⟨mjcM23, 45, 1, rfl, by decide, mjcd23, mw_8, Or.inl ⟨2, mjF2, 12, by decide +kernel, rfl, rfl, rfl, mw_606, mw_607, mw_608⟩⟩) ?_
    refine mj_all_cons 25 rfl (trivial) ?_
    refine mj_all_cons 26 rfl (trivial) ?_
    refine mj_all_cons 27 rfl (Or.inl ⟨by decide +kernel, rfl⟩) ?_
    refine mj_all_cons 28 rfl (show _ = _ from by decide +kernel) ?_
    refine mj_all_cons 29 rfl (trivial) ?_
    refine mj_all_cons 30 rfl (trivial) ?_
    refine mj_all_cons 31 rfl (Or.inl ⟨by decide +kernel, rfl⟩) ?_
    refine mj_all_cons 32 rfl (show _ = _ from by decide +kernel) ?_
    refine mj_all_cons 33 rfl (Or.inl ⟨0, by decide +kernel, rfl, rfl⟩) ?_
    refine mj_all_cons 34 rfl (⟨18, "ListSpeaker$Maker", mjF5, 5, by decide +kernel, rfl, by decide, mw_208, mjw5⟩) ?_
    refine mj_all_cons 35 rfl (trivial) ?_
    refine mj_all_cons 36 rfl (trivial) ?_
    refine mj_all_cons 37 rfl (Or.inl ⟨3, by decide +kernel, rfl, rfl⟩) ?_
    refine mj_all_cons 38 rfl (⟨mjcM21, 72, 1, rfl, by decide, mjcd21, mw_8, Or.inl ⟨2, mjF2, 12, by decide +kernel, rfl, rfl, rfl, mw_635, mw_602, mw_603⟩⟩) ?_
    refine mj_all_cons 39 rfl (trivial) ?_
    refine mj_all_cons 40 rfl (trivial) ?_
    refine mj_all_cons 41 rfl (Or.inl ⟨3, by decide +kernel, rfl, rfl⟩) ?_
    refine mj_all_cons 42 rfl (show _ = _ from by decide +kernel) ?_
    refine mj_all_cons 43 rfl (trivial) ?_
    refine mj_all_cons 44 rfl (trivial) ?_
    refine mj_all_cons 45 rfl (show _ = _ from by decide +kernel) ?_
    refine mj_all_cons 46 rfl (trivial) ?_
    refine mj_all_cons 47 rfl (trivial) ?_
    refine mj_all_cons 48 rfl (Or.inl ⟨by decide +kernel, rfl⟩) ?_
    refine mj_all_cons 49 rfl (show _ = _ from by decide +kernel) ?_
    exact trivial
  intro pc o ho
  have := mj_all_get _ 0 h pc o ho
  rw [Nat.zero_add] at this
  exact this
set_option maxRecDepth 100000 in
theorem mjci79 : ∀ (pc : Nat) (o : mj_O), mjco79[pc]? = some o → mj_is mj_kl mjcM79.1.cls mj_WS mj_NWs mjc_Ms mjcM79.2.1 pc o := by
  have h : mj_all (mj_is mj_kl mjcM79.1.cls mj_WS mj_NWs mjc_Ms mjcM79.2.1) 0 mjco79 := by
    unfold mjco79
    refine mj_all_cons 1 rfl (Or.inl ⟨by decide +kernel, rfl⟩) ?_
    refine mj_all_cons 2 rfl (Or.inr ⟨by decide +kernel, rfl⟩) ?_
    refine mj_all_cons 3 rfl (trivial) ?_
    refine mj_all_cons 4 rfl (Or.inl ⟨1, by decide +kernel, rfl, rfl⟩) ?_
    refine mj_all_cons 5 rfl (Or.inr ⟨by decide +kernel, rfl⟩) ?_
    refine mj_all_cons 6 rfl (trivial) ?_
    refine mj_all_cons 7 rfl (Or.inl ⟨by decide +kernel, rfl⟩) ?_
    refine mj_all_cons 8 rfl (Or.inr ⟨by decide +kernel, rfl⟩) ?_
    refine mj_all_cons 9 rfl (trivial) ?_
    refine mj_all_cons 10 rfl (Or.inr ⟨by decide +kernel, rfl⟩) ?_
    refine mj_all_cons 11 rfl (trivial) ?_
    refine mj_all_cons 12 rfl (Or.inl ⟨2, by decide +kernel, rfl, rfl⟩) ?_
    refine mj_all_cons 13 rfl (show _ = _ from by decide +kernel) ?_
    refine mj_all_cons 14 rfl (trivial) ?_
    refine mj_all_cons 15 rfl (trivial) ?_
    refine mj_all_cons 16 rfl (Or.inl ⟨0, by decide +kernel, rfl, rfl⟩) ?_
    refine mj_all_cons 17 rfl (⟨18, "ListSpeaker$Maker", mjF5, 5, by decide +kernel, rfl, by decide, mw_208, mjw5⟩) ?_
    refine mj_all_cons 18 rfl (trivial) ?_
    refine mj_all_cons 19 rfl (trivial) ?_
    refine mj_all_cons 20 rfl (Or.inr ⟨by decide +kernel, rfl⟩) ?_
    refine mj_all_cons 21 rfl (trivial) ?_
    refine mj_all_cons 22 rfl (⟨mjcM20, 62, 1, rfl, by decide, mjcd20, mw_8, Or.inl ⟨2, mjF2, 12, by decide +kernel, rfl, rfl, rfl, mw_623, mw_588, mw_589⟩⟩) ?_
    refine mj_all_cons 23 rfl (trivial) ?_
    refine mj_all_cons 24 rfl (trivial) ?_
    refine mj_all_cons 25 rfl (Or.inr ⟨by decide +kernel, rfl⟩) ?_
    refine mj_all_cons 26 rfl (trivial) ?_
    refine mj_all_cons 27 rfl (Or.inl ⟨0, by decide +kernel, rfl, rfl⟩) ?_
    refine mj_all_cons 28 rfl (Or.inl ⟨0, by decide +kernel, rfl, rfl⟩) ?_
    refine mj_all_cons 29 rfl (⟨18, "ListSpeaker$Maker", mjF5, 5, by decide +kernel, rfl, by decide, mw_208, mjw5⟩) ?_
    refine mj_all_cons 30 rfl (trivial) ?_
    refine mj_all_cons 31 rfl (trivial) ?_
    refine mj_all_cons 32 rfl (Or.inr ⟨by decide +kernel, rfl⟩) ?_
    refine mj_all_cons 33 rfl (trivial) ?_
    refine mj_all_cons 34 rfl (⟨mjcM20, 62, 1, rfl, by decide, mjcd20, mw_8, Or.inl ⟨2, mjF2, 12, by decide +kernel, rfl, rfl, rfl, mw_623, mw_588, mw_589⟩⟩) ?_
    refine mj_all_cons 35 rfl (trivial) ?_
    refine mj_all_cons 36 rfl (trivial) ?_
    refine mj_all_cons 37 rfl (Or.inl ⟨3, by decide +kernel, rfl, rfl⟩) ?_
    refine mj_all_cons 38 rfl (Or.inl ⟨by decide +kernel, rfl⟩) ?_
    refine mj_all_cons 39 rfl (Or.inr ⟨by decide +kernel, rfl⟩) ?_
    refine mj_all_cons 40 rfl (trivial) ?_
    refine mj_all_cons 41 rfl (⟨mjcM68, 30, 4, rfl, by decide, mjcd68, mw_12, Or.inl ⟨5, mjF5, 5, by decide +kernel, rfl, rfl, rfl, mw_640, mw_642, mjsel_20⟩⟩) ?_
    refine mj_all_cons 42 rfl (trivial) ?_
    refine mj_all_cons 43 rfl (trivial) ?_
    refine mj_all_cons 44 rfl (Or.inr ⟨by decide +kernel, rfl⟩) ?_
    refine mj_all_cons 45 rfl (trivial) ?_
    refine mj_all_cons 46 rfl (Or.inr ⟨by decide +kernel, rfl⟩) ?_
    refine mj_all_cons 47 rfl (trivial) ?_
    refine mj_all_cons 48 rfl (show _ = _ from by decide +kernel) ?_
    refine mj_all_cons 49 rfl (trivial) ?_
    refine mj_all_cons 50 rfl (trivial) ?_
    refine mj_all_cons 51 rfl (Or.inr ⟨by decide +kernel, rfl⟩) ?_
    refine mj_all_cons 52 rfl (trivial) ?_
    refine mj_all_cons 53 rfl (show _ = _ from by decide +kernel) ?_
    refine mj_all_cons 54 rfl (Or.inl ⟨0, by decide +kernel, rfl, rfl⟩) ?_
    refine mj_all_cons 55 rfl (⟨22, "ListSpeaker$Maker", mjF5, 5, by decide +kernel, rfl, by decide, mw_209, mjw5⟩) ?_
    refine mj_all_cons 56 rfl (trivial) ?_
    refine mj_all_cons 57 rfl (trivial) ?_
    refine mj_all_cons 58 rfl (Or.inl ⟨by decide +kernel, rfl⟩) ?_
    refine mj_all_cons 59 rfl (Or.inl ⟨by decide +kernel, rfl⟩) ?_
    refine mj_all_cons 60 rfl (⟨mjcM59, 34, 2, rfl, by decide, mjcd59, mw_11, Or.inl ⟨4, mjF4, 4, by decide +kernel, rfl, rfl, rfl, mw_644, mw_645, mw_646⟩⟩) ?_
    refine mj_all_cons 61 rfl (trivial) ?_
    refine mj_all_cons 62 rfl (trivial) ?_
    refine mj_all_cons 63 rfl (Or.inr ⟨by decide +kernel, rfl⟩) ?_
    refine mj_all_cons 64 rfl (trivial) ?_
    refine mj_all_cons 65 rfl (Or.inl ⟨0, by decide +kernel, rfl, rfl⟩) ?_
    refine mj_all_cons 66 rfl (Or.inl ⟨0, by decide +kernel, rfl, rfl⟩) ?_
    refine mj_all_cons 67 rfl (⟨18, "ListSpeaker$Maker", mjF5, 5, by decide +kernel, rfl, by decide, mw_208, mjw5⟩) ?_
    refine mj_all_cons 68 rfl (trivial) ?_
    refine mj_all_cons 69 rfl (trivial) ?_
    refine mj_all_cons 70 rfl (Or.inr ⟨by decide +kernel, rfl⟩) ?_
    refine mj_all_cons 71 rfl (trivial) ?_
    refine mj_all_cons 72 rfl (Or.inl ⟨by decide +kernel, rfl⟩) ?_
    refine mj_all_cons 73 rfl (⟨mjcM22, 40, 2, rfl, by decide, mjcd22, mw_8, Or.inl ⟨2, mjF2, 12, by decide +kernel, rfl, rfl, rfl, mw_597, mw_598, mw_599⟩⟩) ?_
    refine mj_all_cons 74 rfl (trivial) ?_
    refine mj_all_cons 75 rfl (trivial) ?_
    refine mj_all_cons 76 rfl (Or.inl ⟨3, by decide +kernel, rfl, rfl⟩) ?_
    refine mj_all_cons 77 rfl (Or.inr ⟨by decide +kernel, rfl⟩) ?_
    refine mj_all_cons 78 rfl (trivial) ?_
    refine mj_all_cons 79 rfl (Or.inr ⟨by decide +kernel, rfl⟩) ?_
    refine mj_all_cons 80 rfl (trivial) ?_
    refine mj_all_cons 81 rfl (⟨mjcM68, 30, 4, rfl, by decide, mjcd68, mw_12, Or.inl ⟨5, mjF5, 5, by decide +kernel, rfl, rfl, rfl, mw_640, mw_642, mjsel_20⟩⟩) ?_
    refine mj_all_cons 82 rfl (trivial) ?_
    refine mj_all_cons 83 rfl (trivial) ?_
    refine mj_all_cons 84 rfl (Or.inr ⟨by decide +kernel, rfl⟩) ?_
    refine mj_all_cons 85 rfl (trivial) ?_
    refine mj_all_cons 86 rfl (Or.inr ⟨by decide +kernel, rfl⟩) ?_
    refine mj_all_cons 87 rfl (trivial) ?_
    refine mj_all_cons 88 rfl (show _ = _ from by decide +kernel) ?_
    refine mj_all_cons 89 rfl (trivial) ?_
    refine mj_all_cons 90 rfl (trivial) ?_
    refine mj_all_cons 91 rfl (Or.inr ⟨by decide +kernel, rfl⟩) ?_
    refine mj_all_cons 92 rfl (trivial) ?_
    refine mj_all_cons 93 rfl (show _ = _ from by decide +kernel) ?_
    refine mj_all_cons 94 rfl (Or.inl ⟨0, by decide +kernel, rfl, rfl⟩) ?_
    refine mj_all_cons 95 rfl (⟨22, "ListSpeaker$Maker", mjF5, 5, by decide +kernel, rfl, by decide, mw_209, mjw5⟩) ?_
    refine mj_all_cons 96 rfl (trivial) ?_
    refine mj_all_cons 97 rfl (trivial) ?_
    refine mj_all_cons 98 rfl (Or.inl ⟨by decide +kernel, rfl⟩) ?_
    refine mj_all_cons 99 rfl (Or.inr ⟨by decide +kernel, rfl⟩) ?_
    refine mj_all_cons 100 rfl (trivial) ?_
    refine mj_all_cons 101 rfl (⟨mjcM59, 34, 2, rfl, by decide, mjcd59, mw_11, Or.inl ⟨4, mjF4, 4, by decide +kernel, rfl, rfl, rfl, mw_644, mw_645, mw_646⟩⟩) ?_
    refine mj_all_cons 102 rfl (trivial) ?_
    refine mj_all_cons 103 rfl (trivial) ?_
    refine mj_all_cons 104 rfl (Or.inr ⟨by decide +kernel, rfl⟩) ?_
    refine mj_all_cons 105 rfl (trivial) ?_
    refine mj_all_cons 106 rfl (Or.inl ⟨0, by decide +kernel, rfl, rfl⟩) ?_
    refine mj_all_cons 107 rfl (⟨22, "ListSpeaker$Maker", mjF5, 5, by decide +kernel, rfl, by decide, mw_209, mjw5⟩) ?_
    refine mj_all_cons 108 rfl (trivial) ?_
    refine mj_all_cons 109 rfl (trivial) ?_
    refine mj_all_cons 110 rfl (Or.inr ⟨by decide +kernel, rfl⟩) ?_
    refine mj_all_cons 111 rfl (trivial) ?_
    refine mj_all_cons 112 rfl (⟨mjcM61, 129, 1, rfl, by decide, mjcd61, mw_11, Or.inl ⟨4, mjF4, 4, by decide +kernel, rfl, rfl, rfl, mw_672, mw_673, mw_674⟩⟩) ?_
    refine mj_all_cons 113 rfl (trivial) ?_
    refine mj_all_cons 114 rfl (trivial) ?_
    refine mj_all_cons 115 rfl (Or.inl ⟨0, by decide +kernel, rfl, rfl⟩) ?_
    refine mj_all_cons 116 rfl (⟨18, "ListSpeaker$Maker", mjF5, 5, by decide +kernel, rfl, by decide, mw_208, mjw5⟩) ?_
    refine mj_all_cons 117 rfl (trivial) ?_
    refine mj_all_cons 118 rfl (trivial) ?_
    refine mj_all_cons 119 rfl (Or.inr ⟨by decide +kernel, rfl⟩) ?_
    refine mj_all_cons 120 rfl (trivial) ?_
    refine mj_all_cons 121 rfl (⟨mjcM21, 72, 1, rfl, by decide, mjcd21, mw_8, Or.inl ⟨2, mjF2, 12, by decide +kernel, rfl, rfl, rfl, mw_635, mw_602, mw_603⟩⟩) ?_
    refine mj_all_cons 122 rfl (trivial) ?_
    refine mj_all_cons 123 rfl (trivial) ?_
    refine mj_all_cons 124 rfl (Or.inr ⟨by decide +kernel, rfl⟩) ?_
    refine mj_all_cons 125 rfl (trivial) ?_
    refine mj_all_cons 126 rfl (show _ = _ from by decide +kernel) ?_
    refine mj_all_cons 127 rfl (trivial) ?_
    refine mj_all_cons 128 rfl (trivial) ?_
    refine mj_all_cons 129 rfl (show _ = _ from by decide +kernel) ?_
    refine mj_all_cons 130 rfl (trivial) ?_
    refine mj_all_cons 131 rfl (trivial) ?_
    refine mj_all_cons 132 rfl (Or.inl ⟨0, by decide +kernel, rfl, rfl⟩) ?_
    refine mj_all_cons 133 rfl (⟨22, "ListSpeaker$Maker", mjF5, 5, by decide +kernel, rfl, by decide, mw_209, mjw5⟩) ?_
    refine mj_all_cons 134 rfl (trivial) ?_
    refine mj_all_cons 135 rfl (trivial) ?_
    refine mj_all_cons 136 rfl (Or.inl ⟨by decide +kernel, rfl⟩) ?_
    refine mj_all_cons 137 rfl (Or.inr (Or.inr (Or.inr (Or.inl ⟨75, by decide +kernel, rfl, mw_631⟩)))) ?_
    refine mj_all_cons 138 rfl (trivial) ?_
    refine mj_all_cons 139 rfl (⟨mjcM59, 34, 2, rfl, by decide, mjcd59, mw_11, Or.inl ⟨4, mjF4, 4, by decide +kernel, rfl, rfl, rfl, mw_644, mw_645, mw_646⟩⟩) ?_
    refine mj_all_cons 140 rfl (trivial) ?_
    refine mj_all_cons 141 rfl (trivial) ?_
    refine mj_all_cons 142 rfl (show _ = _ from by decide +kernel) ?_
    refine mj_all_cons 143 rfl (Or.inl ⟨0, by decide +kernel, rfl, rfl⟩) ?_
    refine mj_all_cons 144 rfl (⟨22, "ListSpeaker$Maker", mjF5, 5, by decide +kernel, rfl, by decide, mw_209, mjw5⟩) ?_
    refine mj_all_cons 145 rfl (trivial) ?_
    refine mj_all_cons 146 rfl (trivial) ?_
    refine mj_all_cons 147 rfl (Or.inr ⟨by decide +kernel, rfl⟩) ?_
    refine mj_all_cons 148 rfl (trivial) ?_
    refine mj_all_cons 149 rfl (⟨mjcM61, 129, 1, rfl, by decide, mjcd61, mw_11, Or.inl ⟨4, mjF4, 4, by decide +kernel, rfl, rfl, rfl, mw_672, mw_673, mw_674⟩⟩) ?_
    refine mj_all_cons 150 rfl (trivial) ?_
    refine mj_all_cons 151 rfl (trivial) ?_
    refine mj_all_cons 152 rfl (Or.inl ⟨by decide +kernel, rfl⟩) ?_
    refine mj_all_cons 153 rfl (show _ = _ from by decide +kernel) ?_
    exact trivial
  intro pc o ho
  have := mj_all_get _ 0 h pc o ho
  rw [Nat.zero_add] at this
  exact this
set_option maxRecDepth 100000 in
theorem mjci80 : ∀ (pc : Nat) (o : mj_O), mjco80[pc]? = some o → mj_is mj_kl mjcM80.1.cls mj_WS mj_NWs mjc_Ms mjcM80.2.1 pc o := by
  have h : mj_all (mj_is mj_kl mjcM80.1.cls mj_WS mj_NWs mjc_Ms mjcM80.2.1) 0 mjco80 := by
    unfold mjco80
    refine mj_all_cons 1 rfl (Or.inl ⟨3, by decide +kernel, rfl, rfl⟩) ?_
    refine mj_all_cons 2 rfl (show _ = _ from by decide +kernel) ?_
    refine mj_all_cons 3 rfl (trivial) ?_
    refine mj_all_cons 4 rfl (trivial) ?_
    refine mj_all_cons 5 rfl (Or.inl ⟨0, by decide +kernel, rfl, rfl⟩) ?_
    refine mj_all_cons 6 rfl (⟨22, "ListSpeaker$Maker", mjF5, 5, by decide +kernel, rfl, by decide, mw_209, mjw5⟩) ?_
    refine mj_all_cons 7 rfl (trivial) ?_
    refine mj_all_cons 8 rfl (trivial) ?_
    refine mj_all_cons 9 rfl (Or.inl ⟨by decide +kernel, rfl⟩) ?_
    refine mj_all_cons 10 rfl (Or.inl ⟨1, by decide +kernel, rfl, rfl⟩) ?_
    refine mj_all_cons 11 rfl (Or.inr (Or.inr (Or.inr (Or.inl ⟨133, by decide +kernel, rfl, mw_692⟩)))) ?_
    refine mj_all_cons 12 rfl (trivial) ?_
    refine mj_all_cons 13 rfl (show _ = _ from by decide +kernel) ?_
    refine mj_all_cons 14 rfl (trivial) ?_
    refine mj_all_cons 15 rfl (trivial) ?_
    refine mj_all_cons 16 rfl (Or.inr (Or.inr (Or.inr (Or.inl ⟨76, by decide +kernel, rfl, mw_632⟩)))) ?_
    refine mj_all_cons 17 rfl (trivial) ?_
    refine mj_all_cons 18 rfl (show _ = _ from by decide +kernel) ?_
    refine mj_all_cons 19 rfl (trivial) ?_
    refine mj_all_cons 20 rfl (trivial) ?_
    refine mj_all_cons 21 rfl (Or.inr (Or.inr (Or.inr (Or.inl ⟨75, by decide +kernel, rfl, mw_631⟩)))) ?_
    refine mj_all_cons 22 rfl (trivial) ?_
    refine mj_all_cons 23 rfl (⟨mjcM59, 34, 2, rfl, by decide, mjcd59, mw_11, Or.inl ⟨4, mjF4, 4, by decide +kernel, rfl, rfl, rfl, mw_644, mw_645, mw_646⟩⟩) ?_
    refine mj_all_cons 24 rfl (trivial) ?_
    refine mj_all_cons 25 rfl (trivial) ?_
    refine mj_all_cons 26 rfl (show _ = _ from by decide +kernel) ?_
    refine mj_all_cons 27 rfl (Or.inl ⟨by decide +kernel, rfl⟩) ?_
    refine mj_all_cons 28 rfl (show _ = _ from by decide +kernel) ?_
    refine mj_all_cons 29 rfl (Or.inl ⟨by decide +kernel, rfl⟩) ?_
    refine mj_all_cons 30 rfl (Or.inr ⟨by decide +kernel, rfl⟩) ?_
    refine mj_all_cons 31 rfl (trivial) ?_
    refine mj_all_cons 32 rfl (Or.inl ⟨2, by decide +kernel, rfl, rfl⟩) ?_
    refine mj_all_cons 33 rfl (Or.inr ⟨by decide +kernel, rfl⟩) ?_
    refine mj_all_cons 34 rfl (trivial) ?_
    refine mj_all_cons 35 rfl (Or.inl ⟨by decide +kernel, rfl⟩) ?_
    refine mj_all_cons 36 rfl (Or.inr ⟨by decide +kernel, rfl⟩) ?_
    refine mj_all_cons 37 rfl (trivial) ?_
    refine mj_all_cons 38 rfl (Or.inr ⟨by decide +kernel, rfl⟩) ?_
    refine mj_all_cons 39 rfl (trivial) ?_
    refine mj_all_cons 40 rfl (Or.inl ⟨3, by decide +kernel, rfl, rfl⟩) ?_
    refine mj_all_cons 41 rfl (Or.inl ⟨by decide +kernel, rfl⟩) ?_
    refine mj_all_cons 42 rfl (show _ = _ from by decide +kernel) ?_
    refine mj_all_cons 43 rfl (show _ = _ from by decide +kernel) ?_
    refine mj_all_cons 44 rfl (trivial) ?_
    refine mj_all_cons 45 rfl (trivial) ?_
    refine mj_all_cons 46 rfl (Or.inl ⟨0, by decide +kernel, rfl, rfl⟩) ?_
    refine mj_all_cons 47 rfl (Or.inl ⟨0, by decide +kernel, rfl, rfl⟩) ?_
    refine mj_all_cons 48 rfl (⟨18, "ListSpeaker$Maker", mjF5, 5, by decide +kernel, rfl, by decide, mw_208, mjw5⟩) ?_
    refine mj_all_cons 49 rfl (trivial) ?_
    refine mj_all_cons 50 rfl (trivial) ?_
    refine mj_all_cons 51 rfl (Or.inr ⟨by decide +kernel, rfl⟩) ?_
    refine mj_all_cons 52 rfl (trivial) ?_
    refine mj_all_cons 53 rfl (⟨mjcM20, 62, 1, rfl, by decide, mjcd20, mw_8, Or.inl ⟨2, mjF2, 12, by decide +kernel, rfl, rfl, rfl, mw_623, mw_588, mw_589⟩⟩) ?_
    refine mj_all_cons 54 rfl (trivial) ?_
    refine mj_all_cons 55 rfl (trivial) ?_
    refine mj_all_cons 56 rfl (Or.inr ⟨by decide +kernel, rfl⟩) ?_
    refine mj_all_cons 57 rfl (trivial) ?_
    refine mj_all_cons 58 rfl (Or.inl ⟨by decide +kernel, rfl⟩) ?_
    refine mj_all_cons 59 rfl (Or.inr ⟨by decide +kernel, rfl⟩) ?_
    refine mj_all_cons 60 rfl (trivial) ?_
    refine mj_all_cons 61 rfl (⟨mjcM68, 30, 4, rfl, by decide, mjcd68, mw_12, Or.inl ⟨5, mjF5, 5, by decide +kernel, rfl, rfl, rfl, mw_640, mw_642, mjsel_20⟩⟩) ?_
    refine mj_all_cons 62 rfl (trivial) ?_
    refine mj_all_cons 63 rfl (trivial) ?_
    refine mj_all_cons 64 rfl (Or.inr ⟨by decide +kernel, rfl⟩) ?_
    refine mj_all_cons 65 rfl (trivial) ?_
    refine mj_all_cons 66 rfl (Or.inr ⟨by decide +kernel, rfl⟩) ?_
    refine mj_all_cons 67 rfl (trivial) ?_
    refine mj_all_cons 68 rfl (show _ = _ from by decide +kernel) ?_
    refine mj_all_cons 69 rfl (trivial) ?_
    refine mj_all_cons 70 rfl (trivial) ?_
    refine mj_all_cons 71 rfl (Or.inr ⟨by decide +kernel, rfl⟩) ?_
    refine mj_all_cons 72 rfl (trivial) ?_
    refine mj_all_cons 73 rfl (show _ = _ from by decide +kernel) ?_
    refine mj_all_cons 74 rfl (Or.inl ⟨0, by decide +kernel, rfl, rfl⟩) ?_
    refine mj_all_cons 75 rfl (⟨22, "ListSpeaker$Maker", mjF5, 5, by decide +kernel, rfl, by decide, mw_209, mjw5⟩) ?_
    refine mj_all_cons 76 rfl (trivial) ?_
    refine mj_all_cons 77 rfl (trivial) ?_
    refine mj_all_cons 78 rfl (Or.inl ⟨1, by decide +kernel, rfl, rfl⟩) ?_
    refine mj_all_cons 79 rfl (Or.inr (Or.inr (Or.inr (Or.inl ⟨133, by decide +kernel, rfl, mw_692⟩)))) ?_
    refine mj_all_cons 80 rfl (trivial) ?_
    refine mj_all_cons 81 rfl (show _ = _ from by decide +kernel) ?_
    refine mj_all_cons 82 rfl (trivial) ?_
    refine mj_all_cons 83 rfl (trivial) ?_
    refine mj_all_cons 84 rfl (Or.inr (Or.inl ⟨by decide +kernel, rfl, by decide⟩)) ?_
    refine mj_all_cons 85 rfl (trivial) ?_
    refine mj_all_cons 86 rfl (show _ = _ from by decide +kernel) ?_
    refine mj_all_cons 87 rfl (trivial) ?_
    refine mj_all_cons 88 rfl (trivial) ?_
    refine mj_all_cons 89 rfl (Or.inr (Or.inl ⟨by decide +kernel, rfl, by decide⟩)) ?_
    refine mj_all_cons 90 rfl (trivial) ?_
    refine mj_all_cons 91 rfl (Or.inr ⟨by decide +kernel, rfl⟩) ?_
    refine mj_all_cons 92 rfl (trivial) ?_
    refine mj_all_cons 93 rfl (⟨mjcM59, 34, 2, rfl, by decide, mjcd59, mw_11, Or.inl ⟨4, mjF4, 4, by decide +kernel, rfl, rfl, rfl, mw_644, mw_645, mw_646⟩⟩) ?_
    refine mj_all_cons 94 rfl (trivial) ?_
    refine mj_all_cons 95 rfl (trivial) ?_
    refine mj_all_cons 96 rfl (Or.inr ⟨by decide +kernel, rfl⟩) ?_
    refine mj_all_cons 97 rfl (trivial) ?_
    refine mj_all_cons 98 rfl (Or.inl ⟨0, by decide +kernel, rfl, rfl⟩) ?_
    refine mj_all_cons 99 rfl (⟨18, "ListSpeaker$Maker", mjF5, 5, by decide +kernel, rfl, by decide, mw_208, mjw5⟩) ?_
    refine mj_all_cons 100 rfl (trivial) ?_
    refine mj_all_cons 101 rfl (trivial) ?_
    refine mj_all_cons 102 rfl (Or.inr ⟨by decide +kernel, rfl⟩) ?_
    refine mj_all_cons 103 rfl (trivial) ?_
    refine mj_all_cons 104 rfl (⟨mjcM21, 72, 1, rfl, by decide, mjcd21, mw_8, Or.inl ⟨2, mjF2, 12, by decide +kernel, rfl, rfl, rfl, mw_635, mw_602, mw_603⟩⟩) ?_
    refine mj_all_cons 105 rfl (trivial) ?_
    refine mj_all_cons 106 rfl (trivial) ?_
    refine mj_all_cons 107 rfl (Or.inr ⟨by decide +kernel, rfl⟩) ?_
    refine mj_all_cons 108 rfl (trivial) ?_
    refine mj_all_cons 109 rfl (show _ = _ from by decide +kernel) ?_
    refine mj_all_cons 110 rfl (trivial) ?_
    refine mj_all_cons 111 rfl (trivial) ?_
    refine mj_all_cons 112 rfl (show _ = _ from by decide +kernel) ?_
    refine mj_all_cons 113 rfl (trivial) ?_
    refine mj_all_cons 114 rfl (trivial) ?_
    refine mj_all_cons 115 rfl (Or.inl ⟨0, by decide +kernel, rfl, rfl⟩) ?_
    refine mj_all_cons 116 rfl (Or.inl ⟨0, by decide +kernel, rfl, rfl⟩) ?_
    refine mj_all_cons 117 rfl (⟨18, "ListSpeaker$Maker", mjF5, 5, by decide +kernel, rfl, by decide, mw_208, mjw5⟩) ?_
    refine mj_all_cons 118 rfl (trivial) ?_
    refine mj_all_cons 119 rfl (trivial) ?_
    refine mj_all_cons 120 rfl (Or.inr ⟨by decide +kernel, rfl⟩) ?_
    refine mj_all_cons 121 rfl (trivial) ?_
    refine mj_all_cons 122 rfl (⟨mjcM20, 62, 1, rfl, by decide, mjcd20, mw_8, Or.inl ⟨2, mjF2, 12, by decide +kernel, rfl, rfl, rfl, mw_623, mw_588, mw_589⟩⟩) ?_
    refine mj_all_cons 123 rfl (trivial) ?_
    refine mj_all_cons 124 rfl (trivial) ?_
    refine mj_all_cons 125 rfl (Or.inr ⟨by decide +kernel, rfl⟩) ?_
    refine mj_all_cons 126 rfl (trivial) ?_
    refine mj_all_cons 127 rfl (Or.inr ⟨by decide +kernel, rfl⟩) ?_
    refine mj_all_cons 128 rfl (trivial) ?_
    refine mj_all_cons 129 rfl (Or.inr ⟨by decide +kernel, rfl⟩) ?_
    refine mj_all_cons 130 rfl (trivial) ?_
    refine mj_all_cons 131 rfl (⟨mjcM68, 30, 4, rfl, by decide, mjcd68, mw_12, Or.inl ⟨5, mjF5, 5, by decide +kernel, rfl, rfl, rfl, mw_640, mw_642, mjsel_20⟩⟩) ?_
    refine mj_all_cons 132 rfl (trivial) ?_
    refine mj_all_cons 133 rfl (trivial) ?_
    refine mj_all_cons 134 rfl (Or.inr ⟨by decide +kernel, rfl⟩) ?_
    refine mj_all_cons 135 rfl (trivial) ?_
    refine mj_all_cons 136 rfl (Or.inl ⟨0, by decide +kernel, rfl, rfl⟩) ?_
    refine mj_all_cons 137 rfl (⟨22, "ListSpeaker$Maker", mjF5, 5, by decide +kernel, rfl, by decide, mw_209, mjw5⟩) ?_
    refine mj_all_cons 138 rfl (trivial) ?_
    refine mj_all_cons 139 rfl (trivial) ?_
    refine mj_all_cons 140 rfl (Or.inr ⟨by decide +kernel, rfl⟩) ?_
    refine mj_all_cons 141 rfl (trivial) ?_
    refine mj_all_cons 142 rfl (⟨mjcM61, 129, 1, rfl, by decide, mjcd61, mw_11, Or.inl ⟨4, mjF4, 4, by decide +kernel, rfl, rfl, rfl, mw_672, mw_673, mw_674⟩⟩) ?_
    refine mj_all_cons 143 rfl (trivial) ?_
    refine mj_all_cons 144 rfl (trivial) ?_
    refine mj_all_cons 145 rfl (Or.inr ⟨by decide +kernel, rfl⟩) ?_
    refine mj_all_cons 146 rfl (trivial) ?_
    refine mj_all_cons 147 rfl (show _ = _ from by decide +kernel) ?_
    exact trivial
  intro pc o ho
  have := mj_all_get _ 0 h pc o ho
  rw [Nat.zero_add] at this
  exact this
set_option maxRecDepth 100000 in
theorem mjci81 : ∀ (pc : Nat) (o : mj_O), mjco81[pc]? = some o → mj_is mj_kl mjcM81.1.cls mj_WS mj_NWs mjc_Ms mjcM81.2.1 pc o := by
  have h : mj_all (mj_is mj_kl mjcM81.1.cls mj_WS mj_NWs mjc_Ms mjcM81.2.1) 0 mjco81 := by
    unfold mjco81
    refine mj_all_cons 1 rfl (Or.inl ⟨0, by decide +kernel, rfl, rfl⟩) ?_
    refine mj_all_cons 2 rfl (⟨32, "ListSpeaker$Functions", mjF6, 7, by decide +kernel, rfl, by decide, mw_236, mjw6⟩) ?_
    refine mj_all_cons 3 rfl (trivial) ?_
    refine mj_all_cons 4 rfl (trivial) ?_
    refine mj_all_cons 5 rfl (show _ = _ from by decide +kernel) ?_
    exact trivial
  intro pc o ho
  have := mj_all_get _ 0 h pc o ho
  rw [Nat.zero_add] at this
  exact this
set_option maxRecDepth 100000 in
theorem mjci82 : ∀ (pc : Nat) (o : mj_O), mjco82[pc]? = some o → mj_is mj_kl mjcM82.1.cls mj_WS mj_NWs mjc_Ms mjcM82.2.1 pc o := by
  have h : mj_all (mj_is mj_kl mjcM82.1.cls mj_WS mj_NWs mjc_Ms mjcM82.2.1) 0 mjco82 := by
    unfold mjco82
    refine mj_all_cons 1 rfl (Or.inl ⟨0, by decide +kernel, rfl, rfl⟩) ?_
    refine mj_all_cons 2 rfl (⟨28, "ListSpeaker$Functions", mjF6, 7, by decide +kernel, rfl, by decide, mw_230, mjw6⟩) ?_
    refine mj_all_cons 3 rfl (trivial) ?_
    refine mj_all_cons 4 rfl (trivial) ?_
    refine mj_all_cons 5 rfl (Or.inl ⟨1, by decide +kernel, rfl, rfl⟩) ?_
    refine mj_all_cons 6 rfl (Or.inl ⟨by decide +kernel, rfl⟩) ?_
    refine mj_all_cons 7 rfl (⟨mjcM22, 36, 2, rfl, by decide, mjcd22, mw_8, Or.inl ⟨2, mjF2, 12, by decide +kernel, rfl, rfl, rfl, mw_718, mw_598, mw_599⟩⟩) ?_
    refine mj_all_cons 8 rfl (trivial) ?_
    refine mj_all_cons 9 rfl (trivial) ?_
    refine mj_all_cons 10 rfl (Or.inr (Or.inr (Or.inr (Or.inl ⟨42, by decide +kernel, rfl, mw_719⟩)))) ?_
    refine mj_all_cons 11 rfl (trivial) ?_
    refine mj_all_cons 12 rfl (show _ = _ from by decide +kernel) ?_
    refine mj_all_cons 13 rfl (Or.inl ⟨3, by decide +kernel, rfl, rfl⟩) ?_
    refine mj_all_cons 14 rfl (Or.inl ⟨3, by decide +kernel, rfl, rfl⟩) ?_
    refine mj_all_cons 15 rfl (show _ = _ from by decide +kernel) ?_
    refine mj_all_cons 16 rfl (trivial) ?_
    refine mj_all_cons 17 rfl (trivial) ?_
    refine mj_all_cons 18 rfl (Or.inl ⟨3, by decide +kernel, rfl, rfl⟩) ?_
    refine mj_all_cons 19 rfl (Or.inr (Or.inl ⟨by decide +kernel, rfl, by decide⟩)) ?_
    refine mj_all_cons 20 rfl (trivial) ?_
    refine mj_all_cons 21 rfl (show _ = _ from by decide +kernel) ?_
    refine mj_all_cons 22 rfl (trivial) ?_
    refine mj_all_cons 23 rfl (trivial) ?_
    refine mj_all_cons 24 rfl (Or.inl ⟨by decide +kernel, rfl⟩) ?_
    refine mj_all_cons 25 rfl (show _ = _ from by decide +kernel) ?_
    refine mj_all_cons 26 rfl (Or.inl ⟨0, by decide +kernel, rfl, rfl⟩) ?_
    refine mj_all_cons 27 rfl (⟨28, "ListSpeaker$Functions", mjF6, 7, by decide +kernel, rfl, by decide, mw_230, mjw6⟩) ?_
    refine mj_all_cons 28 rfl (trivial) ?_
    refine mj_all_cons 29 rfl (trivial) ?_
    refine mj_all_cons 30 rfl (Or.inl ⟨1, by decide +kernel, rfl, rfl⟩) ?_
    refine mj_all_cons 31 rfl (Or.inl ⟨by decide +kernel, rfl⟩) ?_
    refine mj_all_cons 32 rfl (⟨mjcM22, 36, 2, rfl, by decide, mjcd22, mw_8, Or.inl ⟨2, mjF2, 12, by decide +kernel, rfl, rfl, rfl, mw_718, mw_598, mw_599⟩⟩) ?_
    refine mj_all_cons 33 rfl (trivial) ?_
    refine mj_all_cons 34 rfl (trivial) ?_
    refine mj_all_cons 35 rfl (Or.inr ⟨by decide +kernel, rfl⟩) ?_
    refine mj_all_cons 36 rfl (trivial) ?_
    refine mj_all_cons 37 rfl (Or.inl ⟨0, by decide +kernel, rfl, rfl⟩) ?_
    refine mj_all_cons 38 rfl (⟨28, "ListSpeaker$Functions", mjF6, 7, by decide +kernel, rfl, by decide, mw_230, mjw6⟩) ?_
    refine mj_all_cons 39 rfl (trivial) ?_
    refine mj_all_cons 40 rfl (trivial) ?_
    refine mj_all_cons 41 rfl (Or.inl ⟨1, by decide +kernel, rfl, rfl⟩) ?_
    refine mj_all_cons 42 rfl (Or.inl ⟨by decide +kernel, rfl⟩) ?_
    refine mj_all_cons 43 rfl (⟨mjcM22, 36, 2, rfl, by decide, mjcd22, mw_8, Or.inl ⟨2, mjF2, 12, by decide +kernel, rfl, rfl, rfl, mw_718, mw_598, mw_599⟩⟩) ?_
    refine mj_all_cons 44 rfl (trivial) ?_
    refine mj_all_cons 45 rfl (trivial) ?_
    refine mj_all_cons 46 rfl (Or.inr ⟨by decide +kernel, rfl⟩) ?_
    refine mj_all_cons 47 rfl (trivial) ?_
    refine mj_all_cons 48 rfl (Or.inl ⟨0, by decide +kernel, rfl, rfl⟩) ?_
    refine mj_all_cons 49 rfl (⟨9, "ListSpeaker$Functions", mjF6, 7, by decide +kernel, rfl, by decide, mw_231, mjw6⟩) ?_
    refine mj_all_cons 50 rfl (trivial) ?_
    refine mj_all_cons 51 rfl (trivial) ?_
    refine mj_all_cons 52 rfl (Or.inl ⟨3, by decide +kernel, rfl, rfl⟩) ?_
    refine mj_all_cons 53 rfl (show _ = _ from by decide +kernel) ?_
    refine mj_all_cons 54 rfl (show _ = _ from by decide +kernel) ?_
    refine mj_all_cons 55 rfl (trivial) ?_
    refine mj_all_cons 56 rfl (trivial) ?_
    refine mj_all_cons 57 rfl (Or.inl ⟨0, by decide +kernel, rfl, rfl⟩) ?_
    refine mj_all_cons 58 rfl (Or.inr ⟨by decide +kernel, rfl⟩) ?_
    refine mj_all_cons 59 rfl (trivial) ?_
    refine mj_all_cons 60 rfl (Or.inl ⟨0, by decide +kernel, rfl, rfl⟩) ?_
    refine mj_all_cons 61 rfl (⟨15, "ListSpeaker$Functions", mjF6, 7, by decide +kernel, rfl, by decide, mw_232, mjw6⟩) ?_
    refine mj_all_cons 62 rfl (trivial) ?_
    refine mj_all_cons 63 rfl (trivial) ?_
    refine mj_all_cons 64 rfl (Or.inl ⟨3, by decide +kernel, rfl, rfl⟩) ?_
    refine mj_all_cons 65 rfl (show _ = _ from by decide +kernel) ?_
    refine mj_all_cons 66 rfl (⟨mjcM83, 43, 2, rfl, by decide, mjcd83, mw_13, Or.inl ⟨6, mjF6, 7, by decide +kernel, rfl, rfl, rfl, mw_720, mw_722, mjsel_31⟩⟩) ?_
    refine mj_all_cons 67 rfl (trivial) ?_
    refine mj_all_cons 68 rfl (trivial) ?_
    refine mj_all_cons 69 rfl (show _ = _ from by decide +kernel) ?_
    refine mj_all_cons 70 rfl (trivial) ?_
    refine mj_all_cons 71 rfl (trivial) ?_
    refine mj_all_cons 72 rfl (Or.inl ⟨0, by decide +kernel, rfl, rfl⟩) ?_
    refine mj_all_cons 73 rfl (Or.inr ⟨by decide +kernel, rfl⟩) ?_
    refine mj_all_cons 74 rfl (trivial) ?_
    refine mj_all_cons 75 rfl (Or.inl ⟨0, by decide +kernel, rfl, rfl⟩) ?_
    refine mj_all_cons 76 rfl (⟨22, "ListSpeaker$Functions", mjF6, 7, by decide +kernel, rfl, by decide, mw_234, mjw6⟩) ?_
    refine mj_all_cons 77 rfl (trivial) ?_
    refine mj_all_cons 78 rfl (trivial) ?_
    refine mj_all_cons 79 rfl (Or.inl ⟨3, by decide +kernel, rfl, rfl⟩) ?_
    refine mj_all_cons 80 rfl (show _ = _ from by decide +kernel) ?_
    refine mj_all_cons 81 rfl (⟨mjcM83, 43, 2, rfl, by decide, mjcd83, mw_13, Or.inl ⟨6, mjF6, 7, by decide +kernel, rfl, rfl, rfl, mw_720, mw_722, mjsel_31⟩⟩) ?_
    refine mj_all_cons 82 rfl (trivial) ?_
    refine mj_all_cons 83 rfl (trivial) ?_
    refine mj_all_cons 84 rfl (show _ = _ from by decide +kernel) ?_
    refine mj_all_cons 85 rfl (trivial) ?_
    refine mj_all_cons 86 rfl (trivial) ?_
    refine mj_all_cons 87 rfl (Or.inl ⟨by decide +kernel, rfl⟩) ?_
    refine mj_all_cons 88 rfl (show _ = _ from by decide +kernel) ?_
    refine mj_all_cons 89 rfl (trivial) ?_
    refine mj_all_cons 90 rfl (trivial) ?_
    refine mj_all_cons 91 rfl (Or.inr (Or.inl ⟨by decide +kernel, rfl, by decide⟩)) ?_
    refine mj_all_cons 92 rfl (trivial) ?_
    refine mj_all_cons 93 rfl (show _ = _ from by decide +kernel) ?_
    refine mj_all_cons 94 rfl (Or.inl ⟨0, by decide +kernel, rfl, rfl⟩) ?_
    refine mj_all_cons 95 rfl (⟨32, "ListSpeaker$Functions", mjF6, 7, by decide +kernel, rfl, by decide, mw_236, mjw6⟩) ?_
    refine mj_all_cons 96 rfl (trivial) ?_
    refine mj_all_cons 97 rfl (trivial) ?_
    refine mj_all_cons 98 rfl (Or.inr (Or.inl ⟨by decide +kernel, rfl, by decide⟩)) ?_
    refine mj_all_cons 99 rfl (trivial) ?_
    refine mj_all_cons 100 rfl (show _ = _ from by decide +kernel) ?_
    refine mj_all_cons 101 rfl (trivial) ?_
    refine mj_all_cons 102 rfl (trivial) ?_
    refine mj_all_cons 103 rfl (Or.inr (Or.inl ⟨by decide +kernel, rfl, by decide⟩)) ?_
    refine mj_all_cons 104 rfl (trivial) ?_
    refine mj_all_cons 105 rfl (show _ = _ from by decide +kernel) ?_
    refine mj_all_cons 106 rfl (Or.inl ⟨0, by decide +kernel, rfl, rfl⟩) ?_
    refine mj_all_cons 107 rfl (⟨9, "ListSpeaker$Functions", mjF6, 7, by decide +kernel, rfl, by decide, mw_231, mjw6⟩) ?_
    refine mj_all_cons 108 rfl (trivial) ?_
    refine mj_all_cons 109 rfl (trivial) ?_
    refine mj_all_cons 110 rfl (Or.inl ⟨3, by decide +kernel, rfl, rfl⟩) ?_
    refine mj_all_cons 111 rfl (Or.inl ⟨by decide +kernel, rfl⟩) ?_
    refine mj_all_cons 112 rfl (show _ = _ from by decide +kernel) ?_
    refine mj_all_cons 113 rfl (Or.inl ⟨0, by decide +kernel, rfl, rfl⟩) ?_
    refine mj_all_cons 114 rfl (⟨15, "ListSpeaker$Functions", mjF6, 7, by decide +kernel, rfl, by decide, mw_232, mjw6⟩) ?_
    refine mj_all_cons 115 rfl (trivial) ?_
    refine mj_all_cons 116 rfl (trivial) ?_
    refine mj_all_cons 117 rfl (Or.inl ⟨3, by decide +kernel, rfl, rfl⟩) ?_
    refine mj_all_cons 118 rfl (Or.inr ⟨by decide +kernel, rfl⟩) ?_
    refine mj_all_cons 119 rfl (trivial) ?_
    refine mj_all_cons 120 rfl (show _ = _ from by decide +kernel) ?_
    refine mj_all_cons 121 rfl (Or.inl ⟨0, by decide +kernel, rfl, rfl⟩) ?_
    refine mj_all_cons 122 rfl (⟨19, "ListSpeaker$Functions", mjF6, 7, by decide +kernel, rfl, by decide, mw_233, mjw6⟩) ?_
    refine mj_all_cons 123 rfl (trivial) ?_
    refine mj_all_cons 124 rfl (trivial) ?_
    refine mj_all_cons 125 rfl (Or.inl ⟨3, by decide +kernel, rfl, rfl⟩) ?_
    refine mj_all_cons 126 rfl (Or.inl ⟨0, by decide +kernel, rfl, rfl⟩) ?_
    refine mj_all_cons 127 rfl (⟨28, "ListSpeaker$Functions", mjF6, 7, by decide +kernel, rfl, by decide, mw_230, mjw6⟩) ?_
    refine mj_all_cons 128 rfl (trivial) ?_
    refine mj_all_cons 129 rfl (trivial) ?_
    refine mj_all_cons 130 rfl (Or.inr ⟨by decide +kernel, rfl⟩) ?_
    refine mj_all_cons 131 rfl (trivial) ?_
    refine mj_all_cons 132 rfl (⟨mjcM23, 47, 1, rfl, by decide, mjcd23, mw_8, Or.inl ⟨2, mjF2, 12, by decide +kernel, rfl, rfl, rfl, mw_734, mw_607, mw_608⟩⟩) ?_
    refine mj_all_cons 133 rfl (trivial) ?_
    refine mj_all_cons 134 rfl (trivial) ?_
    refine mj_all_cons 135 rfl (show _ = _ from by decide +kernel) ?_
    refine mj_all_cons 136 rfl (Or.inl ⟨0, by decide +kernel, rfl, rfl⟩) ?_
    refine mj_all_cons 137 rfl (⟨22, "ListSpeaker$Functions", mjF6, 7, by decide +kernel, rfl, by decide, mw_234, mjw6⟩) ?_
    refine mj_all_cons 138 rfl (trivial) ?_
    refine mj_all_cons 139 rfl (trivial) ?_
    refine mj_all_cons 140 rfl (Or.inl ⟨3, by decide +kernel, rfl, rfl⟩) ?_
    refine mj_all_cons 141 rfl (Or.inr ⟨by decide +kernel, rfl⟩) ?_
    refine mj_all_cons 142 rfl (trivial) ?_
    refine mj_all_cons 143 rfl (show _ = _ from by decide +kernel) ?_
    refine mj_all_cons 144 rfl (Or.inl ⟨0, by decide +kernel, rfl, rfl⟩) ?_
    refine mj_all_cons 145 rfl (⟨25, "ListSpeaker$Functions", mjF6, 7, by decide +kernel, rfl, by decide, mw_235, mjw6⟩) ?_
    refine mj_all_cons 146 rfl (trivial) ?_
    refine mj_all_cons 147 rfl (trivial) ?_
    refine mj_all_cons 148 rfl (Or.inl ⟨3, by decide +kernel, rfl, rfl⟩) ?_
    refine mj_all_cons 149 rfl (Or.inl ⟨2, by decide +kernel, rfl, rfl⟩) ?_
    refine mj_all_cons 150 rfl (show _ = _ from by decide +kernel) ?_
    refine mj_all_cons 151 rfl (Or.inl ⟨0, by decide +kernel, rfl, rfl⟩) ?_
    refine mj_all_cons 152 rfl (show _ = _ from by decide +kernel) ?_
    refine mj_all_cons 153 rfl (⟨32, "ListSpeaker$Functions", mjF6, 7, by decide +kernel, rfl, by decide, mw_236, mjw6⟩) ?_
    refine mj_all_cons 154 rfl (trivial) ?_
    refine mj_all_cons 155 rfl (trivial) ?_
    refine mj_all_cons 156 rfl (Or.inl ⟨by decide +kernel, rfl⟩) ?_
    refine mj_all_cons 157 rfl (show _ = _ from by decide +kernel) ?_
    refine mj_all_cons 158 rfl (⟨32, "ListSpeaker$Functions", mjF6, 7, mjt6, by decide +kernel, rfl, by decide, mw_236, mjw6, mjk6, mjn6, rfl, by decide +kernel⟩) ?_
    refine mj_all_cons 159 rfl (trivial) ?_
    refine mj_all_cons 160 rfl (trivial) ?_
    refine mj_all_cons 161 rfl (Or.inl ⟨by decide +kernel, rfl⟩) ?_
    refine mj_all_cons 162 rfl (show _ = _ from by decide +kernel) ?_
    exact trivial
  intro pc o ho
  have := mj_all_get _ 0 h pc o ho
  rw [Nat.zero_add] at this
  exact this
