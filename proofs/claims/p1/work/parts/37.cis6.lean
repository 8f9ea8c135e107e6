set_option maxRecDepth 100000 in
theorem mjci103 : ∀ (pc : Nat) (o : mj_O), mjco103[pc]? = some o → mj_is mj_kl mjcM103.1.cls mj_WS mj_NWs mjc_Ms mjcM103.2.1 pc o := by
  have h : mj_all (mj_is mj_kl mjcM103.1.cls mj_WS mj_NWs mjc_Ms mjcM103.2.1) 0 mjco103 := by
    unfold mjco103
    refine mj_all_cons 1 rfl (Or.inl ⟨0, by decide +kernel, rfl, rfl⟩) ?_
    refine mj_all_cons 2 rfl (show _ = _ from by decide +kernel) ?_
    refine mj_all_cons 3 rfl (trivial) ?_
    refine mj_all_cons 4 rfl (trivial) ?_
    refine mj_all_cons 5 rfl (Or.inr (Or.inr (Or.inr (Or.inl ⟨168, by decide +kernel, rfl, mw_855⟩)))) ?_
    refine mj_all_cons 6 rfl (trivial) ?_
    refine mj_all_cons 7 rfl (show _ = _ from by decide +kernel) ?_
    refine mj_all_cons 8 rfl (trivial) ?_
    refine mj_all_cons 9 rfl (trivial) ?_
    refine mj_all_cons 10 rfl (Or.inr (Or.inr (Or.inr (Or.inl ⟨94, by decide +kernel, rfl, mw_768⟩)))) ?_
    refine mj_all_cons 11 rfl (trivial) ?_
    refine mj_all_cons 12 rfl (show _ = _ from by decide +kernel) ?_
    exact trivial
  intro pc o ho
  have := mj_all_get _ 0 h pc o ho
  rw [Nat.zero_add] at this
  exact this
set_option maxRecDepth 100000 in
theorem mjci104 : ∀ (pc : Nat) (o : mj_O), mjco104[pc]? = some o → mj_is mj_kl mjcM104.1.cls mj_WS mj_NWs mjc_Ms mjcM104.2.1 pc o := by
  have h : mj_all (mj_is mj_kl mjcM104.1.cls mj_WS mj_NWs mjc_Ms mjcM104.2.1) 0 mjco104 := by
    unfold mjco104
    refine mj_all_cons 1 rfl (Or.inl ⟨0, by decide +kernel, rfl, rfl⟩) ?_
    refine mj_all_cons 2 rfl (⟨mjcM7, 159, 1, rfl, by decide, mjcd7, mw_1, Or.inr (Or.inr ⟨"ListSpeaker", by decide +kernel, rfl, rfl, mjnw_4, mw_653⟩)⟩) ?_
    refine mj_all_cons 3 rfl (trivial) ?_
    refine mj_all_cons 4 rfl (trivial) ?_
    refine mj_all_cons 5 rfl (show _ = _ from by decide +kernel) ?_
    refine mj_all_cons 6 rfl (trivial) ?_
    refine mj_all_cons 7 rfl (trivial) ?_
    refine mj_all_cons 8 rfl (Or.inl ⟨0, by decide +kernel, rfl, rfl⟩) ?_
    refine mj_all_cons 9 rfl (show _ = _ from by decide +kernel) ?_
    refine mj_all_cons 10 rfl (trivial) ?_
    refine mj_all_cons 11 rfl (trivial) ?_
    refine mj_all_cons 12 rfl (Or.inl ⟨by decide +kernel, rfl⟩) ?_
    refine mj_all_cons 13 rfl (show _ = _ from by decide +kernel) ?_
    exact trivial
  intro pc o ho
  have := mj_all_get _ 0 h pc o ho
  rw [Nat.zero_add] at this
  exact this
set_option maxRecDepth 100000 in
theorem mjci105 : ∀ (pc : Nat) (o : mj_O), mjco105[pc]? = some o → mj_is mj_kl mjcM105.1.cls mj_WS mj_NWs mjc_Ms mjcM105.2.1 pc o := by
  have h : mj_all (mj_is mj_kl mjcM105.1.cls mj_WS mj_NWs mjc_Ms mjcM105.2.1) 0 mjco105 := by
    unfold mjco105
    refine mj_all_cons 1 rfl (Or.inl ⟨0, by decide +kernel, rfl, rfl⟩) ?_
    refine mj_all_cons 2 rfl (Or.inl ⟨by decide +kernel, rfl⟩) ?_
    refine mj_all_cons 3 rfl (⟨mjcM94, 43, 1, rfl, by decide, mjcd94, mw_14, Or.inl ⟨7, mjF7, 14, by decide +kernel, rfl, rfl, rfl, mw_777, mw_779, mjsel_39⟩⟩) ?_
    refine mj_all_cons 4 rfl (trivial) ?_
    refine mj_all_cons 5 rfl (trivial) ?_
    refine mj_all_cons 6 rfl (⟨mjcM104, 165, 1, rfl, by decide, mjcd104, mw_14, Or.inr (Or.inl ⟨by decide +kernel, rfl, rfl, mw_860, mw_861⟩)⟩) ?_
    refine mj_all_cons 7 rfl (trivial) ?_
    refine mj_all_cons 8 rfl (trivial) ?_
    refine mj_all_cons 9 rfl (Or.inl ⟨0, by decide +kernel, rfl, rfl⟩) ?_
    refine mj_all_cons 10 rfl (Or.inl ⟨by decide +kernel, rfl⟩) ?_
    refine mj_all_cons 11 rfl (⟨mjcM94, 43, 1, rfl, by decide, mjcd94, mw_14, Or.inl ⟨7, mjF7, 14, by decide +kernel, rfl, rfl, rfl, mw_777, mw_779, mjsel_39⟩⟩) ?_
    refine mj_all_cons 12 rfl (trivial) ?_
    refine mj_all_cons 13 rfl (trivial) ?_
    refine mj_all_cons 14 rfl (⟨mjcM104, 165, 1, rfl, by decide, mjcd104, mw_14, Or.inr (Or.inl ⟨by decide +kernel, rfl, rfl, mw_860, mw_861⟩)⟩) ?_
    refine mj_all_cons 15 rfl (trivial) ?_
    refine mj_all_cons 16 rfl (trivial) ?_
    refine mj_all_cons 17 rfl (show _ = _ from by decide +kernel) ?_
    refine mj_all_cons 18 rfl (Or.inl ⟨1, by decide +kernel, rfl, rfl⟩) ?_
    refine mj_all_cons 19 rfl (Or.inl ⟨1, by decide +kernel, rfl, rfl⟩) ?_
    refine mj_all_cons 20 rfl (Or.inr (Or.inr (Or.inr (Or.inl ⟨169, by decide +kernel, rfl, mw_864⟩)))) ?_
    refine mj_all_cons 21 rfl (trivial) ?_
    refine mj_all_cons 22 rfl (show _ = _ from by decide +kernel) ?_
    refine mj_all_cons 23 rfl (trivial) ?_
    refine mj_all_cons 24 rfl (trivial) ?_
    refine mj_all_cons 25 rfl (Or.inr (Or.inl ⟨by decide +kernel, rfl, by decide⟩)) ?_
    refine mj_all_cons 26 rfl (trivial) ?_
    refine mj_all_cons 27 rfl (show _ = _ from by decide +kernel) ?_
    refine mj_all_cons 28 rfl (trivial) ?_
    refine mj_all_cons 29 rfl (trivial) ?_
    refine mj_all_cons 30 rfl (Or.inl ⟨0, by decide +kernel, rfl, rfl⟩) ?_
    refine mj_all_cons 31 rfl (Or.inl ⟨by decide +kernel, rfl⟩) ?_
    refine mj_all_cons 32 rfl (Or.inl ⟨1, by decide +kernel, rfl, rfl⟩) ?_
    refine mj_all_cons 33 rfl (⟨mjcM96, 99, 2, rfl, by decide, mjcd96, mw_14, Or.inl ⟨7, mjF7, 14, by decide +kernel, rfl, rfl, rfl, mw_790, mw_792, mjsel_42⟩⟩) ?_
    refine mj_all_cons 34 rfl (trivial) ?_
    refine mj_all_cons 35 rfl (trivial) ?_
    refine mj_all_cons 36 rfl (show _ = _ from by decide +kernel) ?_
    exact trivial
  intro pc o ho
  have := mj_all_get _ 0 h pc o ho
  rw [Nat.zero_add] at this
  exact this
set_option maxRecDepth 100000 in
theorem mjci106 : ∀ (pc : Nat) (o : mj_O), mjco106[pc]? = some o → mj_is mj_kl mjcM106.1.cls mj_WS mj_NWs mjc_Ms mjcM106.2.1 pc o := by
  have h : mj_all (mj_is mj_kl mjcM106.1.cls mj_WS mj_NWs mjc_Ms mjcM106.2.1) 0 mjco106 := by
    unfold mjco106
    refine mj_all_cons 1 rfl (Or.inl ⟨0, by decide +kernel, rfl, rfl⟩) ?_
    refine mj_all_cons 2 rfl (⟨24, "ListSpeaker$Machine", mjF7, 14, by decide +kernel, rfl, by decide, mw_258, mjw7⟩) ?_
    refine mj_all_cons 3 rfl (trivial) ?_
    refine mj_all_cons 4 rfl (trivial) ?_
    refine mj_all_cons 5 rfl (Or.inl ⟨0, by decide +kernel, rfl, rfl⟩) ?_
    refine mj_all_cons 6 rfl (Or.inl ⟨by decide +kernel, rfl⟩) ?_
    refine mj_all_cons 7 rfl (⟨mjcM94, 43, 1, rfl, by decide, mjcd94, mw_14, Or.inl ⟨7, mjF7, 14, by decide +kernel, rfl, rfl, rfl, mw_777, mw_779, mjsel_39⟩⟩) ?_
    refine mj_all_cons 8 rfl (trivial) ?_
    refine mj_all_cons 9 rfl (trivial) ?_
    refine mj_all_cons 10 rfl (Or.inl ⟨0, by decide +kernel, rfl, rfl⟩) ?_
    refine mj_all_cons 11 rfl (Or.inl ⟨by decide +kernel, rfl⟩) ?_
    refine mj_all_cons 12 rfl (⟨mjcM94, 43, 1, rfl, by decide, mjcd94, mw_14, Or.inl ⟨7, mjF7, 14, by decide +kernel, rfl, rfl, rfl, mw_777, mw_779, mjsel_39⟩⟩) ?_
    refine mj_all_cons 13 rfl (trivial) ?_
    refine mj_all_cons 14 rfl (trivial) ?_
    refine mj_all_cons 15 rfl (Or.inl ⟨0, by decide +kernel, rfl, rfl⟩) ?_
    refine mj_all_cons 16 rfl (⟨47, "ListSpeaker$Machine", mjF7, 14, by decide +kernel, rfl, by decide, mw_269, mjw7⟩) ?_
    refine mj_all_cons 17 rfl (trivial) ?_
    refine mj_all_cons 18 rfl (trivial) ?_
    refine mj_all_cons 19 rfl (Or.inl ⟨0, by decide +kernel, rfl, rfl⟩) ?_
    refine mj_all_cons 20 rfl (⟨36, "ListSpeaker$Machine", mjF7, 14, by decide +kernel, rfl, by decide, mw_270, mjw7⟩) ?_
    refine mj_all_cons 21 rfl (trivial) ?_
    refine mj_all_cons 22 rfl (trivial) ?_
    refine mj_all_cons 23 rfl (show _ = _ from by decide +kernel) ?_
    refine mj_all_cons 24 rfl (⟨mjcM32, 170, 3, rfl, by decide, mjcd32, mw_8, Or.inl ⟨2, mjF2, 12, by decide +kernel, rfl, rfl, rfl, mw_847, mw_726, mw_727⟩⟩) ?_
    refine mj_all_cons 25 rfl (trivial) ?_
    refine mj_all_cons 26 rfl (trivial) ?_
    refine mj_all_cons 27 rfl (Or.inl ⟨1, by decide +kernel, rfl, rfl⟩) ?_
    refine mj_all_cons 28 rfl (Or.inl ⟨0, by decide +kernel, rfl, rfl⟩) ?_
    refine mj_all_cons 29 rfl (show _ = _ from by decide +kernel) ?_
    refine mj_all_cons 30 rfl (⟨36, "ListSpeaker$Machine", mjF7, 14, by decide +kernel, rfl, by decide, mw_270, mjw7⟩) ?_
    refine mj_all_cons 31 rfl (trivial) ?_
    refine mj_all_cons 32 rfl (trivial) ?_
    refine mj_all_cons 33 rfl (Or.inl ⟨0, by decide +kernel, rfl, rfl⟩) ?_
    refine mj_all_cons 34 rfl (⟨24, "ListSpeaker$Machine", mjF7, 14, by decide +kernel, rfl, by decide, mw_258, mjw7⟩) ?_
    refine mj_all_cons 35 rfl (trivial) ?_
    refine mj_all_cons 36 rfl (trivial) ?_
    refine mj_all_cons 37 rfl (⟨mjcM19, 172, 0, rfl, by decide, mjcd19, mw_8, Or.inl ⟨2, mjF2, 12, by decide +kernel, rfl, rfl, rfl, mw_848, mw_849, mw_850⟩⟩) ?_
    refine mj_all_cons 38 rfl (trivial) ?_
    refine mj_all_cons 39 rfl (trivial) ?_
    refine mj_all_cons 40 rfl (show _ = _ from by decide +kernel) ?_
    refine mj_all_cons 41 rfl (⟨36, "ListSpeaker$Machine", mjF7, 14, mjt7, by decide +kernel, rfl, by decide, mw_270, mjw7, mjk7, mjn7, rfl, by decide +kernel⟩) ?_
    refine mj_all_cons 42 rfl (trivial) ?_
    refine mj_all_cons 43 rfl (trivial) ?_
    refine mj_all_cons 44 rfl (Or.inl ⟨1, by decide +kernel, rfl, rfl⟩) ?_
    refine mj_all_cons 45 rfl (Or.inl ⟨by decide +kernel, rfl⟩) ?_
    refine mj_all_cons 46 rfl (show _ = _ from by decide +kernel) ?_
    refine mj_all_cons 47 rfl (trivial) ?_
    refine mj_all_cons 48 rfl (trivial) ?_
    refine mj_all_cons 49 rfl (Or.inl ⟨by decide +kernel, rfl⟩) ?_
    refine mj_all_cons 50 rfl (show _ = _ from by decide +kernel) ?_
    refine mj_all_cons 51 rfl (trivial) ?_
    refine mj_all_cons 52 rfl (trivial) ?_
    refine mj_all_cons 53 rfl (Or.inl ⟨0, by decide +kernel, rfl, rfl⟩) ?_
    refine mj_all_cons 54 rfl (Or.inl ⟨by decide +kernel, rfl⟩) ?_
    refine mj_all_cons 55 rfl (Or.inl ⟨1, by decide +kernel, rfl, rfl⟩) ?_
    refine mj_all_cons 56 rfl (show _ = _ from by decide +kernel) ?_
    refine mj_all_cons 57 rfl (trivial) ?_
    refine mj_all_cons 58 rfl (trivial) ?_
    refine mj_all_cons 59 rfl (Or.inl ⟨by decide +kernel, rfl⟩) ?_
    refine mj_all_cons 60 rfl (show _ = _ from by decide +kernel) ?_
    refine mj_all_cons 61 rfl (trivial) ?_
    refine mj_all_cons 62 rfl (trivial) ?_
    refine mj_all_cons 63 rfl (Or.inl ⟨by decide +kernel, rfl⟩) ?_
    refine mj_all_cons 64 rfl (⟨mjcM103, 155, 1, rfl, by decide, mjcd103, mw_14, Or.inr (Or.inl ⟨by decide +kernel, rfl, rfl, mw_852, mw_853⟩)⟩) ?_
    refine mj_all_cons 65 rfl (trivial) ?_
    refine mj_all_cons 66 rfl (trivial) ?_
    refine mj_all_cons 67 rfl (⟨mjcM96, 99, 2, rfl, by decide, mjcd96, mw_14, Or.inl ⟨7, mjF7, 14, by decide +kernel, rfl, rfl, rfl, mw_790, mw_792, mjsel_42⟩⟩) ?_
    refine mj_all_cons 68 rfl (trivial) ?_
    refine mj_all_cons 69 rfl (trivial) ?_
    refine mj_all_cons 70 rfl (show _ = _ from by decide +kernel) ?_
    exact trivial
  intro pc o ho
  have := mj_all_get _ 0 h pc o ho
  rw [Nat.zero_add] at this
  exact this
set_option maxRecDepth 100000 in
theorem mjci107 : ∀ (pc : Nat) (o : mj_O), mjco107[pc]? = some o → mj_is mj_kl mjcM107.1.cls mj_WS mj_NWs mjc_Ms mjcM107.2.1 pc o := by
  have h : mj_all (mj_is mj_kl mjcM107.1.cls mj_WS mj_NWs mjc_Ms mjcM107.2.1) 0 mjco107 := by
    unfold mjco107
    refine mj_all_cons 1 rfl (Or.inl ⟨0, by decide +kernel, rfl, rfl⟩) ?_
    refine mj_all_cons 2 rfl (⟨32, "ListSpeaker$Machine", mjF7, 14, by decide +kernel, rfl, by decide, mw_260, mjw7⟩) ?_
    refine mj_all_cons 3 rfl (trivial) ?_
    refine mj_all_cons 4 rfl (trivial) ?_
    refine mj_all_cons 5 rfl (Or.inl ⟨1, by decide +kernel, rfl, rfl⟩) ?_
    refine mj_all_cons 6 rfl (Or.inl ⟨2, by decide +kernel, rfl, rfl⟩) ?_
    refine mj_all_cons 7 rfl (⟨mjcM84, 175, 2, rfl, by decide, mjcd84, mw_13, Or.inl ⟨6, mjF6, 7, by decide +kernel, rfl, rfl, rfl, mw_798, mw_799, mw_800⟩⟩) ?_
    refine mj_all_cons 8 rfl (trivial) ?_
    refine mj_all_cons 9 rfl (trivial) ?_
    refine mj_all_cons 10 rfl (Or.inl ⟨3, by decide +kernel, rfl, rfl⟩) ?_
    refine mj_all_cons 11 rfl (Or.inl ⟨3, by decide +kernel, rfl, rfl⟩) ?_
    refine mj_all_cons 12 rfl (show _ = _ from by decide +kernel) ?_
    refine mj_all_cons 13 rfl (trivial) ?_
    refine mj_all_cons 14 rfl (trivial) ?_
    refine mj_all_cons 15 rfl (Or.inl ⟨3, by decide +kernel, rfl, rfl⟩) ?_
    refine mj_all_cons 16 rfl (show _ = _ from by decide +kernel) ?_
    refine mj_all_cons 17 rfl (Or.inl ⟨0, by decide +kernel, rfl, rfl⟩) ?_
    refine mj_all_cons 18 rfl (⟨53, "ListSpeaker$Machine", mjF7, 14, by decide +kernel, rfl, by decide, mw_265, mjw7⟩) ?_
    refine mj_all_cons 19 rfl (trivial) ?_
    refine mj_all_cons 20 rfl (trivial) ?_
    refine mj_all_cons 21 rfl (Or.inl ⟨2, by decide +kernel, rfl, rfl⟩) ?_
    refine mj_all_cons 22 rfl (show _ = _ from by decide +kernel) ?_
    refine mj_all_cons 23 rfl (Or.inr ⟨by decide +kernel, rfl⟩) ?_
    refine mj_all_cons 24 rfl (trivial) ?_
    refine mj_all_cons 25 rfl (Or.inl ⟨0, by decide +kernel, rfl, rfl⟩) ?_
    refine mj_all_cons 26 rfl (⟨53, "ListSpeaker$Machine", mjF7, 14, by decide +kernel, rfl, by decide, mw_265, mjw7⟩) ?_
    refine mj_all_cons 27 rfl (trivial) ?_
    refine mj_all_cons 28 rfl (trivial) ?_
    refine mj_all_cons 29 rfl (Or.inr ⟨by decide +kernel, rfl⟩) ?_
    refine mj_all_cons 30 rfl (trivial) ?_
    refine mj_all_cons 31 rfl (Or.inl ⟨0, by decide +kernel, rfl, rfl⟩) ?_
    refine mj_all_cons 32 rfl (Or.inr (Or.inr (Or.inr (Or.inl ⟨94, by decide +kernel, rfl, mw_768⟩)))) ?_
    refine mj_all_cons 33 rfl (trivial) ?_
    refine mj_all_cons 34 rfl (⟨mjcM93, 82, 1, rfl, by decide, mjcd93, mw_14, Or.inl ⟨7, mjF7, 14, by decide +kernel, rfl, rfl, rfl, mw_760, mw_762, mjsel_35⟩⟩) ?_
    refine mj_all_cons 35 rfl (trivial) ?_
    refine mj_all_cons 36 rfl (trivial) ?_
    refine mj_all_cons 37 rfl (Or.inl ⟨3, by decide +kernel, rfl, rfl⟩) ?_
    refine mj_all_cons 38 rfl (Or.inl ⟨3, by decide +kernel, rfl, rfl⟩) ?_
    refine mj_all_cons 39 rfl (show _ = _ from by decide +kernel) ?_
    refine mj_all_cons 40 rfl (trivial) ?_
    refine mj_all_cons 41 rfl (trivial) ?_
    refine mj_all_cons 42 rfl (Or.inl ⟨3, by decide +kernel, rfl, rfl⟩) ?_
    refine mj_all_cons 43 rfl (show _ = _ from by decide +kernel) ?_
    refine mj_all_cons 44 rfl (Or.inl ⟨0, by decide +kernel, rfl, rfl⟩) ?_
    refine mj_all_cons 45 rfl (Or.inr ⟨by decide +kernel, rfl⟩) ?_
    refine mj_all_cons 46 rfl (trivial) ?_
    refine mj_all_cons 47 rfl (Or.inl ⟨0, by decide +kernel, rfl, rfl⟩) ?_
    refine mj_all_cons 48 rfl (⟨50, "ListSpeaker$Machine", mjF7, 14, by decide +kernel, rfl, by decide, mw_268, mjw7⟩) ?_
    refine mj_all_cons 49 rfl (trivial) ?_
    refine mj_all_cons 50 rfl (trivial) ?_
    refine mj_all_cons 51 rfl (Or.inl ⟨0, by decide +kernel, rfl, rfl⟩) ?_
    refine mj_all_cons 52 rfl (⟨56, "ListSpeaker$Machine", mjF7, 14, by decide +kernel, rfl, by decide, mw_266, mjw7⟩) ?_
    refine mj_all_cons 53 rfl (trivial) ?_
    refine mj_all_cons 54 rfl (trivial) ?_
    refine mj_all_cons 55 rfl (Or.inl ⟨0, by decide +kernel, rfl, rfl⟩) ?_
    refine mj_all_cons 56 rfl (⟨59, "ListSpeaker$Machine", mjF7, 14, by decide +kernel, rfl, by decide, mw_267, mjw7⟩) ?_
    refine mj_all_cons 57 rfl (trivial) ?_
    refine mj_all_cons 58 rfl (trivial) ?_
    refine mj_all_cons 59 rfl (⟨mjcM109, 180, 4, rfl, by decide, mjcd109, mw_14, Or.inl ⟨7, mjF7, 14, by decide +kernel, rfl, rfl, rfl, mw_802, mw_804, mjsel_44⟩⟩) ?_
    refine mj_all_cons 60 rfl (trivial) ?_
    refine mj_all_cons 61 rfl (trivial) ?_
    refine mj_all_cons 62 rfl (Or.inl ⟨0, by decide +kernel, rfl, rfl⟩) ?_
    refine mj_all_cons 63 rfl (Or.inr ⟨by decide +kernel, rfl⟩) ?_
    refine mj_all_cons 64 rfl (trivial) ?_
    refine mj_all_cons 65 rfl (⟨56, "ListSpeaker$Machine", mjF7, 14, mjt7, by decide +kernel, rfl, by decide, mw_266, mjw7, mjk7, mjn7, rfl, by decide +kernel⟩) ?_
    refine mj_all_cons 66 rfl (trivial) ?_
    refine mj_all_cons 67 rfl (trivial) ?_
    refine mj_all_cons 68 rfl (Or.inl ⟨0, by decide +kernel, rfl, rfl⟩) ?_
    refine mj_all_cons 69 rfl (Or.inr ⟨by decide +kernel, rfl⟩) ?_
    refine mj_all_cons 70 rfl (trivial) ?_
    refine mj_all_cons 71 rfl (⟨59, "ListSpeaker$Machine", mjF7, 14, mjt7, by decide +kernel, rfl, by decide, mw_267, mjw7, mjk7, mjn7, rfl, by decide +kernel⟩) ?_
    refine mj_all_cons 72 rfl (trivial) ?_
    refine mj_all_cons 73 rfl (trivial) ?_
    refine mj_all_cons 74 rfl (Or.inl ⟨0, by decide +kernel, rfl, rfl⟩) ?_
    refine mj_all_cons 75 rfl (Or.inl ⟨0, by decide +kernel, rfl, rfl⟩) ?_
    refine mj_all_cons 76 rfl (⟨32, "ListSpeaker$Machine", mjF7, 14, by decide +kernel, rfl, by decide, mw_260, mjw7⟩) ?_
    refine mj_all_cons 77 rfl (trivial) ?_
    refine mj_all_cons 78 rfl (trivial) ?_
    refine mj_all_cons 79 rfl (Or.inl ⟨1, by decide +kernel, rfl, rfl⟩) ?_
    refine mj_all_cons 80 rfl (⟨mjcM85, 184, 1, rfl, by decide, mjcd85, mw_13, Or.inl ⟨6, mjF6, 7, by decide +kernel, rfl, rfl, rfl, mw_806, mw_807, mw_808⟩⟩) ?_
    refine mj_all_cons 81 rfl (trivial) ?_
    refine mj_all_cons 82 rfl (trivial) ?_
    refine mj_all_cons 83 rfl (⟨mjcM97, 88, 1, rfl, by decide, mjcd97, mw_14, Or.inl ⟨7, mjF7, 14, by decide +kernel, rfl, rfl, rfl, mw_769, mw_771, mjsel_37⟩⟩) ?_
    refine mj_all_cons 84 rfl (trivial) ?_
    refine mj_all_cons 85 rfl (trivial) ?_
    refine mj_all_cons 86 rfl (show _ = _ from by decide +kernel) ?_
    exact trivial
  intro pc o ho
  have := mj_all_get _ 0 h pc o ho
  rw [Nat.zero_add] at this
  exact this
set_option maxRecDepth 100000 in
theorem mjci108 : ∀ (pc : Nat) (o : mj_O), mjco108[pc]? = some o → mj_is mj_kl mjcM108.1.cls mj_WS mj_NWs mjc_Ms mjcM108.2.1 pc o := by
  have h : mj_all (mj_is mj_kl mjcM108.1.cls mj_WS mj_NWs mjc_Ms mjcM108.2.1) 0 mjco108 := by
    unfold mjco108
    refine mj_all_cons 1 rfl (Or.inl ⟨0, by decide +kernel, rfl, rfl⟩) ?_
    refine mj_all_cons 2 rfl (⟨32, "ListSpeaker$Machine", mjF7, 14, by decide +kernel, rfl, by decide, mw_260, mjw7⟩) ?_
    refine mj_all_cons 3 rfl (trivial) ?_
    refine mj_all_cons 4 rfl (trivial) ?_
    refine mj_all_cons 5 rfl (Or.inl ⟨1, by decide +kernel, rfl, rfl⟩) ?_
    refine mj_all_cons 6 rfl (Or.inl ⟨2, by decide +kernel, rfl, rfl⟩) ?_
    refine mj_all_cons 7 rfl (⟨mjcM84, 175, 2, rfl, by decide, mjcd84, mw_13, Or.inl ⟨6, mjF6, 7, by decide +kernel, rfl, rfl, rfl, mw_798, mw_799, mw_800⟩⟩) ?_
    refine mj_all_cons 8 rfl (trivial) ?_
    refine mj_all_cons 9 rfl (trivial) ?_
    refine mj_all_cons 10 rfl (Or.inl ⟨3, by decide +kernel, rfl, rfl⟩) ?_
    refine mj_all_cons 11 rfl (Or.inl ⟨3, by decide +kernel, rfl, rfl⟩) ?_
    refine mj_all_cons 12 rfl (show _ = _ from by decide +kernel) ?_
    refine mj_all_cons 13 rfl (trivial) ?_
    refine mj_all_cons 14 rfl (trivial) ?_
    refine mj_all_cons 15 rfl (Or.inl ⟨3, by decide +kernel, rfl, rfl⟩) ?_
    refine mj_all_cons 16 rfl (show _ = _ from by decide +kernel) ?_
    refine mj_all_cons 17 rfl (Or.inl ⟨0, by decide +kernel, rfl, rfl⟩) ?_
    refine mj_all_cons 18 rfl (⟨53, "ListSpeaker$Machine", mjF7, 14, by decide +kernel, rfl, by decide, mw_265, mjw7⟩) ?_
    refine mj_all_cons 19 rfl (trivial) ?_
    refine mj_all_cons 20 rfl (trivial) ?_
    refine mj_all_cons 21 rfl (Or.inl ⟨2, by decide +kernel, rfl, rfl⟩) ?_
    refine mj_all_cons 22 rfl (show _ = _ from by decide +kernel) ?_
    refine mj_all_cons 23 rfl (Or.inr ⟨by decide +kernel, rfl⟩) ?_
    refine mj_all_cons 24 rfl (trivial) ?_
    refine mj_all_cons 25 rfl (Or.inl ⟨0, by decide +kernel, rfl, rfl⟩) ?_
    refine mj_all_cons 26 rfl (⟨56, "ListSpeaker$Machine", mjF7, 14, by decide +kernel, rfl, by decide, mw_266, mjw7⟩) ?_
    refine mj_all_cons 27 rfl (trivial) ?_
    refine mj_all_cons 28 rfl (trivial) ?_
    refine mj_all_cons 29 rfl (Or.inl ⟨2, by decide +kernel, rfl, rfl⟩) ?_
    refine mj_all_cons 30 rfl (show _ = _ from by decide +kernel) ?_
    refine mj_all_cons 31 rfl (Or.inr ⟨by decide +kernel, rfl⟩) ?_
    refine mj_all_cons 32 rfl (trivial) ?_
    refine mj_all_cons 33 rfl (Or.inl ⟨0, by decide +kernel, rfl, rfl⟩) ?_
    refine mj_all_cons 34 rfl (⟨56, "ListSpeaker$Machine", mjF7, 14, by decide +kernel, rfl, by decide, mw_266, mjw7⟩) ?_
    refine mj_all_cons 35 rfl (trivial) ?_
    refine mj_all_cons 36 rfl (trivial) ?_
    refine mj_all_cons 37 rfl (show _ = _ from by decide +kernel) ?_
    refine mj_all_cons 38 rfl (trivial) ?_
    refine mj_all_cons 39 rfl (trivial) ?_
    refine mj_all_cons 40 rfl (Or.inl ⟨0, by decide +kernel, rfl, rfl⟩) ?_
    refine mj_all_cons 41 rfl (⟨59, "ListSpeaker$Machine", mjF7, 14, by decide +kernel, rfl, by decide, mw_267, mjw7⟩) ?_
    refine mj_all_cons 42 rfl (trivial) ?_
    refine mj_all_cons 43 rfl (trivial) ?_
    refine mj_all_cons 44 rfl (Or.inl ⟨0, by decide +kernel, rfl, rfl⟩) ?_
    refine mj_all_cons 45 rfl (⟨56, "ListSpeaker$Machine", mjF7, 14, by decide +kernel, rfl, by decide, mw_266, mjw7⟩) ?_
    refine mj_all_cons 46 rfl (trivial) ?_
    refine mj_all_cons 47 rfl (trivial) ?_
    refine mj_all_cons 48 rfl (show _ = _ from by decide +kernel) ?_
    refine mj_all_cons 49 rfl (trivial) ?_
    refine mj_all_cons 50 rfl (trivial) ?_
    refine mj_all_cons 51 rfl (Or.inr ⟨by decide +kernel, rfl⟩) ?_
    refine mj_all_cons 52 rfl (trivial) ?_
    refine mj_all_cons 53 rfl (Or.inl ⟨0, by decide +kernel, rfl, rfl⟩) ?_
    refine mj_all_cons 54 rfl (⟨59, "ListSpeaker$Machine", mjF7, 14, by decide +kernel, rfl, by decide, mw_267, mjw7⟩) ?_
    refine mj_all_cons 55 rfl (trivial) ?_
    refine mj_all_cons 56 rfl (trivial) ?_
    refine mj_all_cons 57 rfl (show _ = _ from by decide +kernel) ?_
    refine mj_all_cons 58 rfl (trivial) ?_
    refine mj_all_cons 59 rfl (trivial) ?_
    refine mj_all_cons 60 rfl (Or.inr ⟨by decide +kernel, rfl⟩) ?_
    refine mj_all_cons 61 rfl (trivial) ?_
    refine mj_all_cons 62 rfl (Or.inr (Or.inl ⟨by decide +kernel, rfl, by decide⟩)) ?_
    refine mj_all_cons 63 rfl (trivial) ?_
    refine mj_all_cons 64 rfl (show _ = _ from by decide +kernel) ?_
    refine mj_all_cons 65 rfl (trivial) ?_
    refine mj_all_cons 66 rfl (trivial) ?_
    refine mj_all_cons 67 rfl (Or.inl ⟨0, by decide +kernel, rfl, rfl⟩) ?_
    refine mj_all_cons 68 rfl (⟨53, "ListSpeaker$Machine", mjF7, 14, by decide +kernel, rfl, by decide, mw_265, mjw7⟩) ?_
    refine mj_all_cons 69 rfl (trivial) ?_
    refine mj_all_cons 70 rfl (trivial) ?_
    refine mj_all_cons 71 rfl (Or.inr (Or.inl ⟨by decide +kernel, rfl, by decide⟩)) ?_
    refine mj_all_cons 72 rfl (trivial) ?_
    refine mj_all_cons 73 rfl (show _ = _ from by decide +kernel) ?_
    refine mj_all_cons 74 rfl (trivial) ?_
    refine mj_all_cons 75 rfl (trivial) ?_
    refine mj_all_cons 76 rfl (Or.inr (Or.inl ⟨by decide +kernel, rfl, by decide⟩)) ?_
    refine mj_all_cons 77 rfl (trivial) ?_
    refine mj_all_cons 78 rfl (show _ = _ from by decide +kernel) ?_
    refine mj_all_cons 79 rfl (Or.inl ⟨0, by decide +kernel, rfl, rfl⟩) ?_
    refine mj_all_cons 80 rfl (⟨9, "ListSpeaker$Machine", mjF7, 14, by decide +kernel, rfl, by decide, mw_261, mjw7⟩) ?_
    refine mj_all_cons 81 rfl (trivial) ?_
    refine mj_all_cons 82 rfl (trivial) ?_
    refine mj_all_cons 83 rfl (Or.inr ⟨by decide +kernel, rfl⟩) ?_
    refine mj_all_cons 84 rfl (trivial) ?_
    refine mj_all_cons 85 rfl (Or.inl ⟨0, by decide +kernel, rfl, rfl⟩) ?_
    refine mj_all_cons 86 rfl (⟨9, "ListSpeaker$Machine", mjF7, 14, by decide +kernel, rfl, by decide, mw_261, mjw7⟩) ?_
    refine mj_all_cons 87 rfl (trivial) ?_
    refine mj_all_cons 88 rfl (trivial) ?_
    refine mj_all_cons 89 rfl (Or.inl ⟨0, by decide +kernel, rfl, rfl⟩) ?_
    refine mj_all_cons 90 rfl (⟨56, "ListSpeaker$Machine", mjF7, 14, by decide +kernel, rfl, by decide, mw_266, mjw7⟩) ?_
    refine mj_all_cons 91 rfl (trivial) ?_
    refine mj_all_cons 92 rfl (trivial) ?_
    refine mj_all_cons 93 rfl (Or.inl ⟨2, by decide +kernel, rfl, rfl⟩) ?_
    refine mj_all_cons 94 rfl (⟨187, by decide +kernel, mw_814, mw_97, mw_96, mw_7⟩) ?_
    refine mj_all_cons 95 rfl (trivial) ?_
    refine mj_all_cons 96 rfl (trivial) ?_
    refine mj_all_cons 97 rfl (Or.inl ⟨0, by decide +kernel, rfl, rfl⟩) ?_
    refine mj_all_cons 98 rfl (Or.inr ⟨by decide +kernel, rfl⟩) ?_
    refine mj_all_cons 99 rfl (trivial) ?_
    refine mj_all_cons 100 rfl (Or.inl ⟨0, by decide +kernel, rfl, rfl⟩) ?_
    refine mj_all_cons 101 rfl (⟨15, "ListSpeaker$Machine", mjF7, 14, by decide +kernel, rfl, by decide, mw_262, mjw7⟩) ?_
    refine mj_all_cons 102 rfl (trivial) ?_
    refine mj_all_cons 103 rfl (trivial) ?_
    refine mj_all_cons 104 rfl (Or.inl ⟨0, by decide +kernel, rfl, rfl⟩) ?_
    refine mj_all_cons 105 rfl (⟨59, "ListSpeaker$Machine", mjF7, 14, by decide +kernel, rfl, by decide, mw_267, mjw7⟩) ?_
    refine mj_all_cons 106 rfl (trivial) ?_
    refine mj_all_cons 107 rfl (trivial) ?_
    refine mj_all_cons 108 rfl (show _ = _ from by decide +kernel) ?_
    refine mj_all_cons 109 rfl (Or.inl ⟨0, by decide +kernel, rfl, rfl⟩) ?_
    refine mj_all_cons 110 rfl (⟨18, "ListSpeaker$Machine", mjF7, 14, by decide +kernel, rfl, by decide, mw_263, mjw7⟩) ?_
    refine mj_all_cons 111 rfl (trivial) ?_
    refine mj_all_cons 112 rfl (trivial) ?_
    refine mj_all_cons 113 rfl (Or.inl ⟨0, by decide +kernel, rfl, rfl⟩) ?_
    refine mj_all_cons 114 rfl (⟨59, "ListSpeaker$Machine", mjF7, 14, by decide +kernel, rfl, by decide, mw_267, mjw7⟩) ?_
    refine mj_all_cons 115 rfl (trivial) ?_
    refine mj_all_cons 116 rfl (trivial) ?_
    refine mj_all_cons 117 rfl (show _ = _ from by decide +kernel) ?_
    refine mj_all_cons 118 rfl (Or.inl ⟨0, by decide +kernel, rfl, rfl⟩) ?_
    refine mj_all_cons 119 rfl (⟨21, "ListSpeaker$Machine", mjF7, 14, by decide +kernel, rfl, by decide, mw_264, mjw7⟩) ?_
    refine mj_all_cons 120 rfl (trivial) ?_
    refine mj_all_cons 121 rfl (trivial) ?_
    refine mj_all_cons 122 rfl (Or.inl ⟨0, by decide +kernel, rfl, rfl⟩) ?_
    refine mj_all_cons 123 rfl (⟨59, "ListSpeaker$Machine", mjF7, 14, by decide +kernel, rfl, by decide, mw_267, mjw7⟩) ?_
    refine mj_all_cons 124 rfl (trivial) ?_
    refine mj_all_cons 125 rfl (trivial) ?_
    refine mj_all_cons 126 rfl (show _ = _ from by decide +kernel) ?_
    refine mj_all_cons 127 rfl (⟨mjcM109, 180, 4, rfl, by decide, mjcd109, mw_14, Or.inl ⟨7, mjF7, 14, by decide +kernel, rfl, rfl, rfl, mw_802, mw_804, mjsel_44⟩⟩) ?_
    refine mj_all_cons 128 rfl (trivial) ?_
    refine mj_all_cons 129 rfl (trivial) ?_
    refine mj_all_cons 130 rfl (Or.inl ⟨0, by decide +kernel, rfl, rfl⟩) ?_
    refine mj_all_cons 131 rfl (Or.inr ⟨by decide +kernel, rfl⟩) ?_
    refine mj_all_cons 132 rfl (trivial) ?_
    refine mj_all_cons 133 rfl (⟨59, "ListSpeaker$Machine", mjF7, 14, mjt7, by decide +kernel, rfl, by decide, mw_267, mjw7, mjk7, mjn7, rfl, by decide +kernel⟩) ?_
    refine mj_all_cons 134 rfl (trivial) ?_
    refine mj_all_cons 135 rfl (trivial) ?_
    refine mj_all_cons 136 rfl (Or.inl ⟨0, by decide +kernel, rfl, rfl⟩) ?_
    refine mj_all_cons 137 rfl (Or.inr ⟨by decide +kernel, rfl⟩) ?_
    refine mj_all_cons 138 rfl (trivial) ?_
    refine mj_all_cons 139 rfl (⟨53, "ListSpeaker$Machine", mjF7, 14, mjt7, by decide +kernel, rfl, by decide, mw_265, mjw7, mjk7, mjn7, rfl, by decide +kernel⟩) ?_
    refine mj_all_cons 140 rfl (trivial) ?_
    refine mj_all_cons 141 rfl (trivial) ?_
    refine mj_all_cons 142 rfl (Or.inl ⟨0, by decide +kernel, rfl, rfl⟩) ?_
    refine mj_all_cons 143 rfl (Or.inr (Or.inr (Or.inr (Or.inl ⟨94, by decide +kernel, rfl, mw_768⟩)))) ?_
    refine mj_all_cons 144 rfl (trivial) ?_
    refine mj_all_cons 145 rfl (⟨mjcM93, 82, 1, rfl, by decide, mjcd93, mw_14, Or.inl ⟨7, mjF7, 14, by decide +kernel, rfl, rfl, rfl, mw_760, mw_762, mjsel_35⟩⟩) ?_
    refine mj_all_cons 146 rfl (trivial) ?_
    refine mj_all_cons 147 rfl (trivial) ?_
    refine mj_all_cons 148 rfl (Or.inl ⟨3, by decide +kernel, rfl, rfl⟩) ?_
    refine mj_all_cons 149 rfl (Or.inl ⟨3, by decide +kernel, rfl, rfl⟩) ?_
    refine mj_all_cons 150 rfl (show _ = _ from by decide +kernel) ?_
    refine mj_all_cons 151 rfl (trivial) ?_
    refine mj_all_cons 152 rfl (trivial) ?_
    refine mj_all_cons 153 rfl (Or.inl ⟨0, by decide +kernel, rfl, rfl⟩) ?_
    refine mj_all_cons 154 rfl (Or.inl ⟨0, by decide +kernel, rfl, rfl⟩) ?_
    refine mj_all_cons 155 rfl (⟨32, "ListSpeaker$Machine", mjF7, 14, by decide +kernel, rfl, by decide, mw_260, mjw7⟩) ?_
    refine mj_all_cons 156 rfl (trivial) ?_
    refine mj_all_cons 157 rfl (trivial) ?_
    refine mj_all_cons 158 rfl (Or.inl ⟨1, by decide +kernel, rfl, rfl⟩) ?_
    refine mj_all_cons 159 rfl (⟨mjcM85, 184, 1, rfl, by decide, mjcd85, mw_13, Or.inl ⟨6, mjF6, 7, by decide +kernel, rfl, rfl, rfl, mw_806, mw_807, mw_808⟩⟩) ?_
    refine mj_all_cons 160 rfl (trivial) ?_
    refine mj_all_cons 161 rfl (trivial) ?_
    refine mj_all_cons 162 rfl (⟨mjcM97, 88, 1, rfl, by decide, mjcd97, mw_14, Or.inl ⟨7, mjF7, 14, by decide +kernel, rfl, rfl, rfl, mw_769, mw_771, mjsel_37⟩⟩) ?_
    refine mj_all_cons 163 rfl (trivial) ?_
    refine mj_all_cons 164 rfl (trivial) ?_
    refine mj_all_cons 165 rfl (show _ = _ from by decide +kernel) ?_
    refine mj_all_cons 166 rfl (trivial) ?_
    refine mj_all_cons 167 rfl (trivial) ?_
    refine mj_all_cons 168 rfl (Or.inl ⟨3, by decide +kernel, rfl, rfl⟩) ?_
    refine mj_all_cons 169 rfl (show _ = _ from by decide +kernel) ?_
    exact trivial
  intro pc o ho
  have := mj_all_get _ 0 h pc o ho
  rw [Nat.zero_add] at this
  exact this
set_option maxRecDepth 100000 in
theorem mjci109 : ∀ (pc : Nat) (o : mj_O), mjco109[pc]? = some o → mj_is mj_kl mjcM109.1.cls mj_WS mj_NWs mjc_Ms mjcM109.2.1 pc o := by
  have h : mj_all (mj_is mj_kl mjcM109.1.cls mj_WS mj_NWs mjc_Ms mjcM109.2.1) 0 mjco109 := by
    unfold mjco109
    refine mj_all_cons 1 rfl (Or.inl ⟨1, by decide +kernel, rfl, rfl⟩) ?_
    refine mj_all_cons 2 rfl (show _ = _ from by decide +kernel) ?_
    refine mj_all_cons 3 rfl (trivial) ?_
    refine mj_all_cons 4 rfl (trivial) ?_
    refine mj_all_cons 5 rfl (Or.inl ⟨1, by decide +kernel, rfl, rfl⟩) ?_
    refine mj_all_cons 6 rfl (Or.inr (Or.inl ⟨by decide +kernel, rfl, by decide⟩)) ?_
    refine mj_all_cons 7 rfl (trivial) ?_
    refine mj_all_cons 8 rfl (show _ = _ from by decide +kernel) ?_
    refine mj_all_cons 9 rfl (trivial) ?_
    refine mj_all_cons 10 rfl (trivial) ?_
    refine mj_all_cons 11 rfl (Or.inl ⟨0, by decide +kernel, rfl, rfl⟩) ?_
    refine mj_all_cons 12 rfl (⟨15, "ListSpeaker$Machine", mjF7, 14, by decide +kernel, rfl, by decide, mw_262, mjw7⟩) ?_
    refine mj_all_cons 13 rfl (trivial) ?_
    refine mj_all_cons 14 rfl (trivial) ?_
    refine mj_all_cons 15 rfl (Or.inl ⟨1, by decide +kernel, rfl, rfl⟩) ?_
    refine mj_all_cons 16 rfl (Or.inl ⟨2, by decide +kernel, rfl, rfl⟩) ?_
    refine mj_all_cons 17 rfl (show _ = _ from by decide +kernel) ?_
    refine mj_all_cons 18 rfl (Or.inl ⟨0, by decide +kernel, rfl, rfl⟩) ?_
    refine mj_all_cons 19 rfl (⟨18, "ListSpeaker$Machine", mjF7, 14, by decide +kernel, rfl, by decide, mw_263, mjw7⟩) ?_
    refine mj_all_cons 20 rfl (trivial) ?_
    refine mj_all_cons 21 rfl (trivial) ?_
    refine mj_all_cons 22 rfl (Or.inl ⟨1, by decide +kernel, rfl, rfl⟩) ?_
    refine mj_all_cons 23 rfl (Or.inl ⟨3, by decide +kernel, rfl, rfl⟩) ?_
    refine mj_all_cons 24 rfl (show _ = _ from by decide +kernel) ?_
    refine mj_all_cons 25 rfl (Or.inl ⟨0, by decide +kernel, rfl, rfl⟩) ?_
    refine mj_all_cons 26 rfl (⟨21, "ListSpeaker$Machine", mjF7, 14, by decide +kernel, rfl, by decide, mw_264, mjw7⟩) ?_
    refine mj_all_cons 27 rfl (trivial) ?_
    refine mj_all_cons 28 rfl (trivial) ?_
    refine mj_all_cons 29 rfl (Or.inl ⟨1, by decide +kernel, rfl, rfl⟩) ?_
    refine mj_all_cons 30 rfl (Or.inr ⟨by decide +kernel, rfl⟩) ?_
    refine mj_all_cons 31 rfl (trivial) ?_
    refine mj_all_cons 32 rfl (show _ = _ from by decide +kernel) ?_
    refine mj_all_cons 33 rfl (show _ = _ from by decide +kernel) ?_
    exact trivial
  intro pc o ho
  have := mj_all_get _ 0 h pc o ho
  rw [Nat.zero_add] at this
  exact this
set_option maxRecDepth 100000 in
theorem mjci110 : ∀ (pc : Nat) (o : mj_O), mjco110[pc]? = some o → mj_is mj_kl mjcM110.1.cls mj_WS mj_NWs mjc_Ms mjcM110.2.1 pc o := by
  have h : mj_all (mj_is mj_kl mjcM110.1.cls mj_WS mj_NWs mjc_Ms mjcM110.2.1) 0 mjco110 := by
    unfold mjco110
    refine mj_all_cons 1 rfl (Or.inl ⟨0, by decide +kernel, rfl, rfl⟩) ?_
    refine mj_all_cons 2 rfl (⟨59, "ListSpeaker$Machine", mjF7, 14, by decide +kernel, rfl, by decide, mw_267, mjw7⟩) ?_
    refine mj_all_cons 3 rfl (trivial) ?_
    refine mj_all_cons 4 rfl (trivial) ?_
    refine mj_all_cons 5 rfl (show _ = _ from by decide +kernel) ?_
    refine mj_all_cons 6 rfl (trivial) ?_
    refine mj_all_cons 7 rfl (trivial) ?_
    refine mj_all_cons 8 rfl (Or.inl ⟨0, by decide +kernel, rfl, rfl⟩) ?_
    refine mj_all_cons 9 rfl (⟨59, "ListSpeaker$Machine", mjF7, 14, by decide +kernel, rfl, by decide, mw_267, mjw7⟩) ?_
    refine mj_all_cons 10 rfl (trivial) ?_
    refine mj_all_cons 11 rfl (trivial) ?_
    refine mj_all_cons 12 rfl (Or.inr (Or.inl ⟨by decide +kernel, rfl, by decide⟩)) ?_
    refine mj_all_cons 13 rfl (trivial) ?_
    refine mj_all_cons 14 rfl (show _ = _ from by decide +kernel) ?_
    refine mj_all_cons 15 rfl (trivial) ?_
    refine mj_all_cons 16 rfl (trivial) ?_
    refine mj_all_cons 17 rfl (Or.inr (Or.inl ⟨by decide +kernel, rfl, by decide⟩)) ?_
    refine mj_all_cons 18 rfl (trivial) ?_
    refine mj_all_cons 19 rfl (show _ = _ from by decide +kernel) ?_
    refine mj_all_cons 20 rfl (Or.inl ⟨0, by decide +kernel, rfl, rfl⟩) ?_
    refine mj_all_cons 21 rfl (Or.inl ⟨0, by decide +kernel, rfl, rfl⟩) ?_
    refine mj_all_cons 22 rfl (⟨53, "ListSpeaker$Machine", mjF7, 14, by decide +kernel, rfl, by decide, mw_265, mjw7⟩) ?_
    refine mj_all_cons 23 rfl (trivial) ?_
    refine mj_all_cons 24 rfl (trivial) ?_
    refine mj_all_cons 25 rfl (Or.inl ⟨0, by decide +kernel, rfl, rfl⟩) ?_
    refine mj_all_cons 26 rfl (⟨56, "ListSpeaker$Machine", mjF7, 14, by decide +kernel, rfl, by decide, mw_266, mjw7⟩) ?_
    refine mj_all_cons 27 rfl (trivial) ?_
    refine mj_all_cons 28 rfl (trivial) ?_
    refine mj_all_cons 29 rfl (show _ = _ from by decide +kernel) ?_
    refine mj_all_cons 30 rfl (Or.inl ⟨0, by decide +kernel, rfl, rfl⟩) ?_
    refine mj_all_cons 31 rfl (Or.inl ⟨by decide +kernel, rfl⟩) ?_
    refine mj_all_cons 32 rfl (⟨mjcM94, 43, 1, rfl, by decide, mjcd94, mw_14, Or.inl ⟨7, mjF7, 14, by decide +kernel, rfl, rfl, rfl, mw_777, mw_779, mjsel_39⟩⟩) ?_
    refine mj_all_cons 33 rfl (trivial) ?_
    refine mj_all_cons 34 rfl (trivial) ?_
    refine mj_all_cons 35 rfl (⟨mjcM96, 99, 2, rfl, by decide, mjcd96, mw_14, Or.inl ⟨7, mjF7, 14, by decide +kernel, rfl, rfl, rfl, mw_790, mw_792, mjsel_42⟩⟩) ?_
    refine mj_all_cons 36 rfl (trivial) ?_
    refine mj_all_cons 37 rfl (trivial) ?_
    refine mj_all_cons 38 rfl (Or.inl ⟨1, by decide +kernel, rfl, rfl⟩) ?_
    refine mj_all_cons 39 rfl (Or.inl ⟨0, by decide +kernel, rfl, rfl⟩) ?_
    refine mj_all_cons 40 rfl (⟨59, "ListSpeaker$Machine", mjF7, 14, by decide +kernel, rfl, by decide, mw_267, mjw7⟩) ?_
    refine mj_all_cons 41 rfl (trivial) ?_
    refine mj_all_cons 42 rfl (trivial) ?_
    refine mj_all_cons 43 rfl (Or.inl ⟨2, by decide +kernel, rfl, rfl⟩) ?_
    refine mj_all_cons 44 rfl (Or.inl ⟨0, by decide +kernel, rfl, rfl⟩) ?_
    refine mj_all_cons 45 rfl (Or.inl ⟨0, by decide +kernel, rfl, rfl⟩) ?_
    refine mj_all_cons 46 rfl (⟨18, "ListSpeaker$Machine", mjF7, 14, by decide +kernel, rfl, by decide, mw_263, mjw7⟩) ?_
    refine mj_all_cons 47 rfl (trivial) ?_
    refine mj_all_cons 48 rfl (trivial) ?_
    refine mj_all_cons 49 rfl (Or.inl ⟨2, by decide +kernel, rfl, rfl⟩) ?_
    refine mj_all_cons 50 rfl (show _ = _ from by decide +kernel) ?_
    refine mj_all_cons 51 rfl (⟨56, "ListSpeaker$Machine", mjF7, 14, mjt7, by decide +kernel, rfl, by decide, mw_266, mjw7, mjk7, mjn7, rfl, by decide +kernel⟩) ?_
    refine mj_all_cons 52 rfl (trivial) ?_
    refine mj_all_cons 53 rfl (trivial) ?_
    refine mj_all_cons 54 rfl (Or.inl ⟨0, by decide +kernel, rfl, rfl⟩) ?_
    refine mj_all_cons 55 rfl (Or.inl ⟨0, by decide +kernel, rfl, rfl⟩) ?_
    refine mj_all_cons 56 rfl (⟨21, "ListSpeaker$Machine", mjF7, 14, by decide +kernel, rfl, by decide, mw_264, mjw7⟩) ?_
    refine mj_all_cons 57 rfl (trivial) ?_
    refine mj_all_cons 58 rfl (trivial) ?_
    refine mj_all_cons 59 rfl (Or.inl ⟨2, by decide +kernel, rfl, rfl⟩) ?_
    refine mj_all_cons 60 rfl (show _ = _ from by decide +kernel) ?_
    refine mj_all_cons 61 rfl (⟨59, "ListSpeaker$Machine", mjF7, 14, mjt7, by decide +kernel, rfl, by decide, mw_267, mjw7, mjk7, mjn7, rfl, by decide +kernel⟩) ?_
    refine mj_all_cons 62 rfl (trivial) ?_
    refine mj_all_cons 63 rfl (trivial) ?_
    refine mj_all_cons 64 rfl (Or.inl ⟨0, by decide +kernel, rfl, rfl⟩) ?_
    refine mj_all_cons 65 rfl (Or.inl ⟨0, by decide +kernel, rfl, rfl⟩) ?_
    refine mj_all_cons 66 rfl (⟨15, "ListSpeaker$Machine", mjF7, 14, by decide +kernel, rfl, by decide, mw_262, mjw7⟩) ?_
    refine mj_all_cons 67 rfl (trivial) ?_
    refine mj_all_cons 68 rfl (trivial) ?_
    refine mj_all_cons 69 rfl (Or.inl ⟨2, by decide +kernel, rfl, rfl⟩) ?_
    refine mj_all_cons 70 rfl (show _ = _ from by decide +kernel) ?_
    refine mj_all_cons 71 rfl (⟨50, "ListSpeaker$Machine", mjF7, 14, mjt7, by decide +kernel, rfl, by decide, mw_268, mjw7, mjk7, mjn7, rfl, by decide +kernel⟩) ?_
    refine mj_all_cons 72 rfl (trivial) ?_
    refine mj_all_cons 73 rfl (trivial) ?_
    refine mj_all_cons 74 rfl (Or.inl ⟨1, by decide +kernel, rfl, rfl⟩) ?_
    refine mj_all_cons 75 rfl (show _ = _ from by decide +kernel) ?_
    exact trivial
  intro pc o ho
  have := mj_all_get _ 0 h pc o ho
  rw [Nat.zero_add] at this
  exact this
set_option maxRecDepth 100000 in
theorem mjci111 : ∀ (pc : Nat) (o : mj_O), mjco111[pc]? = some o → mj_is mj_kl mjcM111.1.cls mj_WS mj_NWs mjc_Ms mjcM111.2.1 pc o := by
  have h : mj_all (mj_is mj_kl mjcM111.1.cls mj_WS mj_NWs mjc_Ms mjcM111.2.1) 0 mjco111 := by
    unfold mjco111
    refine mj_all_cons 1 rfl (Or.inl ⟨0, by decide +kernel, rfl, rfl⟩) ?_
    refine mj_all_cons 2 rfl (⟨27, "ListSpeaker$Paper", mjF8, 6, by decide +kernel, rfl, by decide, mw_311, mjw8⟩) ?_
    refine mj_all_cons 3 rfl (trivial) ?_
    refine mj_all_cons 4 rfl (trivial) ?_
    refine mj_all_cons 5 rfl (show _ = _ from by decide +kernel) ?_
    exact trivial
  intro pc o ho
  have := mj_all_get _ 0 h pc o ho
  rw [Nat.zero_add] at this
  exact this
set_option maxRecDepth 100000 in
theorem mjci112 : ∀ (pc : Nat) (o : mj_O), mjco112[pc]? = some o → mj_is mj_kl mjcM112.1.cls mj_WS mj_NWs mjc_Ms mjcM112.2.1 pc o := by
  have h : mj_all (mj_is mj_kl mjcM112.1.cls mj_WS mj_NWs mjc_Ms mjcM112.2.1) 0 mjco112 := by
    unfold mjco112
    refine mj_all_cons 1 rfl (Or.inl ⟨1, by decide +kernel, rfl, rfl⟩) ?_
    refine mj_all_cons 2 rfl (show _ = _ from by decide +kernel) ?_
    refine mj_all_cons 3 rfl (trivial) ?_
    refine mj_all_cons 4 rfl (trivial) ?_
    refine mj_all_cons 5 rfl (Or.inl ⟨1, by decide +kernel, rfl, rfl⟩) ?_
    refine mj_all_cons 6 rfl (Or.inl ⟨0, by decide +kernel, rfl, rfl⟩) ?_
    refine mj_all_cons 7 rfl (⟨27, "ListSpeaker$Paper", mjF8, 6, by decide +kernel, rfl, by decide, mw_311, mjw8⟩) ?_
    refine mj_all_cons 8 rfl (trivial) ?_
    refine mj_all_cons 9 rfl (trivial) ?_
    refine mj_all_cons 10 rfl (show _ = _ from by decide +kernel) ?_
    refine mj_all_cons 11 rfl (trivial) ?_
    refine mj_all_cons 12 rfl (trivial) ?_
    refine mj_all_cons 13 rfl (Or.inl ⟨0, by decide +kernel, rfl, rfl⟩) ?_
    refine mj_all_cons 14 rfl (⟨9, "ListSpeaker$Paper", mjF8, 6, by decide +kernel, rfl, by decide, mw_309, mjw8⟩) ?_
    refine mj_all_cons 15 rfl (trivial) ?_
    refine mj_all_cons 16 rfl (trivial) ?_
    refine mj_all_cons 17 rfl (Or.inl ⟨1, by decide +kernel, rfl, rfl⟩) ?_
    refine mj_all_cons 18 rfl (show _ = _ from by decide +kernel) ?_
    refine mj_all_cons 19 rfl (show _ = _ from by decide +kernel) ?_
    refine mj_all_cons 20 rfl (trivial) ?_
    refine mj_all_cons 21 rfl (trivial) ?_
    refine mj_all_cons 22 rfl (Or.inr (Or.inl ⟨by decide +kernel, rfl, by decide⟩)) ?_
    refine mj_all_cons 23 rfl (trivial) ?_
    refine mj_all_cons 24 rfl (show _ = _ from by decide +kernel) ?_
    exact trivial
  intro pc o ho
  have := mj_all_get _ 0 h pc o ho
  rw [Nat.zero_add] at this
  exact this
set_option maxRecDepth 100000 in
theorem mjci113 : ∀ (pc : Nat) (o : mj_O), mjco113[pc]? = some o → mj_is mj_kl mjcM113.1.cls mj_WS mj_NWs mjc_Ms mjcM113.2.1 pc o := by
  have h : mj_all (mj_is mj_kl mjcM113.1.cls mj_WS mj_NWs mjc_Ms mjcM113.2.1) 0 mjco113 := by
    unfold mjco113
    refine mj_all_cons 1 rfl (Or.inl ⟨0, by decide +kernel, rfl, rfl⟩) ?_
    refine mj_all_cons 2 rfl (Or.inl ⟨by decide +kernel, rfl⟩) ?_
    refine mj_all_cons 3 rfl (⟨27, "ListSpeaker$Paper", mjF8, 6, mjt8, by decide +kernel, rfl, by decide, mw_311, mjw8, mjk8, mjn8, rfl, by decide +kernel⟩) ?_
    refine mj_all_cons 4 rfl (trivial) ?_
    refine mj_all_cons 5 rfl (trivial) ?_
    refine mj_all_cons 6 rfl (show _ = _ from by decide +kernel) ?_
    exact trivial
  intro pc o ho
  have := mj_all_get _ 0 h pc o ho
  rw [Nat.zero_add] at this
  exact this
set_option maxRecDepth 100000 in
theorem mjci114 : ∀ (pc : Nat) (o : mj_O), mjco114[pc]? = some o → mj_is mj_kl mjcM114.1.cls mj_WS mj_NWs mjc_Ms mjcM114.2.1 pc o := by
  have h : mj_all (mj_is mj_kl mjcM114.1.cls mj_WS mj_NWs mjc_Ms mjcM114.2.1) 0 mjco114 := by
    unfold mjco114
    refine mj_all_cons 1 rfl (Or.inl ⟨0, by decide +kernel, rfl, rfl⟩) ?_
    refine mj_all_cons 2 rfl (Or.inr (Or.inl ⟨by decide +kernel, rfl, by decide⟩)) ?_
    refine mj_all_cons 3 rfl (trivial) ?_
    refine mj_all_cons 4 rfl (⟨mjcM122, 31, 1, rfl, by decide, mjcd122, mw_15, Or.inl ⟨8, mjF8, 6, by decide +kernel, rfl, rfl, rfl, mw_892, mw_894, mjsel_55⟩⟩) ?_
    refine mj_all_cons 5 rfl (trivial) ?_
    refine mj_all_cons 6 rfl (trivial) ?_
    refine mj_all_cons 7 rfl (Or.inl ⟨0, by decide +kernel, rfl, rfl⟩) ?_
    refine mj_all_cons 8 rfl (Or.inl ⟨1, by decide +kernel, rfl, rfl⟩) ?_
    refine mj_all_cons 9 rfl (⟨mjcM121, 35, 1, rfl, by decide, mjcd121, mw_15, Or.inl ⟨8, mjF8, 6, by decide +kernel, rfl, rfl, rfl, mw_907, mw_909, mjsel_58⟩⟩) ?_
    refine mj_all_cons 10 rfl (trivial) ?_
    refine mj_all_cons 11 rfl (trivial) ?_
    refine mj_all_cons 12 rfl (Or.inl ⟨0, by decide +kernel, rfl, rfl⟩) ?_
    refine mj_all_cons 13 rfl (Or.inr (Or.inl ⟨by decide +kernel, rfl, by decide⟩)) ?_
    refine mj_all_cons 14 rfl (trivial) ?_
    refine mj_all_cons 15 rfl (⟨mjcM122, 31, 1, rfl, by decide, mjcd122, mw_15, Or.inl ⟨8, mjF8, 6, by decide +kernel, rfl, rfl, rfl, mw_892, mw_894, mjsel_55⟩⟩) ?_
    refine mj_all_cons 16 rfl (trivial) ?_
    refine mj_all_cons 17 rfl (trivial) ?_
    refine mj_all_cons 18 rfl (show _ = _ from by decide +kernel) ?_
    exact trivial
  intro pc o ho
  have := mj_all_get _ 0 h pc o ho
  rw [Nat.zero_add] at this
  exact this
set_option maxRecDepth 100000 in
theorem mjci115 : ∀ (pc : Nat) (o : mj_O), mjco115[pc]? = some o → mj_is mj_kl mjcM115.1.cls mj_WS mj_NWs mjc_Ms mjcM115.2.1 pc o := by
  have h : mj_all (mj_is mj_kl mjcM115.1.cls mj_WS mj_NWs mjc_Ms mjcM115.2.1) 0 mjco115 := by
    unfold mjco115
    refine mj_all_cons 1 rfl (Or.inl ⟨0, by decide +kernel, rfl, rfl⟩) ?_
    refine mj_all_cons 2 rfl (Or.inl ⟨by decide +kernel, rfl⟩) ?_
    refine mj_all_cons 3 rfl (⟨39, "ListSpeaker$Paper", mjF8, 6, mjt8, by decide +kernel, rfl, by decide, mw_312, mjw8, mjk8, mjn8, rfl, by decide +kernel⟩) ?_
    refine mj_all_cons 4 rfl (trivial) ?_
    refine mj_all_cons 5 rfl (trivial) ?_
    refine mj_all_cons 6 rfl (Or.inl ⟨0, by decide +kernel, rfl, rfl⟩) ?_
    refine mj_all_cons 7 rfl (Or.inl ⟨1, by decide +kernel, rfl, rfl⟩) ?_
    refine mj_all_cons 8 rfl (⟨mjcM116, 42, 1, rfl, by decide, mjcd116, mw_15, Or.inl ⟨8, mjF8, 6, by decide +kernel, rfl, rfl, rfl, mw_882, mw_884, mjsel_53⟩⟩) ?_
    refine mj_all_cons 9 rfl (trivial) ?_
    refine mj_all_cons 10 rfl (trivial) ?_
    refine mj_all_cons 11 rfl (Or.inl ⟨by decide +kernel, rfl⟩) ?_
    refine mj_all_cons 12 rfl (Or.inl ⟨2, by decide +kernel, rfl, rfl⟩) ?_
    refine mj_all_cons 13 rfl (Or.inl ⟨2, by decide +kernel, rfl, rfl⟩) ?_
    refine mj_all_cons 14 rfl (Or.inr (Or.inr (Or.inr (Or.inl ⟨45, by decide +kernel, rfl, mw_886⟩)))) ?_
    refine mj_all_cons 15 rfl (trivial) ?_
    refine mj_all_cons 16 rfl (show _ = _ from by decide +kernel) ?_
    refine mj_all_cons 17 rfl (trivial) ?_
    refine mj_all_cons 18 rfl (trivial) ?_
    refine mj_all_cons 19 rfl (Or.inl ⟨0, by decide +kernel, rfl, rfl⟩) ?_
    refine mj_all_cons 20 rfl (⟨39, "ListSpeaker$Paper", mjF8, 6, by decide +kernel, rfl, by decide, mw_312, mjw8⟩) ?_
    refine mj_all_cons 21 rfl (trivial) ?_
    refine mj_all_cons 22 rfl (trivial) ?_
    refine mj_all_cons 23 rfl (show _ = _ from by decide +kernel) ?_
    refine mj_all_cons 24 rfl (trivial) ?_
    refine mj_all_cons 25 rfl (trivial) ?_
    refine mj_all_cons 26 rfl (Or.inl ⟨0, by decide +kernel, rfl, rfl⟩) ?_
    refine mj_all_cons 27 rfl (⟨27, "ListSpeaker$Paper", mjF8, 6, by decide +kernel, rfl, by decide, mw_311, mjw8⟩) ?_
    refine mj_all_cons 28 rfl (trivial) ?_
    refine mj_all_cons 29 rfl (trivial) ?_
    refine mj_all_cons 30 rfl (Or.inr (Or.inr (Or.inl ⟨by decide +kernel, rfl, by decide⟩))) ?_
    refine mj_all_cons 31 rfl (trivial) ?_
    refine mj_all_cons 32 rfl (trivial) ?_
    refine mj_all_cons 33 rfl (show _ = _ from by decide +kernel) ?_
    refine mj_all_cons 34 rfl (trivial) ?_
    refine mj_all_cons 35 rfl (trivial) ?_
    refine mj_all_cons 36 rfl (Or.inl ⟨0, by decide +kernel, rfl, rfl⟩) ?_
    refine mj_all_cons 37 rfl (show _ = _ from by decide +kernel) ?_
    refine mj_all_cons 38 rfl (⟨39, "ListSpeaker$Paper", mjF8, 6, by decide +kernel, rfl, by decide, mw_312, mjw8⟩) ?_
    refine mj_all_cons 39 rfl (trivial) ?_
    refine mj_all_cons 40 rfl (trivial) ?_
    refine mj_all_cons 41 rfl (Or.inl ⟨by decide +kernel, rfl⟩) ?_
    refine mj_all_cons 42 rfl (show _ = _ from by decide +kernel) ?_
    refine mj_all_cons 43 rfl (⟨39, "ListSpeaker$Paper", mjF8, 6, mjt8, by decide +kernel, rfl, by decide, mw_312, mjw8, mjk8, mjn8, rfl, by decide +kernel⟩) ?_
    refine mj_all_cons 44 rfl (trivial) ?_
    refine mj_all_cons 45 rfl (trivial) ?_
    refine mj_all_cons 46 rfl (Or.inl ⟨0, by decide +kernel, rfl, rfl⟩) ?_
    refine mj_all_cons 47 rfl (⟨15, "ListSpeaker$Paper", mjF8, 6, by decide +kernel, rfl, by decide, mw_310, mjw8⟩) ?_
    refine mj_all_cons 48 rfl (trivial) ?_
    refine mj_all_cons 49 rfl (trivial) ?_
    refine mj_all_cons 50 rfl (Or.inl ⟨0, by decide +kernel, rfl, rfl⟩) ?_
    refine mj_all_cons 51 rfl (⟨39, "ListSpeaker$Paper", mjF8, 6, by decide +kernel, rfl, by decide, mw_312, mjw8⟩) ?_
    refine mj_all_cons 52 rfl (trivial) ?_
    refine mj_all_cons 53 rfl (trivial) ?_
    refine mj_all_cons 54 rfl (show _ = _ from by decide +kernel) ?_
    refine mj_all_cons 55 rfl (Or.inl ⟨3, by decide +kernel, rfl, rfl⟩) ?_
    refine mj_all_cons 56 rfl (Or.inl ⟨3, by decide +kernel, rfl, rfl⟩) ?_
    refine mj_all_cons 57 rfl (show _ = _ from by decide +kernel) ?_
    refine mj_all_cons 58 rfl (trivial) ?_
    refine mj_all_cons 59 rfl (trivial) ?_
    refine mj_all_cons 60 rfl (Or.inl ⟨0, by decide +kernel, rfl, rfl⟩) ?_
    refine mj_all_cons 61 rfl (Or.inl ⟨3, by decide +kernel, rfl, rfl⟩) ?_
    refine mj_all_cons 62 rfl (⟨mjcM117, 46, 1, rfl, by decide, mjcd117, mw_15, Or.inl ⟨8, mjF8, 6, by decide +kernel, rfl, rfl, rfl, mw_887, mw_889, mjsel_54⟩⟩) ?_
    refine mj_all_cons 63 rfl (trivial) ?_
    refine mj_all_cons 64 rfl (trivial) ?_
    refine mj_all_cons 65 rfl (show _ = _ from by decide +kernel) ?_
    refine mj_all_cons 66 rfl (trivial) ?_
    refine mj_all_cons 67 rfl (trivial) ?_
    refine mj_all_cons 68 rfl (Or.inl ⟨0, by decide +kernel, rfl, rfl⟩) ?_
    refine mj_all_cons 69 rfl (Or.inl ⟨by decide +kernel, rfl⟩) ?_
    refine mj_all_cons 70 rfl (Or.inl ⟨3, by decide +kernel, rfl, rfl⟩) ?_
    refine mj_all_cons 71 rfl (show _ = _ from by decide +kernel) ?_
    refine mj_all_cons 72 rfl (⟨mjcM118, 49, 1, rfl, by decide, mjcd118, mw_15, Or.inl ⟨8, mjF8, 6, by decide +kernel, rfl, rfl, rfl, mw_920, mw_922, mjsel_59⟩⟩) ?_
    refine mj_all_cons 73 rfl (trivial) ?_
    refine mj_all_cons 74 rfl (trivial) ?_
    refine mj_all_cons 75 rfl (show _ = _ from by decide +kernel) ?_
    refine mj_all_cons 76 rfl (trivial) ?_
    refine mj_all_cons 77 rfl (trivial) ?_
    refine mj_all_cons 78 rfl (show _ = _ from by decide +kernel) ?_
    refine mj_all_cons 79 rfl (trivial) ?_
    refine mj_all_cons 80 rfl (trivial) ?_
    refine mj_all_cons 81 rfl (Or.inl ⟨0, by decide +kernel, rfl, rfl⟩) ?_
    refine mj_all_cons 82 rfl (Or.inr (Or.inl ⟨by decide +kernel, rfl, by decide⟩)) ?_
    refine mj_all_cons 83 rfl (trivial) ?_
    refine mj_all_cons 84 rfl (⟨mjcM122, 31, 1, rfl, by decide, mjcd122, mw_15, Or.inl ⟨8, mjF8, 6, by decide +kernel, rfl, rfl, rfl, mw_892, mw_894, mjsel_55⟩⟩) ?_
    refine mj_all_cons 85 rfl (trivial) ?_
    refine mj_all_cons 86 rfl (trivial) ?_
    refine mj_all_cons 87 rfl (show _ = _ from by decide +kernel) ?_
    exact trivial
  intro pc o ho
  have := mj_all_get _ 0 h pc o ho
  rw [Nat.zero_add] at this
  exact this
set_option maxRecDepth 100000 in
theorem mjci116 : ∀ (pc : Nat) (o : mj_O), mjco116[pc]? = some o → mj_is mj_kl mjcM116.1.cls mj_WS mj_NWs mjc_Ms mjcM116.2.1 pc o := by
  have h : mj_all (mj_is mj_kl mjcM116.1.cls mj_WS mj_NWs mjc_Ms mjcM116.2.1) 0 mjco116 := by
    unfold mjco116
    refine mj_all_cons 1 rfl (Or.inl ⟨0, by decide +kernel, rfl, rfl⟩) ?_
    refine mj_all_cons 2 rfl (⟨39, "ListSpeaker$Paper", mjF8, 6, by decide +kernel, rfl, by decide, mw_312, mjw8⟩) ?_
    refine mj_all_cons 3 rfl (trivial) ?_
    refine mj_all_cons 4 rfl (trivial) ?_
    refine mj_all_cons 5 rfl (Or.inr (Or.inr (Or.inl ⟨by decide +kernel, rfl, by decide⟩))) ?_
    refine mj_all_cons 6 rfl (trivial) ?_
    refine mj_all_cons 7 rfl (trivial) ?_
    refine mj_all_cons 8 rfl (show _ = _ from by decide +kernel) ?_
    refine mj_all_cons 9 rfl (trivial) ?_
    refine mj_all_cons 10 rfl (trivial) ?_
    refine mj_all_cons 11 rfl (Or.inl ⟨0, by decide +kernel, rfl, rfl⟩) ?_
    refine mj_all_cons 12 rfl (⟨15, "ListSpeaker$Paper", mjF8, 6, by decide +kernel, rfl, by decide, mw_310, mjw8⟩) ?_
    refine mj_all_cons 13 rfl (trivial) ?_
    refine mj_all_cons 14 rfl (trivial) ?_
    refine mj_all_cons 15 rfl (Or.inl ⟨0, by decide +kernel, rfl, rfl⟩) ?_
    refine mj_all_cons 16 rfl (⟨39, "ListSpeaker$Paper", mjF8, 6, by decide +kernel, rfl, by decide, mw_312, mjw8⟩) ?_
    refine mj_all_cons 17 rfl (trivial) ?_
    refine mj_all_cons 18 rfl (trivial) ?_
    refine mj_all_cons 19 rfl (Or.inl ⟨1, by decide +kernel, rfl, rfl⟩) ?_
    refine mj_all_cons 20 rfl (show _ = _ from by decide +kernel) ?_
    refine mj_all_cons 21 rfl (Or.inl ⟨0, by decide +kernel, rfl, rfl⟩) ?_
    refine mj_all_cons 22 rfl (show _ = _ from by decide +kernel) ?_
    refine mj_all_cons 23 rfl (⟨39, "ListSpeaker$Paper", mjF8, 6, by decide +kernel, rfl, by decide, mw_312, mjw8⟩) ?_
    refine mj_all_cons 24 rfl (trivial) ?_
    refine mj_all_cons 25 rfl (trivial) ?_
    refine mj_all_cons 26 rfl (Or.inl ⟨by decide +kernel, rfl⟩) ?_
    refine mj_all_cons 27 rfl (show _ = _ from by decide +kernel) ?_
    refine mj_all_cons 28 rfl (⟨39, "ListSpeaker$Paper", mjF8, 6, mjt8, by decide +kernel, rfl, by decide, mw_312, mjw8, mjk8, mjn8, rfl, by decide +kernel⟩) ?_
    refine mj_all_cons 29 rfl (trivial) ?_
    refine mj_all_cons 30 rfl (trivial) ?_
    refine mj_all_cons 31 rfl (show _ = _ from by decide +kernel) ?_
    exact trivial
  intro pc o ho
  have := mj_all_get _ 0 h pc o ho
  rw [Nat.zero_add] at this
  exact this
set_option maxRecDepth 100000 in
theorem mjci117 : ∀ (pc : Nat) (o : mj_O), mjco117[pc]? = some o → mj_is mj_kl mjcM117.1.cls mj_WS mj_NWs mjc_Ms mjcM117.2.1 pc o := by
  have h : mj_all (mj_is mj_kl mjcM117.1.cls mj_WS mj_NWs mjc_Ms mjcM117.2.1) 0 mjco117 := by
    unfold mjco117
    refine mj_all_cons 1 rfl (Or.inl ⟨1, by decide +kernel, rfl, rfl⟩) ?_
    refine mj_all_cons 2 rfl (⟨mjcM9, 52, 1, rfl, by decide, mjcd9, mw_1, Or.inr (Or.inr ⟨"ListSpeaker", by decide +kernel, rfl, rfl, mjnw_6, mw_611⟩)⟩) ?_
    refine mj_all_cons 3 rfl (trivial) ?_
    refine mj_all_cons 4 rfl (trivial) ?_
    refine mj_all_cons 5 rfl (show _ = _ from by decide +kernel) ?_
    refine mj_all_cons 6 rfl (trivial) ?_
    refine mj_all_cons 7 rfl (trivial) ?_
    refine mj_all_cons 8 rfl (Or.inl ⟨0, by decide +kernel, rfl, rfl⟩) ?_
    refine mj_all_cons 9 rfl (Or.inr (Or.inl ⟨by decide +kernel, rfl, by decide⟩)) ?_
    refine mj_all_cons 10 rfl (trivial) ?_
    refine mj_all_cons 11 rfl (⟨mjcM122, 31, 1, rfl, by decide, mjcd122, mw_15, Or.inl ⟨8, mjF8, 6, by decide +kernel, rfl, rfl, rfl, mw_892, mw_894, mjsel_55⟩⟩) ?_
    refine mj_all_cons 12 rfl (trivial) ?_
    refine mj_all_cons 13 rfl (trivial) ?_
    refine mj_all_cons 14 rfl (Or.inl ⟨0, by decide +kernel, rfl, rfl⟩) ?_
    refine mj_all_cons 15 rfl (Or.inl ⟨1, by decide +kernel, rfl, rfl⟩) ?_
    refine mj_all_cons 16 rfl (⟨mjcM119, 56, 1, rfl, by decide, mjcd119, mw_15, Or.inl ⟨8, mjF8, 6, by decide +kernel, rfl, rfl, rfl, mw_896, mw_898, mjsel_56⟩⟩) ?_
    refine mj_all_cons 17 rfl (trivial) ?_
    refine mj_all_cons 18 rfl (trivial) ?_
    refine mj_all_cons 19 rfl (show _ = _ from by decide +kernel) ?_
    refine mj_all_cons 20 rfl (trivial) ?_
    refine mj_all_cons 21 rfl (trivial) ?_
    refine mj_all_cons 22 rfl (Or.inl ⟨0, by decide +kernel, rfl, rfl⟩) ?_
    refine mj_all_cons 23 rfl (Or.inl ⟨1, by decide +kernel, rfl, rfl⟩) ?_
    refine mj_all_cons 24 rfl (⟨mjcM120, 59, 1, rfl, by decide, mjcd120, mw_15, Or.inl ⟨8, mjF8, 6, by decide +kernel, rfl, rfl, rfl, mw_902, mw_904, mjsel_57⟩⟩) ?_
    refine mj_all_cons 25 rfl (trivial) ?_
    refine mj_all_cons 26 rfl (trivial) ?_
    refine mj_all_cons 27 rfl (show _ = _ from by decide +kernel) ?_
    exact trivial
  intro pc o ho
  have := mj_all_get _ 0 h pc o ho
  rw [Nat.zero_add] at this
  exact this
set_option maxRecDepth 100000 in
theorem mjci118 : ∀ (pc : Nat) (o : mj_O), mjco118[pc]? = some o → mj_is mj_kl mjcM118.1.cls mj_WS mj_NWs mjc_Ms mjcM118.2.1 pc o := by
  have h : mj_all (mj_is mj_kl mjcM118.1.cls mj_WS mj_NWs mjc_Ms mjcM118.2.1) 0 mjco118 := by
    unfold mjco118
    refine mj_all_cons 1 rfl (Or.inl ⟨1, by decide +kernel, rfl, rfl⟩) ?_
    refine mj_all_cons 2 rfl (⟨mjcM9, 52, 1, rfl, by decide, mjcd9, mw_1, Or.inr (Or.inr ⟨"ListSpeaker", by decide +kernel, rfl, rfl, mjnw_6, mw_611⟩)⟩) ?_
    refine mj_all_cons 3 rfl (trivial) ?_
    refine mj_all_cons 4 rfl (trivial) ?_
    refine mj_all_cons 5 rfl (show _ = _ from by decide +kernel) ?_
    refine mj_all_cons 6 rfl (trivial) ?_
    refine mj_all_cons 7 rfl (trivial) ?_
    refine mj_all_cons 8 rfl (Or.inl ⟨0, by decide +kernel, rfl, rfl⟩) ?_
    refine mj_all_cons 9 rfl (Or.inr (Or.inl ⟨by decide +kernel, rfl, by decide⟩)) ?_
    refine mj_all_cons 10 rfl (trivial) ?_
    refine mj_all_cons 11 rfl (⟨mjcM122, 31, 1, rfl, by decide, mjcd122, mw_15, Or.inl ⟨8, mjF8, 6, by decide +kernel, rfl, rfl, rfl, mw_892, mw_894, mjsel_55⟩⟩) ?_
    refine mj_all_cons 12 rfl (trivial) ?_
    refine mj_all_cons 13 rfl (trivial) ?_
    refine mj_all_cons 14 rfl (Or.inl ⟨0, by decide +kernel, rfl, rfl⟩) ?_
    refine mj_all_cons 15 rfl (Or.inl ⟨1, by decide +kernel, rfl, rfl⟩) ?_
    refine mj_all_cons 16 rfl (⟨mjcM119, 56, 1, rfl, by decide, mjcd119, mw_15, Or.inl ⟨8, mjF8, 6, by decide +kernel, rfl, rfl, rfl, mw_896, mw_898, mjsel_56⟩⟩) ?_
    refine mj_all_cons 17 rfl (trivial) ?_
    refine mj_all_cons 18 rfl (trivial) ?_
    refine mj_all_cons 19 rfl (show _ = _ from by decide +kernel) ?_
    refine mj_all_cons 20 rfl (Or.inl ⟨1, by decide +kernel, rfl, rfl⟩) ?_
    refine mj_all_cons 21 rfl (Or.inr (Or.inr (Or.inr (Or.inl ⟨62, by decide +kernel, rfl, mw_924⟩)))) ?_
    refine mj_all_cons 22 rfl (trivial) ?_
    refine mj_all_cons 23 rfl (show _ = _ from by decide +kernel) ?_
    refine mj_all_cons 24 rfl (trivial) ?_
    refine mj_all_cons 25 rfl (trivial) ?_
    refine mj_all_cons 26 rfl (Or.inl ⟨0, by decide +kernel, rfl, rfl⟩) ?_
    refine mj_all_cons 27 rfl (Or.inr (Or.inl ⟨by decide +kernel, rfl, by decide⟩)) ?_
    refine mj_all_cons 28 rfl (trivial) ?_
    refine mj_all_cons 29 rfl (⟨mjcM122, 31, 1, rfl, by decide, mjcd122, mw_15, Or.inl ⟨8, mjF8, 6, by decide +kernel, rfl, rfl, rfl, mw_892, mw_894, mjsel_55⟩⟩) ?_
    refine mj_all_cons 30 rfl (trivial) ?_
    refine mj_all_cons 31 rfl (trivial) ?_
    refine mj_all_cons 32 rfl (Or.inl ⟨0, by decide +kernel, rfl, rfl⟩) ?_
    refine mj_all_cons 33 rfl (Or.inr (Or.inl ⟨by decide +kernel, rfl, by decide⟩)) ?_
    refine mj_all_cons 34 rfl (trivial) ?_
    refine mj_all_cons 35 rfl (⟨mjcM122, 31, 1, rfl, by decide, mjcd122, mw_15, Or.inl ⟨8, mjF8, 6, by decide +kernel, rfl, rfl, rfl, mw_892, mw_894, mjsel_55⟩⟩) ?_
    refine mj_all_cons 36 rfl (trivial) ?_
    refine mj_all_cons 37 rfl (trivial) ?_
    refine mj_all_cons 38 rfl (Or.inl ⟨0, by decide +kernel, rfl, rfl⟩) ?_
    refine mj_all_cons 39 rfl (Or.inr (Or.inl ⟨by decide +kernel, rfl, by decide⟩)) ?_
    refine mj_all_cons 40 rfl (trivial) ?_
    refine mj_all_cons 41 rfl (⟨mjcM122, 31, 1, rfl, by decide, mjcd122, mw_15, Or.inl ⟨8, mjF8, 6, by decide +kernel, rfl, rfl, rfl, mw_892, mw_894, mjsel_55⟩⟩) ?_
    refine mj_all_cons 42 rfl (trivial) ?_
    refine mj_all_cons 43 rfl (trivial) ?_
    refine mj_all_cons 44 rfl (Or.inl ⟨0, by decide +kernel, rfl, rfl⟩) ?_
    refine mj_all_cons 45 rfl (Or.inl ⟨1, by decide +kernel, rfl, rfl⟩) ?_
    refine mj_all_cons 46 rfl (⟨mjcM120, 59, 1, rfl, by decide, mjcd120, mw_15, Or.inl ⟨8, mjF8, 6, by decide +kernel, rfl, rfl, rfl, mw_902, mw_904, mjsel_57⟩⟩) ?_
    refine mj_all_cons 47 rfl (trivial) ?_
    refine mj_all_cons 48 rfl (trivial) ?_
    refine mj_all_cons 49 rfl (Or.inl ⟨0, by decide +kernel, rfl, rfl⟩) ?_
    refine mj_all_cons 50 rfl (Or.inr (Or.inl ⟨by decide +kernel, rfl, by decide⟩)) ?_
    refine mj_all_cons 51 rfl (trivial) ?_
    refine mj_all_cons 52 rfl (⟨mjcM122, 31, 1, rfl, by decide, mjcd122, mw_15, Or.inl ⟨8, mjF8, 6, by decide +kernel, rfl, rfl, rfl, mw_892, mw_894, mjsel_55⟩⟩) ?_
    refine mj_all_cons 53 rfl (trivial) ?_
    refine mj_all_cons 54 rfl (trivial) ?_
    refine mj_all_cons 55 rfl (show _ = _ from by decide +kernel) ?_
    exact trivial
  intro pc o ho
  have := mj_all_get _ 0 h pc o ho
  rw [Nat.zero_add] at this
  exact this
set_option maxRecDepth 100000 in
theorem mjci119 : ∀ (pc : Nat) (o : mj_O), mjco119[pc]? = some o → mj_is mj_kl mjcM119.1.cls mj_WS mj_NWs mjc_Ms mjcM119.2.1 pc o := by
  have h : mj_all (mj_is mj_kl mjcM119.1.cls mj_WS mj_NWs mjc_Ms mjcM119.2.1) 0 mjco119 := by
    unfold mjco119
    refine mj_all_cons 1 rfl (Or.inl ⟨0, by decide +kernel, rfl, rfl⟩) ?_
    refine mj_all_cons 2 rfl (Or.inl ⟨by decide +kernel, rfl⟩) ?_
    refine mj_all_cons 3 rfl (Or.inl ⟨0, by decide +kernel, rfl, rfl⟩) ?_
    refine mj_all_cons 4 rfl (⟨23, "ListSpeaker$Paper", mjF8, 6, by decide +kernel, rfl, by decide, mw_308, mjw8⟩) ?_
    refine mj_all_cons 5 rfl (trivial) ?_
    refine mj_all_cons 6 rfl (trivial) ?_
    refine mj_all_cons 7 rfl (Or.inl ⟨1, by decide +kernel, rfl, rfl⟩) ?_
    refine mj_all_cons 8 rfl (⟨mjcM21, 63, 1, rfl, by decide, mjcd21, mw_8, Or.inl ⟨2, mjF2, 12, by decide +kernel, rfl, rfl, rfl, mw_900, mw_602, mw_603⟩⟩) ?_
    refine mj_all_cons 9 rfl (trivial) ?_
    refine mj_all_cons 10 rfl (trivial) ?_
    refine mj_all_cons 11 rfl (show _ = _ from by decide +kernel) ?_
    refine mj_all_cons 12 rfl (⟨mjcM116, 42, 1, rfl, by decide, mjcd116, mw_15, Or.inl ⟨8, mjF8, 6, by decide +kernel, rfl, rfl, rfl, mw_882, mw_884, mjsel_53⟩⟩) ?_
    refine mj_all_cons 13 rfl (trivial) ?_
    refine mj_all_cons 14 rfl (trivial) ?_
    refine mj_all_cons 15 rfl (Or.inl ⟨0, by decide +kernel, rfl, rfl⟩) ?_
    refine mj_all_cons 16 rfl (Or.inl ⟨0, by decide +kernel, rfl, rfl⟩) ?_
    refine mj_all_cons 17 rfl (⟨23, "ListSpeaker$Paper", mjF8, 6, by decide +kernel, rfl, by decide, mw_308, mjw8⟩) ?_
    refine mj_all_cons 18 rfl (trivial) ?_
    refine mj_all_cons 19 rfl (trivial) ?_
    refine mj_all_cons 20 rfl (Or.inl ⟨1, by decide +kernel, rfl, rfl⟩) ?_
    refine mj_all_cons 21 rfl (⟨mjcM20, 69, 1, rfl, by decide, mjcd20, mw_8, Or.inl ⟨2, mjF2, 12, by decide +kernel, rfl, rfl, rfl, mw_901, mw_588, mw_589⟩⟩) ?_
    refine mj_all_cons 22 rfl (trivial) ?_
    refine mj_all_cons 23 rfl (trivial) ?_
    refine mj_all_cons 24 rfl (⟨mjcM116, 42, 1, rfl, by decide, mjcd116, mw_15, Or.inl ⟨8, mjF8, 6, by decide +kernel, rfl, rfl, rfl, mw_882, mw_884, mjsel_53⟩⟩) ?_
    refine mj_all_cons 25 rfl (trivial) ?_
    refine mj_all_cons 26 rfl (trivial) ?_
    refine mj_all_cons 27 rfl (show _ = _ from by decide +kernel) ?_
    exact trivial
  intro pc o ho
  have := mj_all_get _ 0 h pc o ho
  rw [Nat.zero_add] at this
  exact this
set_option maxRecDepth 100000 in
theorem mjci120 : ∀ (pc : Nat) (o : mj_O), mjco120[pc]? = some o → mj_is mj_kl mjcM120.1.cls mj_WS mj_NWs mjc_Ms mjcM120.2.1 pc o := by
  have h : mj_all (mj_is mj_kl mjcM120.1.cls mj_WS mj_NWs mjc_Ms mjcM120.2.1) 0 mjco120 := by
    unfold mjco120
    refine mj_all_cons 1 rfl (Or.inl ⟨1, by decide +kernel, rfl, rfl⟩) ?_
    refine mj_all_cons 2 rfl (⟨mjcM7, 72, 1, rfl, by decide, mjcd7, mw_1, Or.inr (Or.inr ⟨"ListSpeaker", by decide +kernel, rfl, rfl, mjnw_7, mw_653⟩)⟩) ?_
    refine mj_all_cons 3 rfl (trivial) ?_
    refine mj_all_cons 4 rfl (trivial) ?_
    refine mj_all_cons 5 rfl (show _ = _ from by decide +kernel) ?_
    refine mj_all_cons 6 rfl (trivial) ?_
    refine mj_all_cons 7 rfl (trivial) ?_
    refine mj_all_cons 8 rfl (Or.inl ⟨0, by decide +kernel, rfl, rfl⟩) ?_
    refine mj_all_cons 9 rfl (Or.inl ⟨1, by decide +kernel, rfl, rfl⟩) ?_
    refine mj_all_cons 10 rfl (⟨mjcM121, 35, 1, rfl, by decide, mjcd121, mw_15, Or.inl ⟨8, mjF8, 6, by decide +kernel, rfl, rfl, rfl, mw_907, mw_909, mjsel_58⟩⟩) ?_
    refine mj_all_cons 11 rfl (trivial) ?_
    refine mj_all_cons 12 rfl (trivial) ?_
    refine mj_all_cons 13 rfl (show _ = _ from by decide +kernel) ?_
    refine mj_all_cons 14 rfl (Or.inl ⟨0, by decide +kernel, rfl, rfl⟩) ?_
    refine mj_all_cons 15 rfl (⟨19, "ListSpeaker$Paper", mjF8, 6, by decide +kernel, rfl, by decide, mw_307, mjw8⟩) ?_
    refine mj_all_cons 16 rfl (trivial) ?_
    refine mj_all_cons 17 rfl (trivial) ?_
    refine mj_all_cons 18 rfl (Or.inl ⟨1, by decide +kernel, rfl, rfl⟩) ?_
    refine mj_all_cons 19 rfl (⟨mjcM11, 75, 1, rfl, by decide, mjcd11, mw_2, Or.inl ⟨1, mjF1, 3, by decide +kernel, rfl, rfl, rfl, mw_912, mw_913, mw_914⟩⟩) ?_
    refine mj_all_cons 20 rfl (trivial) ?_
    refine mj_all_cons 21 rfl (trivial) ?_
    refine mj_all_cons 22 rfl (Or.inl ⟨2, by decide +kernel, rfl, rfl⟩) ?_
    refine mj_all_cons 23 rfl (Or.inl ⟨by decide +kernel, rfl⟩) ?_
    refine mj_all_cons 24 rfl (Or.inl ⟨3, by decide +kernel, rfl, rfl⟩) ?_
    refine mj_all_cons 25 rfl (Or.inl ⟨3, by decide +kernel, rfl, rfl⟩) ?_
    refine mj_all_cons 26 rfl (Or.inl ⟨2, by decide +kernel, rfl, rfl⟩) ?_
    refine mj_all_cons 27 rfl (show _ = _ from by decide +kernel) ?_
    refine mj_all_cons 28 rfl (trivial) ?_
    refine mj_all_cons 29 rfl (trivial) ?_
    refine mj_all_cons 30 rfl (Or.inl ⟨0, by decide +kernel, rfl, rfl⟩) ?_
    refine mj_all_cons 31 rfl (Or.inl ⟨0, by decide +kernel, rfl, rfl⟩) ?_
    refine mj_all_cons 32 rfl (⟨19, "ListSpeaker$Paper", mjF8, 6, by decide +kernel, rfl, by decide, mw_307, mjw8⟩) ?_
    refine mj_all_cons 33 rfl (trivial) ?_
    refine mj_all_cons 34 rfl (trivial) ?_
    refine mj_all_cons 35 rfl (Or.inl ⟨1, by decide +kernel, rfl, rfl⟩) ?_
    refine mj_all_cons 36 rfl (Or.inl ⟨3, by decide +kernel, rfl, rfl⟩) ?_
    refine mj_all_cons 37 rfl (⟨mjcM12, 79, 2, rfl, by decide, mjcd12, mw_2, Or.inl ⟨1, mjF1, 3, by decide +kernel, rfl, rfl, rfl, mw_916, mw_917, mw_918⟩⟩) ?_
    refine mj_all_cons 38 rfl (trivial) ?_
    refine mj_all_cons 39 rfl (trivial) ?_
    refine mj_all_cons 40 rfl (⟨mjcM122, 31, 1, rfl, by decide, mjcd122, mw_15, Or.inl ⟨8, mjF8, 6, by decide +kernel, rfl, rfl, rfl, mw_892, mw_894, mjsel_55⟩⟩) ?_
    refine mj_all_cons 41 rfl (trivial) ?_
    refine mj_all_cons 42 rfl (trivial) ?_
    refine mj_all_cons 43 rfl (show _ = _ from by decide +kernel) ?_
    refine mj_all_cons 44 rfl (trivial) ?_
    refine mj_all_cons 45 rfl (trivial) ?_
    refine mj_all_cons 46 rfl (show _ = _ from by decide +kernel) ?_
    refine mj_all_cons 47 rfl (trivial) ?_
    refine mj_all_cons 48 rfl (trivial) ?_
    refine mj_all_cons 49 rfl (show _ = _ from by decide +kernel) ?_
    exact trivial
  intro pc o ho
  have := mj_all_get _ 0 h pc o ho
  rw [Nat.zero_add] at this
  exact this
