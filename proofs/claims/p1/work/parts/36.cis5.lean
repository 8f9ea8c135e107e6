set_option maxRecDepth 100000 in
theorem mjci83 : ∀ (pc : Nat) (o : mj_O), mjco83[pc]? = some o → mj_is mj_kl mjcM83.1.cls mj_WS mj_NWs mjc_Ms mjcM83.2.1 pc o := by
  have h : mj_all (mj_is mj_kl mjcM83.1.cls mj_WS mj_NWs mjc_Ms mjcM83.2.1) 0 mjco83 := by
    unfold mjco83
    refine mj_all_cons 1 rfl (Or.inl ⟨0, by decide +kernel, rfl, rfl⟩) ?_
    refine mj_all_cons 2 rfl (⟨28, "ListSpeaker$Functions", mjF6, 7, by decide +kernel, rfl, by decide, mw_230, mjw6⟩) ?_
    refine mj_all_cons 3 rfl (trivial) ?_
    refine mj_all_cons 4 rfl (trivial) ?_
    refine mj_all_cons 5 rfl (Or.inl ⟨1, by decide +kernel, rfl, rfl⟩) ?_
    refine mj_all_cons 6 rfl (Or.inl ⟨2, by decide +kernel, rfl, rfl⟩) ?_
    refine mj_all_cons 7 rfl (Or.inr (Or.inr (Or.inr (Or.inl ⟨51, by decide +kernel, rfl, mw_724⟩)))) ?_
    refine mj_all_cons 8 rfl (trivial) ?_
    refine mj_all_cons 9 rfl (⟨mjcM32, 52, 3, rfl, by decide, mjcd32, mw_8, Or.inl ⟨2, mjF2, 12, by decide +kernel, rfl, rfl, rfl, mw_725, mw_726, mw_727⟩⟩) ?_
    refine mj_all_cons 10 rfl (trivial) ?_
    refine mj_all_cons 11 rfl (trivial) ?_
    refine mj_all_cons 12 rfl (show _ = _ from by decide +kernel) ?_
    refine mj_all_cons 13 rfl (trivial) ?_
    refine mj_all_cons 14 rfl (trivial) ?_
    refine mj_all_cons 15 rfl (Or.inl ⟨by decide +kernel, rfl⟩) ?_
    refine mj_all_cons 16 rfl (show _ = _ from by decide +kernel) ?_
    refine mj_all_cons 17 rfl (trivial) ?_
    refine mj_all_cons 18 rfl (trivial) ?_
    refine mj_all_cons 19 rfl (Or.inl ⟨by decide +kernel, rfl⟩) ?_
    refine mj_all_cons 20 rfl (show _ = _ from by decide +kernel) ?_
    exact trivial
  intro pc o ho
  have := mj_all_get _ 0 h pc o ho
  rw [Nat.zero_add] at this
  exact this
set_option maxRecDepth 100000 in
theorem mjci84 : ∀ (pc : Nat) (o : mj_O), mjco84[pc]? = some o → mj_is mj_kl mjcM84.1.cls mj_WS mj_NWs mjc_Ms mjcM84.2.1 pc o := by
  have h : mj_all (mj_is mj_kl mjcM84.1.cls mj_WS mj_NWs mjc_Ms mjcM84.2.1) 0 mjco84 := by
    unfold mjco84
    refine mj_all_cons 1 rfl (Or.inl ⟨1, by decide +kernel, rfl, rfl⟩) ?_
    refine mj_all_cons 2 rfl (Or.inr (Or.inr (Or.inr (Or.inl ⟨42, by decide +kernel, rfl, mw_719⟩)))) ?_
    refine mj_all_cons 3 rfl (trivial) ?_
    refine mj_all_cons 4 rfl (show _ = _ from by decide +kernel) ?_
    refine mj_all_cons 5 rfl (Or.inl ⟨3, by decide +kernel, rfl, rfl⟩) ?_
    refine mj_all_cons 6 rfl (Or.inl ⟨3, by decide +kernel, rfl, rfl⟩) ?_
    refine mj_all_cons 7 rfl (show _ = _ from by decide +kernel) ?_
    refine mj_all_cons 8 rfl (trivial) ?_
    refine mj_all_cons 9 rfl (trivial) ?_
    refine mj_all_cons 10 rfl (Or.inl ⟨3, by decide +kernel, rfl, rfl⟩) ?_
    refine mj_all_cons 11 rfl (Or.inr (Or.inl ⟨by decide +kernel, rfl, by decide⟩)) ?_
    refine mj_all_cons 12 rfl (trivial) ?_
    refine mj_all_cons 13 rfl (show _ = _ from by decide +kernel) ?_
    refine mj_all_cons 14 rfl (trivial) ?_
    refine mj_all_cons 15 rfl (trivial) ?_
    refine mj_all_cons 16 rfl (Or.inl ⟨0, by decide +kernel, rfl, rfl⟩) ?_
    refine mj_all_cons 17 rfl (⟨9, "ListSpeaker$Functions", mjF6, 7, by decide +kernel, rfl, by decide, mw_231, mjw6⟩) ?_
    refine mj_all_cons 18 rfl (trivial) ?_
    refine mj_all_cons 19 rfl (trivial) ?_
    refine mj_all_cons 20 rfl (Or.inl ⟨3, by decide +kernel, rfl, rfl⟩) ?_
    refine mj_all_cons 21 rfl (show _ = _ from by decide +kernel) ?_
    refine mj_all_cons 22 rfl (show _ = _ from by decide +kernel) ?_
    refine mj_all_cons 23 rfl (trivial) ?_
    refine mj_all_cons 24 rfl (trivial) ?_
    refine mj_all_cons 25 rfl (Or.inl ⟨by decide +kernel, rfl⟩) ?_
    refine mj_all_cons 26 rfl (show _ = _ from by decide +kernel) ?_
    refine mj_all_cons 27 rfl (Or.inl ⟨0, by decide +kernel, rfl, rfl⟩) ?_
    refine mj_all_cons 28 rfl (⟨19, "ListSpeaker$Functions", mjF6, 7, by decide +kernel, rfl, by decide, mw_233, mjw6⟩) ?_
    refine mj_all_cons 29 rfl (trivial) ?_
    refine mj_all_cons 30 rfl (trivial) ?_
    refine mj_all_cons 31 rfl (Or.inl ⟨3, by decide +kernel, rfl, rfl⟩) ?_
    refine mj_all_cons 32 rfl (show _ = _ from by decide +kernel) ?_
    refine mj_all_cons 33 rfl (Or.inl ⟨2, by decide +kernel, rfl, rfl⟩) ?_
    refine mj_all_cons 34 rfl (show _ = _ from by decide +kernel) ?_
    refine mj_all_cons 35 rfl (trivial) ?_
    refine mj_all_cons 36 rfl (trivial) ?_
    refine mj_all_cons 37 rfl (Or.inl ⟨by decide +kernel, rfl⟩) ?_
    refine mj_all_cons 38 rfl (show _ = _ from by decide +kernel) ?_
    refine mj_all_cons 39 rfl (trivial) ?_
    refine mj_all_cons 40 rfl (trivial) ?_
    refine mj_all_cons 41 rfl (Or.inl ⟨by decide +kernel, rfl⟩) ?_
    refine mj_all_cons 42 rfl (show _ = _ from by decide +kernel) ?_
    exact trivial
  intro pc o ho
  have := mj_all_get _ 0 h pc o ho
  rw [Nat.zero_add] at this
  exact this
set_option maxRecDepth 100000 in
theorem mjci85 : ∀ (pc : Nat) (o : mj_O), mjco85[pc]? = some o → mj_is mj_kl mjcM85.1.cls mj_WS mj_NWs mjc_Ms mjcM85.2.1 pc o := by
  have h : mj_all (mj_is mj_kl mjcM85.1.cls mj_WS mj_NWs mjc_Ms mjcM85.2.1) 0 mjco85 := by
    unfold mjco85
    refine mj_all_cons 1 rfl (Or.inl ⟨1, by decide +kernel, rfl, rfl⟩) ?_
    refine mj_all_cons 2 rfl (Or.inr (Or.inr (Or.inr (Or.inl ⟨42, by decide +kernel, rfl, mw_719⟩)))) ?_
    refine mj_all_cons 3 rfl (trivial) ?_
    refine mj_all_cons 4 rfl (show _ = _ from by decide +kernel) ?_
    refine mj_all_cons 5 rfl (Or.inl ⟨2, by decide +kernel, rfl, rfl⟩) ?_
    refine mj_all_cons 6 rfl (Or.inl ⟨2, by decide +kernel, rfl, rfl⟩) ?_
    refine mj_all_cons 7 rfl (show _ = _ from by decide +kernel) ?_
    refine mj_all_cons 8 rfl (trivial) ?_
    refine mj_all_cons 9 rfl (trivial) ?_
    refine mj_all_cons 10 rfl (Or.inl ⟨2, by decide +kernel, rfl, rfl⟩) ?_
    refine mj_all_cons 11 rfl (Or.inr (Or.inl ⟨by decide +kernel, rfl, by decide⟩)) ?_
    refine mj_all_cons 12 rfl (trivial) ?_
    refine mj_all_cons 13 rfl (show _ = _ from by decide +kernel) ?_
    refine mj_all_cons 14 rfl (trivial) ?_
    refine mj_all_cons 15 rfl (trivial) ?_
    refine mj_all_cons 16 rfl (Or.inl ⟨0, by decide +kernel, rfl, rfl⟩) ?_
    refine mj_all_cons 17 rfl (⟨25, "ListSpeaker$Functions", mjF6, 7, by decide +kernel, rfl, by decide, mw_235, mjw6⟩) ?_
    refine mj_all_cons 18 rfl (trivial) ?_
    refine mj_all_cons 19 rfl (trivial) ?_
    refine mj_all_cons 20 rfl (Or.inl ⟨2, by decide +kernel, rfl, rfl⟩) ?_
    refine mj_all_cons 21 rfl (show _ = _ from by decide +kernel) ?_
    refine mj_all_cons 22 rfl (show _ = _ from by decide +kernel) ?_
    refine mj_all_cons 23 rfl (trivial) ?_
    refine mj_all_cons 24 rfl (trivial) ?_
    refine mj_all_cons 25 rfl (Or.inl ⟨by decide +kernel, rfl⟩) ?_
    refine mj_all_cons 26 rfl (show _ = _ from by decide +kernel) ?_
    exact trivial
  intro pc o ho
  have := mj_all_get _ 0 h pc o ho
  rw [Nat.zero_add] at this
  exact this
set_option maxRecDepth 100000 in
theorem mjci86 : ∀ (pc : Nat) (o : mj_O), mjco86[pc]? = some o → mj_is mj_kl mjcM86.1.cls mj_WS mj_NWs mjc_Ms mjcM86.2.1 pc o := by
  have h : mj_all (mj_is mj_kl mjcM86.1.cls mj_WS mj_NWs mjc_Ms mjcM86.2.1) 0 mjco86 := by
    unfold mjco86
    refine mj_all_cons 1 rfl (Or.inl ⟨0, by decide +kernel, rfl, rfl⟩) ?_
    refine mj_all_cons 2 rfl (⟨36, "ListSpeaker$Machine", mjF7, 14, by decide +kernel, rfl, by decide, mw_270, mjw7⟩) ?_
    refine mj_all_cons 3 rfl (trivial) ?_
    refine mj_all_cons 4 rfl (trivial) ?_
    refine mj_all_cons 5 rfl (show _ = _ from by decide +kernel) ?_
    exact trivial
  intro pc o ho
  have := mj_all_get _ 0 h pc o ho
  rw [Nat.zero_add] at this
  exact this
set_option maxRecDepth 100000 in
theorem mjci87 : ∀ (pc : Nat) (o : mj_O), mjco87[pc]? = some o → mj_is mj_kl mjcM87.1.cls mj_WS mj_NWs mjc_Ms mjcM87.2.1 pc o := by
  have h : mj_all (mj_is mj_kl mjcM87.1.cls mj_WS mj_NWs mjc_Ms mjcM87.2.1) 0 mjco87 := by
    unfold mjco87
    refine mj_all_cons 1 rfl (Or.inl ⟨0, by decide +kernel, rfl, rfl⟩) ?_
    refine mj_all_cons 2 rfl (⟨40, "ListSpeaker$Machine", mjF7, 14, by decide +kernel, rfl, by decide, mw_271, mjw7⟩) ?_
    refine mj_all_cons 3 rfl (trivial) ?_
    refine mj_all_cons 4 rfl (trivial) ?_
    refine mj_all_cons 5 rfl (show _ = _ from by decide +kernel) ?_
    exact trivial
  intro pc o ho
  have := mj_all_get _ 0 h pc o ho
  rw [Nat.zero_add] at this
  exact this
set_option maxRecDepth 100000 in
theorem mjci88 : ∀ (pc : Nat) (o : mj_O), mjco88[pc]? = some o → mj_is mj_kl mjcM88.1.cls mj_WS mj_NWs mjc_Ms mjcM88.2.1 pc o := by
  have h : mj_all (mj_is mj_kl mjcM88.1.cls mj_WS mj_NWs mjc_Ms mjcM88.2.1) 0 mjco88 := by
    unfold mjco88
    refine mj_all_cons 1 rfl (Or.inl ⟨0, by decide +kernel, rfl, rfl⟩) ?_
    refine mj_all_cons 2 rfl (Or.inl ⟨by decide +kernel, rfl⟩) ?_
    refine mj_all_cons 3 rfl (⟨mjcM94, 43, 1, rfl, by decide, mjcd94, mw_14, Or.inl ⟨7, mjF7, 14, by decide +kernel, rfl, rfl, rfl, mw_777, mw_779, mjsel_39⟩⟩) ?_
    refine mj_all_cons 4 rfl (trivial) ?_
    refine mj_all_cons 5 rfl (trivial) ?_
    refine mj_all_cons 6 rfl (show _ = _ from by decide +kernel) ?_
    exact trivial
  intro pc o ho
  have := mj_all_get _ 0 h pc o ho
  rw [Nat.zero_add] at this
  exact this
set_option maxRecDepth 100000 in
theorem mjci89 : ∀ (pc : Nat) (o : mj_O), mjco89[pc]? = some o → mj_is mj_kl mjcM89.1.cls mj_WS mj_NWs mjc_Ms mjcM89.2.1 pc o := by
  have h : mj_all (mj_is mj_kl mjcM89.1.cls mj_WS mj_NWs mjc_Ms mjcM89.2.1) 0 mjco89 := by
    unfold mjco89
    refine mj_all_cons 1 rfl (Or.inl ⟨0, by decide +kernel, rfl, rfl⟩) ?_
    refine mj_all_cons 2 rfl (Or.inl ⟨1, by decide +kernel, rfl, rfl⟩) ?_
    refine mj_all_cons 3 rfl (⟨47, "ListSpeaker$Machine", mjF7, 14, mjt7, by decide +kernel, rfl, by decide, mw_269, mjw7, mjk7, mjn7, rfl, by decide +kernel⟩) ?_
    refine mj_all_cons 4 rfl (trivial) ?_
    refine mj_all_cons 5 rfl (trivial) ?_
    refine mj_all_cons 6 rfl (Or.inl ⟨0, by decide +kernel, rfl, rfl⟩) ?_
    refine mj_all_cons 7 rfl (Or.inl ⟨by decide +kernel, rfl⟩) ?_
    refine mj_all_cons 8 rfl (⟨36, "ListSpeaker$Machine", mjF7, 14, mjt7, by decide +kernel, rfl, by decide, mw_270, mjw7, mjk7, mjn7, rfl, by decide +kernel⟩) ?_
    refine mj_all_cons 9 rfl (trivial) ?_
    refine mj_all_cons 10 rfl (trivial) ?_
    refine mj_all_cons 11 rfl (Or.inl ⟨0, by decide +kernel, rfl, rfl⟩) ?_
    refine mj_all_cons 12 rfl (Or.inl ⟨by decide +kernel, rfl⟩) ?_
    refine mj_all_cons 13 rfl (⟨40, "ListSpeaker$Machine", mjF7, 14, mjt7, by decide +kernel, rfl, by decide, mw_271, mjw7, mjk7, mjn7, rfl, by decide +kernel⟩) ?_
    refine mj_all_cons 14 rfl (trivial) ?_
    refine mj_all_cons 15 rfl (trivial) ?_
    refine mj_all_cons 16 rfl (show _ = _ from by decide +kernel) ?_
    exact trivial
  intro pc o ho
  have := mj_all_get _ 0 h pc o ho
  rw [Nat.zero_add] at this
  exact this
set_option maxRecDepth 100000 in
theorem mjci90 : ∀ (pc : Nat) (o : mj_O), mjco90[pc]? = some o → mj_is mj_kl mjcM90.1.cls mj_WS mj_NWs mjc_Ms mjcM90.2.1 pc o := by
  have h : mj_all (mj_is mj_kl mjcM90.1.cls mj_WS mj_NWs mjc_Ms mjcM90.2.1) 0 mjco90 := by
    unfold mjco90
    refine mj_all_cons 1 rfl (Or.inl ⟨0, by decide +kernel, rfl, rfl⟩) ?_
    refine mj_all_cons 2 rfl (Or.inl ⟨1, by decide +kernel, rfl, rfl⟩) ?_
    refine mj_all_cons 3 rfl (⟨50, "ListSpeaker$Machine", mjF7, 14, mjt7, by decide +kernel, rfl, by decide, mw_268, mjw7, mjk7, mjn7, rfl, by decide +kernel⟩) ?_
    refine mj_all_cons 4 rfl (trivial) ?_
    refine mj_all_cons 5 rfl (trivial) ?_
    refine mj_all_cons 6 rfl (Or.inl ⟨0, by decide +kernel, rfl, rfl⟩) ?_
    refine mj_all_cons 7 rfl (Or.inl ⟨by decide +kernel, rfl⟩) ?_
    refine mj_all_cons 8 rfl (⟨53, "ListSpeaker$Machine", mjF7, 14, mjt7, by decide +kernel, rfl, by decide, mw_265, mjw7, mjk7, mjn7, rfl, by decide +kernel⟩) ?_
    refine mj_all_cons 9 rfl (trivial) ?_
    refine mj_all_cons 10 rfl (trivial) ?_
    refine mj_all_cons 11 rfl (Or.inl ⟨0, by decide +kernel, rfl, rfl⟩) ?_
    refine mj_all_cons 12 rfl (Or.inl ⟨by decide +kernel, rfl⟩) ?_
    refine mj_all_cons 13 rfl (⟨56, "ListSpeaker$Machine", mjF7, 14, mjt7, by decide +kernel, rfl, by decide, mw_266, mjw7, mjk7, mjn7, rfl, by decide +kernel⟩) ?_
    refine mj_all_cons 14 rfl (trivial) ?_
    refine mj_all_cons 15 rfl (trivial) ?_
    refine mj_all_cons 16 rfl (Or.inl ⟨0, by decide +kernel, rfl, rfl⟩) ?_
    refine mj_all_cons 17 rfl (Or.inl ⟨by decide +kernel, rfl⟩) ?_
    refine mj_all_cons 18 rfl (⟨59, "ListSpeaker$Machine", mjF7, 14, mjt7, by decide +kernel, rfl, by decide, mw_267, mjw7, mjk7, mjn7, rfl, by decide +kernel⟩) ?_
    refine mj_all_cons 19 rfl (trivial) ?_
    refine mj_all_cons 20 rfl (trivial) ?_
    refine mj_all_cons 21 rfl (Or.inl ⟨by decide +kernel, rfl⟩) ?_
    refine mj_all_cons 22 rfl (Or.inl ⟨2, by decide +kernel, rfl, rfl⟩) ?_
    refine mj_all_cons 23 rfl (Or.inl ⟨2, by decide +kernel, rfl, rfl⟩) ?_
    refine mj_all_cons 24 rfl (Or.inr (Or.inr (Or.inr (Or.inl ⟨62, by decide +kernel, rfl, mw_739⟩)))) ?_
    refine mj_all_cons 25 rfl (trivial) ?_
    refine mj_all_cons 26 rfl (show _ = _ from by decide +kernel) ?_
    refine mj_all_cons 27 rfl (trivial) ?_
    refine mj_all_cons 28 rfl (trivial) ?_
    refine mj_all_cons 29 rfl (Or.inl ⟨0, by decide +kernel, rfl, rfl⟩) ?_
    refine mj_all_cons 30 rfl (⟨28, "ListSpeaker$Machine", mjF7, 14, by decide +kernel, rfl, by decide, mw_259, mjw7⟩) ?_
    refine mj_all_cons 31 rfl (trivial) ?_
    refine mj_all_cons 32 rfl (trivial) ?_
    refine mj_all_cons 33 rfl (Or.inl ⟨0, by decide +kernel, rfl, rfl⟩) ?_
    refine mj_all_cons 34 rfl (⟨50, "ListSpeaker$Machine", mjF7, 14, by decide +kernel, rfl, by decide, mw_268, mjw7⟩) ?_
    refine mj_all_cons 35 rfl (trivial) ?_
    refine mj_all_cons 36 rfl (trivial) ?_
    refine mj_all_cons 37 rfl (⟨mjcM56, 63, 1, rfl, by decide, mjcd56, mw_11, Or.inl ⟨4, mjF4, 4, by decide +kernel, rfl, rfl, rfl, mw_740, mw_741, mw_742⟩⟩) ?_
    refine mj_all_cons 38 rfl (trivial) ?_
    refine mj_all_cons 39 rfl (trivial) ?_
    refine mj_all_cons 40 rfl (Or.inl ⟨3, by decide +kernel, rfl, rfl⟩) ?_
    refine mj_all_cons 41 rfl (Or.inl ⟨3, by decide +kernel, rfl, rfl⟩) ?_
    refine mj_all_cons 42 rfl (show _ = _ from by decide +kernel) ?_
    refine mj_all_cons 43 rfl (trivial) ?_
    refine mj_all_cons 44 rfl (trivial) ?_
    refine mj_all_cons 45 rfl (Or.inl ⟨by decide +kernel, rfl⟩) ?_
    refine mj_all_cons 46 rfl (show _ = _ from by decide +kernel) ?_
    refine mj_all_cons 47 rfl (Or.inl ⟨0, by decide +kernel, rfl, rfl⟩) ?_
    refine mj_all_cons 48 rfl (Or.inl ⟨3, by decide +kernel, rfl, rfl⟩) ?_
    refine mj_all_cons 49 rfl (Or.inl ⟨0, by decide +kernel, rfl, rfl⟩) ?_
    refine mj_all_cons 50 rfl (⟨28, "ListSpeaker$Machine", mjF7, 14, by decide +kernel, rfl, by decide, mw_259, mjw7⟩) ?_
    refine mj_all_cons 51 rfl (trivial) ?_
    refine mj_all_cons 52 rfl (trivial) ?_
    refine mj_all_cons 53 rfl (Or.inl ⟨0, by decide +kernel, rfl, rfl⟩) ?_
    refine mj_all_cons 54 rfl (⟨50, "ListSpeaker$Machine", mjF7, 14, by decide +kernel, rfl, by decide, mw_268, mjw7⟩) ?_
    refine mj_all_cons 55 rfl (trivial) ?_
    refine mj_all_cons 56 rfl (trivial) ?_
    refine mj_all_cons 57 rfl (⟨mjcM57, 68, 1, rfl, by decide, mjcd57, mw_11, Or.inl ⟨4, mjF4, 4, by decide +kernel, rfl, rfl, rfl, mw_744, mw_745, mw_746⟩⟩) ?_
    refine mj_all_cons 58 rfl (trivial) ?_
    refine mj_all_cons 59 rfl (trivial) ?_
    refine mj_all_cons 60 rfl (Or.inl ⟨0, by decide +kernel, rfl, rfl⟩) ?_
    refine mj_all_cons 61 rfl (⟨28, "ListSpeaker$Machine", mjF7, 14, by decide +kernel, rfl, by decide, mw_259, mjw7⟩) ?_
    refine mj_all_cons 62 rfl (trivial) ?_
    refine mj_all_cons 63 rfl (trivial) ?_
    refine mj_all_cons 64 rfl (Or.inl ⟨0, by decide +kernel, rfl, rfl⟩) ?_
    refine mj_all_cons 65 rfl (⟨50, "ListSpeaker$Machine", mjF7, 14, by decide +kernel, rfl, by decide, mw_268, mjw7⟩) ?_
    refine mj_all_cons 66 rfl (trivial) ?_
    refine mj_all_cons 67 rfl (trivial) ?_
    refine mj_all_cons 68 rfl (⟨mjcM58, 71, 1, rfl, by decide, mjcd58, mw_11, Or.inl ⟨4, mjF4, 4, by decide +kernel, rfl, rfl, rfl, mw_748, mw_749, mw_750⟩⟩) ?_
    refine mj_all_cons 69 rfl (trivial) ?_
    refine mj_all_cons 70 rfl (trivial) ?_
    refine mj_all_cons 71 rfl (⟨mjcM91, 74, 3, rfl, by decide, mjcd91, mw_14, Or.inl ⟨7, mjF7, 14, by decide +kernel, rfl, rfl, rfl, mw_752, mw_754, mjsel_33⟩⟩) ?_
    refine mj_all_cons 72 rfl (trivial) ?_
    refine mj_all_cons 73 rfl (trivial) ?_
    refine mj_all_cons 74 rfl (Or.inr ⟨by decide +kernel, rfl⟩) ?_
    refine mj_all_cons 75 rfl (trivial) ?_
    refine mj_all_cons 76 rfl (Or.inr ⟨by decide +kernel, rfl⟩) ?_
    refine mj_all_cons 77 rfl (trivial) ?_
    refine mj_all_cons 78 rfl (show _ = _ from by decide +kernel) ?_
    refine mj_all_cons 79 rfl (trivial) ?_
    refine mj_all_cons 80 rfl (trivial) ?_
    refine mj_all_cons 81 rfl (Or.inr ⟨by decide +kernel, rfl⟩) ?_
    refine mj_all_cons 82 rfl (trivial) ?_
    refine mj_all_cons 83 rfl (show _ = _ from by decide +kernel) ?_
    refine mj_all_cons 84 rfl (show _ = _ from by decide +kernel) ?_
    refine mj_all_cons 85 rfl (trivial) ?_
    refine mj_all_cons 86 rfl (trivial) ?_
    refine mj_all_cons 87 rfl (show _ = _ from by decide +kernel) ?_
    refine mj_all_cons 88 rfl (trivial) ?_
    refine mj_all_cons 89 rfl (trivial) ?_
    refine mj_all_cons 90 rfl (Or.inl ⟨by decide +kernel, rfl⟩) ?_
    refine mj_all_cons 91 rfl (show _ = _ from by decide +kernel) ?_
    exact trivial
  intro pc o ho
  have := mj_all_get _ 0 h pc o ho
  rw [Nat.zero_add] at this
  exact this
set_option maxRecDepth 100000 in
theorem mjci91 : ∀ (pc : Nat) (o : mj_O), mjco91[pc]? = some o → mj_is mj_kl mjcM91.1.cls mj_WS mj_NWs mjc_Ms mjcM91.2.1 pc o := by
  have h : mj_all (mj_is mj_kl mjcM91.1.cls mj_WS mj_NWs mjc_Ms mjcM91.2.1) 0 mjco91 := by
    unfold mjco91
    refine mj_all_cons 1 rfl (Or.inl ⟨0, by decide +kernel, rfl, rfl⟩) ?_
    refine mj_all_cons 2 rfl (show _ = _ from by decide +kernel) ?_
    refine mj_all_cons 3 rfl (⟨50, "ListSpeaker$Machine", mjF7, 14, by decide +kernel, rfl, by decide, mw_268, mjw7⟩) ?_
    refine mj_all_cons 4 rfl (trivial) ?_
    refine mj_all_cons 5 rfl (trivial) ?_
    refine mj_all_cons 6 rfl (Or.inl ⟨by decide +kernel, rfl⟩) ?_
    refine mj_all_cons 7 rfl (show _ = _ from by decide +kernel) ?_
    refine mj_all_cons 8 rfl (⟨50, "ListSpeaker$Machine", mjF7, 14, mjt7, by decide +kernel, rfl, by decide, mw_268, mjw7, mjk7, mjn7, rfl, by decide +kernel⟩) ?_
    refine mj_all_cons 9 rfl (trivial) ?_
    refine mj_all_cons 10 rfl (trivial) ?_
    refine mj_all_cons 11 rfl (Or.inl ⟨1, by decide +kernel, rfl, rfl⟩) ?_
    refine mj_all_cons 12 rfl (⟨243, #[(1, 121), (2, 126), (3, 132), (4, 142), (5, 148), (6, 154), (7, 175), (8, 196), (9, 209), (10, 216), (11, 223), (268435466, 228), (268435472, 233), (268435473, 238)], 121, by decide +kernel, by decide, by decide, by decide⟩) ?_
    refine mj_all_cons 13 rfl (trivial) ?_
    refine mj_all_cons 14 rfl (trivial) ?_
    refine mj_all_cons 15 rfl (trivial) ?_
    refine mj_all_cons 16 rfl (trivial) ?_
    refine mj_all_cons 17 rfl (trivial) ?_
    refine mj_all_cons 18 rfl (trivial) ?_
    refine mj_all_cons 19 rfl (trivial) ?_
    refine mj_all_cons 20 rfl (trivial) ?_
    refine mj_all_cons 21 rfl (trivial) ?_
    refine mj_all_cons 22 rfl (trivial) ?_
    refine mj_all_cons 23 rfl (trivial) ?_
    refine mj_all_cons 24 rfl (trivial) ?_
    refine mj_all_cons 25 rfl (trivial) ?_
    refine mj_all_cons 26 rfl (trivial) ?_
    refine mj_all_cons 27 rfl (trivial) ?_
    refine mj_all_cons 28 rfl (trivial) ?_
    refine mj_all_cons 29 rfl (trivial) ?_
    refine mj_all_cons 30 rfl (trivial) ?_
    refine mj_all_cons 31 rfl (trivial) ?_
    refine mj_all_cons 32 rfl (trivial) ?_
    refine mj_all_cons 33 rfl (trivial) ?_
    refine mj_all_cons 34 rfl (trivial) ?_
    refine mj_all_cons 35 rfl (trivial) ?_
    refine mj_all_cons 36 rfl (trivial) ?_
    refine mj_all_cons 37 rfl (trivial) ?_
    refine mj_all_cons 38 rfl (trivial) ?_
    refine mj_all_cons 39 rfl (trivial) ?_
    refine mj_all_cons 40 rfl (trivial) ?_
    refine mj_all_cons 41 rfl (trivial) ?_
    refine mj_all_cons 42 rfl (trivial) ?_
    refine mj_all_cons 43 rfl (trivial) ?_
    refine mj_all_cons 44 rfl (trivial) ?_
    refine mj_all_cons 45 rfl (trivial) ?_
    refine mj_all_cons 46 rfl (trivial) ?_
    refine mj_all_cons 47 rfl (trivial) ?_
    refine mj_all_cons 48 rfl (trivial) ?_
    refine mj_all_cons 49 rfl (trivial) ?_
    refine mj_all_cons 50 rfl (trivial) ?_
    refine mj_all_cons 51 rfl (trivial) ?_
    refine mj_all_cons 52 rfl (trivial) ?_
    refine mj_all_cons 53 rfl (trivial) ?_
    refine mj_all_cons 54 rfl (trivial) ?_
    refine mj_all_cons 55 rfl (trivial) ?_
    refine mj_all_cons 56 rfl (trivial) ?_
    refine mj_all_cons 57 rfl (trivial) ?_
    refine mj_all_cons 58 rfl (trivial) ?_
    refine mj_all_cons 59 rfl (trivial) ?_
    refine mj_all_cons 60 rfl (trivial) ?_
    refine mj_all_cons 61 rfl (trivial) ?_
    refine mj_all_cons 62 rfl (trivial) ?_
    refine mj_all_cons 63 rfl (trivial) ?_
    refine mj_all_cons 64 rfl (trivial) ?_
    refine mj_all_cons 65 rfl (trivial) ?_
    refine mj_all_cons 66 rfl (trivial) ?_
    refine mj_all_cons 67 rfl (trivial) ?_
    refine mj_all_cons 68 rfl (trivial) ?_
    refine mj_all_cons 69 rfl (trivial) ?_
    refine mj_all_cons 70 rfl (trivial) ?_
    refine mj_all_cons 71 rfl (trivial) ?_
    refine mj_all_cons 72 rfl (trivial) ?_
    refine mj_all_cons 73 rfl (trivial) ?_
    refine mj_all_cons 74 rfl (trivial) ?_
    refine mj_all_cons 75 rfl (trivial) ?_
    refine mj_all_cons 76 rfl (trivial) ?_
    refine mj_all_cons 77 rfl (trivial) ?_
    refine mj_all_cons 78 rfl (trivial) ?_
    refine mj_all_cons 79 rfl (trivial) ?_
    refine mj_all_cons 80 rfl (trivial) ?_
    refine mj_all_cons 81 rfl (trivial) ?_
    refine mj_all_cons 82 rfl (trivial) ?_
    refine mj_all_cons 83 rfl (trivial) ?_
    refine mj_all_cons 84 rfl (trivial) ?_
    refine mj_all_cons 85 rfl (trivial) ?_
    refine mj_all_cons 86 rfl (trivial) ?_
    refine mj_all_cons 87 rfl (trivial) ?_
    refine mj_all_cons 88 rfl (trivial) ?_
    refine mj_all_cons 89 rfl (trivial) ?_
    refine mj_all_cons 90 rfl (trivial) ?_
    refine mj_all_cons 91 rfl (trivial) ?_
    refine mj_all_cons 92 rfl (trivial) ?_
    refine mj_all_cons 93 rfl (trivial) ?_
    refine mj_all_cons 94 rfl (trivial) ?_
    refine mj_all_cons 95 rfl (trivial) ?_
    refine mj_all_cons 96 rfl (trivial) ?_
    refine mj_all_cons 97 rfl (trivial) ?_
    refine mj_all_cons 98 rfl (trivial) ?_
    refine mj_all_cons 99 rfl (trivial) ?_
    refine mj_all_cons 100 rfl (trivial) ?_
    refine mj_all_cons 101 rfl (trivial) ?_
    refine mj_all_cons 102 rfl (trivial) ?_
    refine mj_all_cons 103 rfl (trivial) ?_
    refine mj_all_cons 104 rfl (trivial) ?_
    refine mj_all_cons 105 rfl (trivial) ?_
    refine mj_all_cons 106 rfl (trivial) ?_
    refine mj_all_cons 107 rfl (trivial) ?_
    refine mj_all_cons 108 rfl (trivial) ?_
    refine mj_all_cons 109 rfl (trivial) ?_
    refine mj_all_cons 110 rfl (trivial) ?_
    refine mj_all_cons 111 rfl (trivial) ?_
    refine mj_all_cons 112 rfl (trivial) ?_
    refine mj_all_cons 113 rfl (trivial) ?_
    refine mj_all_cons 114 rfl (trivial) ?_
    refine mj_all_cons 115 rfl (trivial) ?_
    refine mj_all_cons 116 rfl (trivial) ?_
    refine mj_all_cons 117 rfl (trivial) ?_
    refine mj_all_cons 118 rfl (trivial) ?_
    refine mj_all_cons 119 rfl (trivial) ?_
    refine mj_all_cons 120 rfl (trivial) ?_
    refine mj_all_cons 121 rfl (trivial) ?_
    refine mj_all_cons 122 rfl (trivial) ?_
    refine mj_all_cons 123 rfl (trivial) ?_
    refine mj_all_cons 124 rfl (trivial) ?_
    refine mj_all_cons 125 rfl (trivial) ?_
    refine mj_all_cons 126 rfl (trivial) ?_
    refine mj_all_cons 127 rfl (trivial) ?_
    refine mj_all_cons 128 rfl (trivial) ?_
    refine mj_all_cons 129 rfl (trivial) ?_
    refine mj_all_cons 130 rfl (trivial) ?_
    refine mj_all_cons 131 rfl (trivial) ?_
    refine mj_all_cons 132 rfl (trivial) ?_
    refine mj_all_cons 133 rfl (Or.inl ⟨0, by decide +kernel, rfl, rfl⟩) ?_
    refine mj_all_cons 134 rfl (⟨mjcM92, 78, 0, rfl, by decide, mjcd92, mw_14, Or.inl ⟨7, mjF7, 14, by decide +kernel, rfl, rfl, rfl, mw_756, mw_758, mjsel_34⟩⟩) ?_
    refine mj_all_cons 135 rfl (trivial) ?_
    refine mj_all_cons 136 rfl (trivial) ?_
    refine mj_all_cons 137 rfl (show _ = _ from by decide +kernel) ?_
    refine mj_all_cons 138 rfl (Or.inl ⟨0, by decide +kernel, rfl, rfl⟩) ?_
    refine mj_all_cons 139 rfl (Or.inl ⟨2, by decide +kernel, rfl, rfl⟩) ?_
    refine mj_all_cons 140 rfl (⟨mjcM93, 82, 1, rfl, by decide, mjcd93, mw_14, Or.inl ⟨7, mjF7, 14, by decide +kernel, rfl, rfl, rfl, mw_760, mw_762, mjsel_35⟩⟩) ?_
    refine mj_all_cons 141 rfl (trivial) ?_
    refine mj_all_cons 142 rfl (trivial) ?_
    refine mj_all_cons 143 rfl (show _ = _ from by decide +kernel) ?_
    refine mj_all_cons 144 rfl (Or.inl ⟨0, by decide +kernel, rfl, rfl⟩) ?_
    refine mj_all_cons 145 rfl (Or.inl ⟨0, by decide +kernel, rfl, rfl⟩) ?_
    refine mj_all_cons 146 rfl (Or.inl ⟨2, by decide +kernel, rfl, rfl⟩) ?_
    refine mj_all_cons 147 rfl (⟨mjcM95, 85, 1, rfl, by decide, mjcd95, mw_14, Or.inl ⟨7, mjF7, 14, by decide +kernel, rfl, rfl, rfl, mw_764, mw_766, mjsel_36⟩⟩) ?_
    refine mj_all_cons 148 rfl (trivial) ?_
    refine mj_all_cons 149 rfl (trivial) ?_
    refine mj_all_cons 150 rfl (⟨mjcM93, 82, 1, rfl, by decide, mjcd93, mw_14, Or.inl ⟨7, mjF7, 14, by decide +kernel, rfl, rfl, rfl, mw_760, mw_762, mjsel_35⟩⟩) ?_
    refine mj_all_cons 151 rfl (trivial) ?_
    refine mj_all_cons 152 rfl (trivial) ?_
    refine mj_all_cons 153 rfl (show _ = _ from by decide +kernel) ?_
    refine mj_all_cons 154 rfl (Or.inl ⟨0, by decide +kernel, rfl, rfl⟩) ?_
    refine mj_all_cons 155 rfl (Or.inl ⟨2, by decide +kernel, rfl, rfl⟩) ?_
    refine mj_all_cons 156 rfl (⟨mjcM97, 88, 1, rfl, by decide, mjcd97, mw_14, Or.inl ⟨7, mjF7, 14, by decide +kernel, rfl, rfl, rfl, mw_769, mw_771, mjsel_37⟩⟩) ?_
    refine mj_all_cons 157 rfl (trivial) ?_
    refine mj_all_cons 158 rfl (trivial) ?_
    refine mj_all_cons 159 rfl (show _ = _ from by decide +kernel) ?_
    refine mj_all_cons 160 rfl (Or.inl ⟨0, by decide +kernel, rfl, rfl⟩) ?_
    refine mj_all_cons 161 rfl (Or.inl ⟨2, by decide +kernel, rfl, rfl⟩) ?_
    refine mj_all_cons 162 rfl (⟨mjcM98, 91, 1, rfl, by decide, mjcd98, mw_14, Or.inl ⟨7, mjF7, 14, by decide +kernel, rfl, rfl, rfl, mw_773, mw_775, mjsel_38⟩⟩) ?_
    refine mj_all_cons 163 rfl (trivial) ?_
    refine mj_all_cons 164 rfl (trivial) ?_
    refine mj_all_cons 165 rfl (show _ = _ from by decide +kernel) ?_
    refine mj_all_cons 166 rfl (Or.inl ⟨0, by decide +kernel, rfl, rfl⟩) ?_
    refine mj_all_cons 167 rfl (Or.inl ⟨0, by decide +kernel, rfl, rfl⟩) ?_
    refine mj_all_cons 168 rfl (Or.inl ⟨by decide +kernel, rfl⟩) ?_
    refine mj_all_cons 169 rfl (⟨mjcM94, 43, 1, rfl, by decide, mjcd94, mw_14, Or.inl ⟨7, mjF7, 14, by decide +kernel, rfl, rfl, rfl, mw_777, mw_779, mjsel_39⟩⟩) ?_
    refine mj_all_cons 170 rfl (trivial) ?_
    refine mj_all_cons 171 rfl (trivial) ?_
    refine mj_all_cons 172 rfl (Or.inr (Or.inr (Or.inr (Or.inl ⟨94, by decide +kernel, rfl, mw_768⟩)))) ?_
    refine mj_all_cons 173 rfl (trivial) ?_
    refine mj_all_cons 174 rfl (show _ = _ from by decide +kernel) ?_
    refine mj_all_cons 175 rfl (trivial) ?_
    refine mj_all_cons 176 rfl (trivial) ?_
    refine mj_all_cons 177 rfl (Or.inl ⟨by decide +kernel, rfl⟩) ?_
    refine mj_all_cons 178 rfl (show _ = _ from by decide +kernel) ?_
    refine mj_all_cons 179 rfl (trivial) ?_
    refine mj_all_cons 180 rfl (trivial) ?_
    refine mj_all_cons 181 rfl (Or.inl ⟨by decide +kernel, rfl⟩) ?_
    refine mj_all_cons 182 rfl (Or.inl ⟨2, by decide +kernel, rfl, rfl⟩) ?_
    refine mj_all_cons 183 rfl (⟨mjcM99, 95, 2, rfl, by decide, mjcd99, mw_14, Or.inl ⟨7, mjF7, 14, by decide +kernel, rfl, rfl, rfl, mw_786, mw_788, mjsel_41⟩⟩) ?_
    refine mj_all_cons 184 rfl (trivial) ?_
    refine mj_all_cons 185 rfl (trivial) ?_
    refine mj_all_cons 186 rfl (show _ = _ from by decide +kernel) ?_
    refine mj_all_cons 187 rfl (Or.inl ⟨0, by decide +kernel, rfl, rfl⟩) ?_
    refine mj_all_cons 188 rfl (Or.inl ⟨0, by decide +kernel, rfl, rfl⟩) ?_
    refine mj_all_cons 189 rfl (Or.inl ⟨by decide +kernel, rfl⟩) ?_
    refine mj_all_cons 190 rfl (⟨mjcM94, 43, 1, rfl, by decide, mjcd94, mw_14, Or.inl ⟨7, mjF7, 14, by decide +kernel, rfl, rfl, rfl, mw_777, mw_779, mjsel_39⟩⟩) ?_
    refine mj_all_cons 191 rfl (trivial) ?_
    refine mj_all_cons 192 rfl (trivial) ?_
    refine mj_all_cons 193 rfl (Or.inr (Or.inr (Or.inr (Or.inl ⟨94, by decide +kernel, rfl, mw_768⟩)))) ?_
    refine mj_all_cons 194 rfl (trivial) ?_
    refine mj_all_cons 195 rfl (show _ = _ from by decide +kernel) ?_
    refine mj_all_cons 196 rfl (trivial) ?_
    refine mj_all_cons 197 rfl (trivial) ?_
    refine mj_all_cons 198 rfl (Or.inl ⟨by decide +kernel, rfl⟩) ?_
    refine mj_all_cons 199 rfl (show _ = _ from by decide +kernel) ?_
    refine mj_all_cons 200 rfl (trivial) ?_
    refine mj_all_cons 201 rfl (trivial) ?_
    refine mj_all_cons 202 rfl (Or.inl ⟨by decide +kernel, rfl⟩) ?_
    refine mj_all_cons 203 rfl (Or.inl ⟨2, by decide +kernel, rfl, rfl⟩) ?_
    refine mj_all_cons 204 rfl (⟨mjcM99, 95, 2, rfl, by decide, mjcd99, mw_14, Or.inl ⟨7, mjF7, 14, by decide +kernel, rfl, rfl, rfl, mw_786, mw_788, mjsel_41⟩⟩) ?_
    refine mj_all_cons 205 rfl (trivial) ?_
    refine mj_all_cons 206 rfl (trivial) ?_
    refine mj_all_cons 207 rfl (show _ = _ from by decide +kernel) ?_
    refine mj_all_cons 208 rfl (Or.inl ⟨0, by decide +kernel, rfl, rfl⟩) ?_
    refine mj_all_cons 209 rfl (Or.inl ⟨2, by decide +kernel, rfl, rfl⟩) ?_
    refine mj_all_cons 210 rfl (Or.inl ⟨by decide +kernel, rfl⟩) ?_
    refine mj_all_cons 211 rfl (show _ = _ from by decide +kernel) ?_
    refine mj_all_cons 212 rfl (Or.inl ⟨0, by decide +kernel, rfl, rfl⟩) ?_
    refine mj_all_cons 213 rfl (Or.inl ⟨by decide +kernel, rfl⟩) ?_
    refine mj_all_cons 214 rfl (⟨mjcM94, 43, 1, rfl, by decide, mjcd94, mw_14, Or.inl ⟨7, mjF7, 14, by decide +kernel, rfl, rfl, rfl, mw_777, mw_779, mjsel_39⟩⟩) ?_
    refine mj_all_cons 215 rfl (trivial) ?_
    refine mj_all_cons 216 rfl (trivial) ?_
    refine mj_all_cons 217 rfl (⟨mjcM96, 99, 2, rfl, by decide, mjcd96, mw_14, Or.inl ⟨7, mjF7, 14, by decide +kernel, rfl, rfl, rfl, mw_790, mw_792, mjsel_42⟩⟩) ?_
    refine mj_all_cons 218 rfl (trivial) ?_
    refine mj_all_cons 219 rfl (trivial) ?_
    refine mj_all_cons 220 rfl (show _ = _ from by decide +kernel) ?_
    refine mj_all_cons 221 rfl (Or.inl ⟨0, by decide +kernel, rfl, rfl⟩) ?_
    refine mj_all_cons 222 rfl (Or.inl ⟨2, by decide +kernel, rfl, rfl⟩) ?_
    refine mj_all_cons 223 rfl (Or.inl ⟨3, by decide +kernel, rfl, rfl⟩) ?_
    refine mj_all_cons 224 rfl (⟨mjcM107, 103, 2, rfl, by decide, mjcd107, mw_14, Or.inl ⟨7, mjF7, 14, by decide +kernel, rfl, rfl, rfl, mw_794, mw_796, mjsel_43⟩⟩) ?_
    refine mj_all_cons 225 rfl (trivial) ?_
    refine mj_all_cons 226 rfl (trivial) ?_
    refine mj_all_cons 227 rfl (show _ = _ from by decide +kernel) ?_
    refine mj_all_cons 228 rfl (Or.inl ⟨0, by decide +kernel, rfl, rfl⟩) ?_
    refine mj_all_cons 229 rfl (Or.inl ⟨2, by decide +kernel, rfl, rfl⟩) ?_
    refine mj_all_cons 230 rfl (Or.inl ⟨3, by decide +kernel, rfl, rfl⟩) ?_
    refine mj_all_cons 231 rfl (⟨mjcM108, 106, 2, rfl, by decide, mjcd108, mw_14, Or.inl ⟨7, mjF7, 14, by decide +kernel, rfl, rfl, rfl, mw_810, mw_812, mjsel_45⟩⟩) ?_
    refine mj_all_cons 232 rfl (trivial) ?_
    refine mj_all_cons 233 rfl (trivial) ?_
    refine mj_all_cons 234 rfl (show _ = _ from by decide +kernel) ?_
    refine mj_all_cons 235 rfl (Or.inl ⟨0, by decide +kernel, rfl, rfl⟩) ?_
    refine mj_all_cons 236 rfl (⟨mjcM110, 109, 0, rfl, by decide, mjcd110, mw_14, Or.inl ⟨7, mjF7, 14, by decide +kernel, rfl, rfl, rfl, mw_815, mw_817, mjsel_46⟩⟩) ?_
    refine mj_all_cons 237 rfl (trivial) ?_
    refine mj_all_cons 238 rfl (trivial) ?_
    refine mj_all_cons 239 rfl (show _ = _ from by decide +kernel) ?_
    refine mj_all_cons 240 rfl (Or.inl ⟨0, by decide +kernel, rfl, rfl⟩) ?_
    refine mj_all_cons 241 rfl (⟨mjcM101, 112, 0, rfl, by decide, mjcd101, mw_14, Or.inl ⟨7, mjF7, 14, by decide +kernel, rfl, rfl, rfl, mw_819, mw_821, mjsel_47⟩⟩) ?_
    refine mj_all_cons 242 rfl (trivial) ?_
    refine mj_all_cons 243 rfl (trivial) ?_
    refine mj_all_cons 244 rfl (show _ = _ from by decide +kernel) ?_
    refine mj_all_cons 245 rfl (Or.inl ⟨0, by decide +kernel, rfl, rfl⟩) ?_
    refine mj_all_cons 246 rfl (⟨mjcM106, 115, 0, rfl, by decide, mjcd106, mw_14, Or.inl ⟨7, mjF7, 14, by decide +kernel, rfl, rfl, rfl, mw_843, mw_845, mjsel_50⟩⟩) ?_
    refine mj_all_cons 247 rfl (trivial) ?_
    refine mj_all_cons 248 rfl (trivial) ?_
    refine mj_all_cons 249 rfl (show _ = _ from by decide +kernel) ?_
    refine mj_all_cons 250 rfl (Or.inl ⟨0, by decide +kernel, rfl, rfl⟩) ?_
    refine mj_all_cons 251 rfl (⟨mjcM105, 118, 0, rfl, by decide, mjcd105, mw_14, Or.inl ⟨7, mjF7, 14, by decide +kernel, rfl, rfl, rfl, mw_856, mw_858, mjsel_51⟩⟩) ?_
    refine mj_all_cons 252 rfl (trivial) ?_
    refine mj_all_cons 253 rfl (trivial) ?_
    refine mj_all_cons 254 rfl (show _ = _ from by decide +kernel) ?_
    refine mj_all_cons 255 rfl (Or.inl ⟨0, by decide +kernel, rfl, rfl⟩) ?_
    refine mj_all_cons 256 rfl (Or.inl ⟨1, by decide +kernel, rfl, rfl⟩) ?_
    refine mj_all_cons 257 rfl (⟨mjcM102, 121, 1, rfl, by decide, mjcd102, mw_14, Or.inl ⟨7, mjF7, 14, by decide +kernel, rfl, rfl, rfl, mw_865, mw_867, mjsel_52⟩⟩) ?_
    refine mj_all_cons 258 rfl (trivial) ?_
    refine mj_all_cons 259 rfl (trivial) ?_
    refine mj_all_cons 260 rfl (show _ = _ from by decide +kernel) ?_
    exact trivial
  intro pc o ho
  have := mj_all_get _ 0 h pc o ho
  rw [Nat.zero_add] at this
  exact this
set_option maxRecDepth 100000 in
theorem mjci92 : ∀ (pc : Nat) (o : mj_O), mjco92[pc]? = some o → mj_is mj_kl mjcM92.1.cls mj_WS mj_NWs mjc_Ms mjcM92.2.1 pc o := by
  have h : mj_all (mj_is mj_kl mjcM92.1.cls mj_WS mj_NWs mjc_Ms mjcM92.2.1) 0 mjco92 := by
    unfold mjco92
    refine mj_all_cons 1 rfl (Or.inl ⟨0, by decide +kernel, rfl, rfl⟩) ?_
    refine mj_all_cons 2 rfl (⟨36, "ListSpeaker$Machine", mjF7, 14, by decide +kernel, rfl, by decide, mw_270, mjw7⟩) ?_
    refine mj_all_cons 3 rfl (trivial) ?_
    refine mj_all_cons 4 rfl (trivial) ?_
    refine mj_all_cons 5 rfl (Or.inl ⟨0, by decide +kernel, rfl, rfl⟩) ?_
    refine mj_all_cons 6 rfl (⟨47, "ListSpeaker$Machine", mjF7, 14, by decide +kernel, rfl, by decide, mw_269, mjw7⟩) ?_
    refine mj_all_cons 7 rfl (trivial) ?_
    refine mj_all_cons 8 rfl (trivial) ?_
    refine mj_all_cons 9 rfl (show _ = _ from by decide +kernel) ?_
    refine mj_all_cons 10 rfl (trivial) ?_
    refine mj_all_cons 11 rfl (trivial) ?_
    refine mj_all_cons 12 rfl (Or.inl ⟨by decide +kernel, rfl⟩) ?_
    refine mj_all_cons 13 rfl (show _ = _ from by decide +kernel) ?_
    refine mj_all_cons 14 rfl (Or.inl ⟨0, by decide +kernel, rfl, rfl⟩) ?_
    refine mj_all_cons 15 rfl (show _ = _ from by decide +kernel) ?_
    refine mj_all_cons 16 rfl (⟨36, "ListSpeaker$Machine", mjF7, 14, by decide +kernel, rfl, by decide, mw_270, mjw7⟩) ?_
    refine mj_all_cons 17 rfl (trivial) ?_
    refine mj_all_cons 18 rfl (trivial) ?_
    refine mj_all_cons 19 rfl (Or.inl ⟨by decide +kernel, rfl⟩) ?_
    refine mj_all_cons 20 rfl (show _ = _ from by decide +kernel) ?_
    refine mj_all_cons 21 rfl (⟨36, "ListSpeaker$Machine", mjF7, 14, mjt7, by decide +kernel, rfl, by decide, mw_270, mjw7, mjk7, mjn7, rfl, by decide +kernel⟩) ?_
    refine mj_all_cons 22 rfl (trivial) ?_
    refine mj_all_cons 23 rfl (trivial) ?_
    refine mj_all_cons 24 rfl (Or.inl ⟨by decide +kernel, rfl⟩) ?_
    refine mj_all_cons 25 rfl (show _ = _ from by decide +kernel) ?_
    exact trivial
  intro pc o ho
  have := mj_all_get _ 0 h pc o ho
  rw [Nat.zero_add] at this
  exact this
set_option maxRecDepth 100000 in
theorem mjci93 : ∀ (pc : Nat) (o : mj_O), mjco93[pc]? = some o → mj_is mj_kl mjcM93.1.cls mj_WS mj_NWs mjc_Ms mjcM93.2.1 pc o := by
  have h : mj_all (mj_is mj_kl mjcM93.1.cls mj_WS mj_NWs mjc_Ms mjcM93.2.1) 0 mjco93 := by
    unfold mjco93
    refine mj_all_cons 1 rfl (Or.inl ⟨0, by decide +kernel, rfl, rfl⟩) ?_
    refine mj_all_cons 2 rfl (⟨53, "ListSpeaker$Machine", mjF7, 14, by decide +kernel, rfl, by decide, mw_265, mjw7⟩) ?_
    refine mj_all_cons 3 rfl (trivial) ?_
    refine mj_all_cons 4 rfl (trivial) ?_
    refine mj_all_cons 5 rfl (show _ = _ from by decide +kernel) ?_
    refine mj_all_cons 6 rfl (trivial) ?_
    refine mj_all_cons 7 rfl (trivial) ?_
    refine mj_all_cons 8 rfl (Or.inl ⟨0, by decide +kernel, rfl, rfl⟩) ?_
    refine mj_all_cons 9 rfl (⟨53, "ListSpeaker$Machine", mjF7, 14, by decide +kernel, rfl, by decide, mw_265, mjw7⟩) ?_
    refine mj_all_cons 10 rfl (trivial) ?_
    refine mj_all_cons 11 rfl (trivial) ?_
    refine mj_all_cons 12 rfl (Or.inr (Or.inl ⟨by decide +kernel, rfl, by decide⟩)) ?_
    refine mj_all_cons 13 rfl (trivial) ?_
    refine mj_all_cons 14 rfl (show _ = _ from by decide +kernel) ?_
    refine mj_all_cons 15 rfl (trivial) ?_
    refine mj_all_cons 16 rfl (trivial) ?_
    refine mj_all_cons 17 rfl (Or.inr (Or.inl ⟨by decide +kernel, rfl, by decide⟩)) ?_
    refine mj_all_cons 18 rfl (trivial) ?_
    refine mj_all_cons 19 rfl (show _ = _ from by decide +kernel) ?_
    refine mj_all_cons 20 rfl (Or.inl ⟨0, by decide +kernel, rfl, rfl⟩) ?_
    refine mj_all_cons 21 rfl (⟨9, "ListSpeaker$Machine", mjF7, 14, by decide +kernel, rfl, by decide, mw_261, mjw7⟩) ?_
    refine mj_all_cons 22 rfl (trivial) ?_
    refine mj_all_cons 23 rfl (trivial) ?_
    refine mj_all_cons 24 rfl (Or.inl ⟨0, by decide +kernel, rfl, rfl⟩) ?_
    refine mj_all_cons 25 rfl (⟨53, "ListSpeaker$Machine", mjF7, 14, by decide +kernel, rfl, by decide, mw_265, mjw7⟩) ?_
    refine mj_all_cons 26 rfl (trivial) ?_
    refine mj_all_cons 27 rfl (trivial) ?_
    refine mj_all_cons 28 rfl (Or.inl ⟨1, by decide +kernel, rfl, rfl⟩) ?_
    refine mj_all_cons 29 rfl (show _ = _ from by decide +kernel) ?_
    refine mj_all_cons 30 rfl (Or.inl ⟨0, by decide +kernel, rfl, rfl⟩) ?_
    refine mj_all_cons 31 rfl (show _ = _ from by decide +kernel) ?_
    refine mj_all_cons 32 rfl (⟨53, "ListSpeaker$Machine", mjF7, 14, by decide +kernel, rfl, by decide, mw_265, mjw7⟩) ?_
    refine mj_all_cons 33 rfl (trivial) ?_
    refine mj_all_cons 34 rfl (trivial) ?_
    refine mj_all_cons 35 rfl (Or.inl ⟨by decide +kernel, rfl⟩) ?_
    refine mj_all_cons 36 rfl (show _ = _ from by decide +kernel) ?_
    refine mj_all_cons 37 rfl (⟨53, "ListSpeaker$Machine", mjF7, 14, mjt7, by decide +kernel, rfl, by decide, mw_265, mjw7, mjk7, mjn7, rfl, by decide +kernel⟩) ?_
    refine mj_all_cons 38 rfl (trivial) ?_
    refine mj_all_cons 39 rfl (trivial) ?_
    refine mj_all_cons 40 rfl (Or.inl ⟨0, by decide +kernel, rfl, rfl⟩) ?_
    refine mj_all_cons 41 rfl (⟨53, "ListSpeaker$Machine", mjF7, 14, by decide +kernel, rfl, by decide, mw_265, mjw7⟩) ?_
    refine mj_all_cons 42 rfl (trivial) ?_
    refine mj_all_cons 43 rfl (trivial) ?_
    refine mj_all_cons 44 rfl (Or.inl ⟨0, by decide +kernel, rfl, rfl⟩) ?_
    refine mj_all_cons 45 rfl (⟨40, "ListSpeaker$Machine", mjF7, 14, by decide +kernel, rfl, by decide, mw_271, mjw7⟩) ?_
    refine mj_all_cons 46 rfl (trivial) ?_
    refine mj_all_cons 47 rfl (trivial) ?_
    refine mj_all_cons 48 rfl (show _ = _ from by decide +kernel) ?_
    refine mj_all_cons 49 rfl (trivial) ?_
    refine mj_all_cons 50 rfl (trivial) ?_
    refine mj_all_cons 51 rfl (Or.inl ⟨0, by decide +kernel, rfl, rfl⟩) ?_
    refine mj_all_cons 52 rfl (Or.inl ⟨0, by decide +kernel, rfl, rfl⟩) ?_
    refine mj_all_cons 53 rfl (⟨53, "ListSpeaker$Machine", mjF7, 14, by decide +kernel, rfl, by decide, mw_265, mjw7⟩) ?_
    refine mj_all_cons 54 rfl (trivial) ?_
    refine mj_all_cons 55 rfl (trivial) ?_
    refine mj_all_cons 56 rfl (⟨40, "ListSpeaker$Machine", mjF7, 14, mjt7, by decide +kernel, rfl, by decide, mw_271, mjw7, mjk7, mjn7, rfl, by decide +kernel⟩) ?_
    refine mj_all_cons 57 rfl (trivial) ?_
    refine mj_all_cons 58 rfl (trivial) ?_
    refine mj_all_cons 59 rfl (Or.inl ⟨by decide +kernel, rfl⟩) ?_
    refine mj_all_cons 60 rfl (show _ = _ from by decide +kernel) ?_
    exact trivial
  intro pc o ho
  have := mj_all_get _ 0 h pc o ho
  rw [Nat.zero_add] at this
  exact this
set_option maxRecDepth 100000 in
theorem mjci94 : ∀ (pc : Nat) (o : mj_O), mjco94[pc]? = some o → mj_is mj_kl mjcM94.1.cls mj_WS mj_NWs mjc_Ms mjcM94.2.1 pc o := by
  have h : mj_all (mj_is mj_kl mjcM94.1.cls mj_WS mj_NWs mjc_Ms mjcM94.2.1) 0 mjco94 := by
    unfold mjco94
    refine mj_all_cons 1 rfl (Or.inl ⟨0, by decide +kernel, rfl, rfl⟩) ?_
    refine mj_all_cons 2 rfl (⟨53, "ListSpeaker$Machine", mjF7, 14, by decide +kernel, rfl, by decide, mw_265, mjw7⟩) ?_
    refine mj_all_cons 3 rfl (trivial) ?_
    refine mj_all_cons 4 rfl (trivial) ?_
    refine mj_all_cons 5 rfl (Or.inl ⟨by decide +kernel, rfl⟩) ?_
    refine mj_all_cons 6 rfl (show _ = _ from by decide +kernel) ?_
    refine mj_all_cons 7 rfl (Or.inl ⟨1, by decide +kernel, rfl, rfl⟩) ?_
    refine mj_all_cons 8 rfl (show _ = _ from by decide +kernel) ?_
    refine mj_all_cons 9 rfl (Or.inl ⟨2, by decide +kernel, rfl, rfl⟩) ?_
    refine mj_all_cons 10 rfl (Or.inl ⟨2, by decide +kernel, rfl, rfl⟩) ?_
    refine mj_all_cons 11 rfl (show _ = _ from by decide +kernel) ?_
    refine mj_all_cons 12 rfl (trivial) ?_
    refine mj_all_cons 13 rfl (trivial) ?_
    refine mj_all_cons 14 rfl (Or.inl ⟨2, by decide +kernel, rfl, rfl⟩) ?_
    refine mj_all_cons 15 rfl (Or.inr (Or.inl ⟨by decide +kernel, rfl, by decide⟩)) ?_
    refine mj_all_cons 16 rfl (trivial) ?_
    refine mj_all_cons 17 rfl (show _ = _ from by decide +kernel) ?_
    refine mj_all_cons 18 rfl (trivial) ?_
    refine mj_all_cons 19 rfl (trivial) ?_
    refine mj_all_cons 20 rfl (Or.inl ⟨0, by decide +kernel, rfl, rfl⟩) ?_
    refine mj_all_cons 21 rfl (⟨9, "ListSpeaker$Machine", mjF7, 14, by decide +kernel, rfl, by decide, mw_261, mjw7⟩) ?_
    refine mj_all_cons 22 rfl (trivial) ?_
    refine mj_all_cons 23 rfl (trivial) ?_
    refine mj_all_cons 24 rfl (Or.inl ⟨2, by decide +kernel, rfl, rfl⟩) ?_
    refine mj_all_cons 25 rfl (show _ = _ from by decide +kernel) ?_
    refine mj_all_cons 26 rfl (show _ = _ from by decide +kernel) ?_
    refine mj_all_cons 27 rfl (trivial) ?_
    refine mj_all_cons 28 rfl (trivial) ?_
    refine mj_all_cons 29 rfl (Or.inr (Or.inr (Or.inr (Or.inl ⟨94, by decide +kernel, rfl, mw_768⟩)))) ?_
    refine mj_all_cons 30 rfl (trivial) ?_
    refine mj_all_cons 31 rfl (show _ = _ from by decide +kernel) ?_
    exact trivial
  intro pc o ho
  have := mj_all_get _ 0 h pc o ho
  rw [Nat.zero_add] at this
  exact this
set_option maxRecDepth 100000 in
theorem mjci95 : ∀ (pc : Nat) (o : mj_O), mjco95[pc]? = some o → mj_is mj_kl mjcM95.1.cls mj_WS mj_NWs mjc_Ms mjcM95.2.1 pc o := by
  have h : mj_all (mj_is mj_kl mjcM95.1.cls mj_WS mj_NWs mjc_Ms mjcM95.2.1) 0 mjco95 := by
    unfold mjco95
    refine mj_all_cons 1 rfl (Or.inl ⟨0, by decide +kernel, rfl, rfl⟩) ?_
    refine mj_all_cons 2 rfl (⟨56, "ListSpeaker$Machine", mjF7, 14, by decide +kernel, rfl, by decide, mw_266, mjw7⟩) ?_
    refine mj_all_cons 3 rfl (trivial) ?_
    refine mj_all_cons 4 rfl (trivial) ?_
    refine mj_all_cons 5 rfl (Or.inl ⟨1, by decide +kernel, rfl, rfl⟩) ?_
    refine mj_all_cons 6 rfl (show _ = _ from by decide +kernel) ?_
    refine mj_all_cons 7 rfl (Or.inl ⟨2, by decide +kernel, rfl, rfl⟩) ?_
    refine mj_all_cons 8 rfl (Or.inl ⟨2, by decide +kernel, rfl, rfl⟩) ?_
    refine mj_all_cons 9 rfl (show _ = _ from by decide +kernel) ?_
    refine mj_all_cons 10 rfl (trivial) ?_
    refine mj_all_cons 11 rfl (trivial) ?_
    refine mj_all_cons 12 rfl (Or.inl ⟨2, by decide +kernel, rfl, rfl⟩) ?_
    refine mj_all_cons 13 rfl (Or.inr (Or.inl ⟨by decide +kernel, rfl, by decide⟩)) ?_
    refine mj_all_cons 14 rfl (trivial) ?_
    refine mj_all_cons 15 rfl (show _ = _ from by decide +kernel) ?_
    refine mj_all_cons 16 rfl (trivial) ?_
    refine mj_all_cons 17 rfl (trivial) ?_
    refine mj_all_cons 18 rfl (Or.inl ⟨0, by decide +kernel, rfl, rfl⟩) ?_
    refine mj_all_cons 19 rfl (⟨9, "ListSpeaker$Machine", mjF7, 14, by decide +kernel, rfl, by decide, mw_261, mjw7⟩) ?_
    refine mj_all_cons 20 rfl (trivial) ?_
    refine mj_all_cons 21 rfl (trivial) ?_
    refine mj_all_cons 22 rfl (Or.inl ⟨2, by decide +kernel, rfl, rfl⟩) ?_
    refine mj_all_cons 23 rfl (show _ = _ from by decide +kernel) ?_
    refine mj_all_cons 24 rfl (show _ = _ from by decide +kernel) ?_
    refine mj_all_cons 25 rfl (trivial) ?_
    refine mj_all_cons 26 rfl (trivial) ?_
    refine mj_all_cons 27 rfl (Or.inr (Or.inr (Or.inr (Or.inl ⟨94, by decide +kernel, rfl, mw_768⟩)))) ?_
    refine mj_all_cons 28 rfl (trivial) ?_
    refine mj_all_cons 29 rfl (show _ = _ from by decide +kernel) ?_
    exact trivial
  intro pc o ho
  have := mj_all_get _ 0 h pc o ho
  rw [Nat.zero_add] at this
  exact this
set_option maxRecDepth 100000 in
theorem mjci96 : ∀ (pc : Nat) (o : mj_O), mjco96[pc]? = some o → mj_is mj_kl mjcM96.1.cls mj_WS mj_NWs mjc_Ms mjcM96.2.1 pc o := by
  have h : mj_all (mj_is mj_kl mjcM96.1.cls mj_WS mj_NWs mjc_Ms mjcM96.2.1) 0 mjco96 := by
    unfold mjco96
    refine mj_all_cons 1 rfl (Or.inl ⟨0, by decide +kernel, rfl, rfl⟩) ?_
    refine mj_all_cons 2 rfl (Or.inl ⟨by decide +kernel, rfl⟩) ?_
    refine mj_all_cons 3 rfl (Or.inl ⟨0, by decide +kernel, rfl, rfl⟩) ?_
    refine mj_all_cons 4 rfl (⟨53, "ListSpeaker$Machine", mjF7, 14, by decide +kernel, rfl, by decide, mw_265, mjw7⟩) ?_
    refine mj_all_cons 5 rfl (trivial) ?_
    refine mj_all_cons 6 rfl (trivial) ?_
    refine mj_all_cons 7 rfl (Or.inl ⟨1, by decide +kernel, rfl, rfl⟩) ?_
    refine mj_all_cons 8 rfl (show _ = _ from by decide +kernel) ?_
    refine mj_all_cons 9 rfl (⟨124, by decide +kernel, mw_785, mw_117, mw_9, mw_118⟩) ?_
    refine mj_all_cons 10 rfl (trivial) ?_
    refine mj_all_cons 11 rfl (trivial) ?_
    refine mj_all_cons 12 rfl (⟨53, "ListSpeaker$Machine", mjF7, 14, mjt7, by decide +kernel, rfl, by decide, mw_265, mjw7, mjk7, mjn7, rfl, by decide +kernel⟩) ?_
    refine mj_all_cons 13 rfl (trivial) ?_
    refine mj_all_cons 14 rfl (trivial) ?_
    refine mj_all_cons 15 rfl (Or.inl ⟨0, by decide +kernel, rfl, rfl⟩) ?_
    refine mj_all_cons 16 rfl (Or.inl ⟨2, by decide +kernel, rfl, rfl⟩) ?_
    refine mj_all_cons 17 rfl (⟨mjcM93, 82, 1, rfl, by decide, mjcd93, mw_14, Or.inl ⟨7, mjF7, 14, by decide +kernel, rfl, rfl, rfl, mw_760, mw_762, mjsel_35⟩⟩) ?_
    refine mj_all_cons 18 rfl (trivial) ?_
    refine mj_all_cons 19 rfl (trivial) ?_
    refine mj_all_cons 20 rfl (show _ = _ from by decide +kernel) ?_
    exact trivial
  intro pc o ho
  have := mj_all_get _ 0 h pc o ho
  rw [Nat.zero_add] at this
  exact this
set_option maxRecDepth 100000 in
theorem mjci97 : ∀ (pc : Nat) (o : mj_O), mjco97[pc]? = some o → mj_is mj_kl mjcM97.1.cls mj_WS mj_NWs mjc_Ms mjcM97.2.1 pc o := by
  have h : mj_all (mj_is mj_kl mjcM97.1.cls mj_WS mj_NWs mjc_Ms mjcM97.2.1) 0 mjco97 := by
    unfold mjco97
    refine mj_all_cons 1 rfl (Or.inl ⟨0, by decide +kernel, rfl, rfl⟩) ?_
    refine mj_all_cons 2 rfl (Or.inl ⟨1, by decide +kernel, rfl, rfl⟩) ?_
    refine mj_all_cons 3 rfl (⟨50, "ListSpeaker$Machine", mjF7, 14, mjt7, by decide +kernel, rfl, by decide, mw_268, mjw7, mjk7, mjn7, rfl, by decide +kernel⟩) ?_
    refine mj_all_cons 4 rfl (trivial) ?_
    refine mj_all_cons 5 rfl (trivial) ?_
    refine mj_all_cons 6 rfl (Or.inl ⟨by decide +kernel, rfl⟩) ?_
    refine mj_all_cons 7 rfl (show _ = _ from by decide +kernel) ?_
    exact trivial
  intro pc o ho
  have := mj_all_get _ 0 h pc o ho
  rw [Nat.zero_add] at this
  exact this
set_option maxRecDepth 100000 in
theorem mjci98 : ∀ (pc : Nat) (o : mj_O), mjco98[pc]? = some o → mj_is mj_kl mjcM98.1.cls mj_WS mj_NWs mjc_Ms mjcM98.2.1 pc o := by
  have h : mj_all (mj_is mj_kl mjcM98.1.cls mj_WS mj_NWs mjc_Ms mjcM98.2.1) 0 mjco98 := by
    unfold mjco98
    refine mj_all_cons 1 rfl (Or.inl ⟨0, by decide +kernel, rfl, rfl⟩) ?_
    refine mj_all_cons 2 rfl (Or.inl ⟨by decide +kernel, rfl⟩) ?_
    refine mj_all_cons 3 rfl (⟨mjcM94, 43, 1, rfl, by decide, mjcd94, mw_14, Or.inl ⟨7, mjF7, 14, by decide +kernel, rfl, rfl, rfl, mw_777, mw_779, mjsel_39⟩⟩) ?_
    refine mj_all_cons 4 rfl (trivial) ?_
    refine mj_all_cons 5 rfl (trivial) ?_
    refine mj_all_cons 6 rfl (Or.inr (Or.inr (Or.inr (Or.inl ⟨94, by decide +kernel, rfl, mw_768⟩)))) ?_
    refine mj_all_cons 7 rfl (trivial) ?_
    refine mj_all_cons 8 rfl (show _ = _ from by decide +kernel) ?_
    refine mj_all_cons 9 rfl (trivial) ?_
    refine mj_all_cons 10 rfl (trivial) ?_
    refine mj_all_cons 11 rfl (Or.inl ⟨by decide +kernel, rfl⟩) ?_
    refine mj_all_cons 12 rfl (show _ = _ from by decide +kernel) ?_
    refine mj_all_cons 13 rfl (trivial) ?_
    refine mj_all_cons 14 rfl (trivial) ?_
    refine mj_all_cons 15 rfl (Or.inl ⟨by decide +kernel, rfl⟩) ?_
    refine mj_all_cons 16 rfl (Or.inl ⟨2, by decide +kernel, rfl, rfl⟩) ?_
    refine mj_all_cons 17 rfl (Or.inl ⟨0, by decide +kernel, rfl, rfl⟩) ?_
    refine mj_all_cons 18 rfl (⟨mjcM100, 129, 0, rfl, by decide, mjcd100, mw_14, Or.inl ⟨7, mjF7, 14, by decide +kernel, rfl, rfl, rfl, mw_781, mw_783, mjsel_40⟩⟩) ?_
    refine mj_all_cons 19 rfl (trivial) ?_
    refine mj_all_cons 20 rfl (trivial) ?_
    refine mj_all_cons 21 rfl (Or.inl ⟨2, by decide +kernel, rfl, rfl⟩) ?_
    refine mj_all_cons 22 rfl (show _ = _ from by decide +kernel) ?_
    refine mj_all_cons 23 rfl (trivial) ?_
    refine mj_all_cons 24 rfl (trivial) ?_
    refine mj_all_cons 25 rfl (Or.inl ⟨0, by decide +kernel, rfl, rfl⟩) ?_
    refine mj_all_cons 26 rfl (Or.inl ⟨1, by decide +kernel, rfl, rfl⟩) ?_
    refine mj_all_cons 27 rfl (⟨mjcM97, 88, 1, rfl, by decide, mjcd97, mw_14, Or.inl ⟨7, mjF7, 14, by decide +kernel, rfl, rfl, rfl, mw_769, mw_771, mjsel_37⟩⟩) ?_
    refine mj_all_cons 28 rfl (trivial) ?_
    refine mj_all_cons 29 rfl (trivial) ?_
    refine mj_all_cons 30 rfl (show _ = _ from by decide +kernel) ?_
    refine mj_all_cons 31 rfl (trivial) ?_
    refine mj_all_cons 32 rfl (trivial) ?_
    refine mj_all_cons 33 rfl (Or.inl ⟨by decide +kernel, rfl⟩) ?_
    refine mj_all_cons 34 rfl (show _ = _ from by decide +kernel) ?_
    exact trivial
  intro pc o ho
  have := mj_all_get _ 0 h pc o ho
  rw [Nat.zero_add] at this
  exact this
set_option maxRecDepth 100000 in
theorem mjci99 : ∀ (pc : Nat) (o : mj_O), mjco99[pc]? = some o → mj_is mj_kl mjcM99.1.cls mj_WS mj_NWs mjc_Ms mjcM99.2.1 pc o := by
  have h : mj_all (mj_is mj_kl mjcM99.1.cls mj_WS mj_NWs mjc_Ms mjcM99.2.1) 0 mjco99 := by
    unfold mjco99
    refine mj_all_cons 1 rfl (Or.inl ⟨1, by decide +kernel, rfl, rfl⟩) ?_
    refine mj_all_cons 2 rfl (show _ = _ from by decide +kernel) ?_
    refine mj_all_cons 3 rfl (trivial) ?_
    refine mj_all_cons 4 rfl (trivial) ?_
    refine mj_all_cons 5 rfl (Or.inl ⟨0, by decide +kernel, rfl, rfl⟩) ?_
    refine mj_all_cons 6 rfl (Or.inl ⟨2, by decide +kernel, rfl, rfl⟩) ?_
    refine mj_all_cons 7 rfl (⟨mjcM97, 88, 1, rfl, by decide, mjcd97, mw_14, Or.inl ⟨7, mjF7, 14, by decide +kernel, rfl, rfl, rfl, mw_769, mw_771, mjsel_37⟩⟩) ?_
    refine mj_all_cons 8 rfl (trivial) ?_
    refine mj_all_cons 9 rfl (trivial) ?_
    refine mj_all_cons 10 rfl (show _ = _ from by decide +kernel) ?_
    refine mj_all_cons 11 rfl (Or.inl ⟨0, by decide +kernel, rfl, rfl⟩) ?_
    refine mj_all_cons 12 rfl (⟨mjcM100, 129, 0, rfl, by decide, mjcd100, mw_14, Or.inl ⟨7, mjF7, 14, by decide +kernel, rfl, rfl, rfl, mw_781, mw_783, mjsel_40⟩⟩) ?_
    refine mj_all_cons 13 rfl (trivial) ?_
    refine mj_all_cons 14 rfl (trivial) ?_
    refine mj_all_cons 15 rfl (Or.inl ⟨by decide +kernel, rfl⟩) ?_
    refine mj_all_cons 16 rfl (show _ = _ from by decide +kernel) ?_
    exact trivial
  intro pc o ho
  have := mj_all_get _ 0 h pc o ho
  rw [Nat.zero_add] at this
  exact this
set_option maxRecDepth 100000 in
theorem mjci100 : ∀ (pc : Nat) (o : mj_O), mjco100[pc]? = some o → mj_is mj_kl mjcM100.1.cls mj_WS mj_NWs mjc_Ms mjcM100.2.1 pc o := by
  have h : mj_all (mj_is mj_kl mjcM100.1.cls mj_WS mj_NWs mjc_Ms mjcM100.2.1) 0 mjco100 := by
    unfold mjco100
    refine mj_all_cons 1 rfl (Or.inl ⟨0, by decide +kernel, rfl, rfl⟩) ?_
    refine mj_all_cons 2 rfl (Or.inl ⟨by decide +kernel, rfl⟩) ?_
    refine mj_all_cons 3 rfl (Or.inl ⟨0, by decide +kernel, rfl, rfl⟩) ?_
    refine mj_all_cons 4 rfl (⟨53, "ListSpeaker$Machine", mjF7, 14, by decide +kernel, rfl, by decide, mw_265, mjw7⟩) ?_
    refine mj_all_cons 5 rfl (trivial) ?_
    refine mj_all_cons 6 rfl (trivial) ?_
    refine mj_all_cons 7 rfl (Or.inl ⟨by decide +kernel, rfl⟩) ?_
    refine mj_all_cons 8 rfl (show _ = _ from by decide +kernel) ?_
    refine mj_all_cons 9 rfl (⟨124, by decide +kernel, mw_785, mw_117, mw_9, mw_118⟩) ?_
    refine mj_all_cons 10 rfl (trivial) ?_
    refine mj_all_cons 11 rfl (trivial) ?_
    refine mj_all_cons 12 rfl (⟨53, "ListSpeaker$Machine", mjF7, 14, mjt7, by decide +kernel, rfl, by decide, mw_265, mjw7, mjk7, mjn7, rfl, by decide +kernel⟩) ?_
    refine mj_all_cons 13 rfl (trivial) ?_
    refine mj_all_cons 14 rfl (trivial) ?_
    refine mj_all_cons 15 rfl (show _ = _ from by decide +kernel) ?_
    exact trivial
  intro pc o ho
  have := mj_all_get _ 0 h pc o ho
  rw [Nat.zero_add] at this
  exact this
set_option maxRecDepth 100000 in
theorem mjci101 : ∀ (pc : Nat) (o : mj_O), mjco101[pc]? = some o → mj_is mj_kl mjcM101.1.cls mj_WS mj_NWs mjc_Ms mjcM101.2.1 pc o := by
  have h : mj_all (mj_is mj_kl mjcM101.1.cls mj_WS mj_NWs mjc_Ms mjcM101.2.1) 0 mjco101 := by
    unfold mjco101
    refine mj_all_cons 1 rfl (Or.inl ⟨0, by decide +kernel, rfl, rfl⟩) ?_
    refine mj_all_cons 2 rfl (⟨24, "ListSpeaker$Machine", mjF7, 14, by decide +kernel, rfl, by decide, mw_258, mjw7⟩) ?_
    refine mj_all_cons 3 rfl (trivial) ?_
    refine mj_all_cons 4 rfl (trivial) ?_
    refine mj_all_cons 5 rfl (⟨mjcM27, 132, 0, rfl, by decide, mjcd27, mw_8, Or.inl ⟨2, mjF2, 12, by decide +kernel, rfl, rfl, rfl, mw_823, mw_824, mw_825⟩⟩) ?_
    refine mj_all_cons 6 rfl (trivial) ?_
    refine mj_all_cons 7 rfl (trivial) ?_
    refine mj_all_cons 8 rfl (show _ = _ from by decide +kernel) ?_
    refine mj_all_cons 9 rfl (trivial) ?_
    refine mj_all_cons 10 rfl (trivial) ?_
    refine mj_all_cons 11 rfl (Or.inl ⟨0, by decide +kernel, rfl, rfl⟩) ?_
    refine mj_all_cons 12 rfl (⟨24, "ListSpeaker$Machine", mjF7, 14, by decide +kernel, rfl, by decide, mw_258, mjw7⟩) ?_
    refine mj_all_cons 13 rfl (trivial) ?_
    refine mj_all_cons 14 rfl (trivial) ?_
    refine mj_all_cons 15 rfl (Or.inl ⟨0, by decide +kernel, rfl, rfl⟩) ?_
    refine mj_all_cons 16 rfl (⟨9, "ListSpeaker$Machine", mjF7, 14, by decide +kernel, rfl, by decide, mw_261, mjw7⟩) ?_
    refine mj_all_cons 17 rfl (trivial) ?_
    refine mj_all_cons 18 rfl (trivial) ?_
    refine mj_all_cons 19 rfl (Or.inl ⟨0, by decide +kernel, rfl, rfl⟩) ?_
    refine mj_all_cons 20 rfl (⟨53, "ListSpeaker$Machine", mjF7, 14, by decide +kernel, rfl, by decide, mw_265, mjw7⟩) ?_
    refine mj_all_cons 21 rfl (trivial) ?_
    refine mj_all_cons 22 rfl (trivial) ?_
    refine mj_all_cons 23 rfl (⟨mjcM29, 138, 2, rfl, by decide, mjcd29, mw_8, Or.inl ⟨2, mjF2, 12, by decide +kernel, rfl, rfl, rfl, mw_827, mw_828, mw_829⟩⟩) ?_
    refine mj_all_cons 24 rfl (trivial) ?_
    refine mj_all_cons 25 rfl (trivial) ?_
    refine mj_all_cons 26 rfl (Or.inl ⟨0, by decide +kernel, rfl, rfl⟩) ?_
    refine mj_all_cons 27 rfl (⟨24, "ListSpeaker$Machine", mjF7, 14, by decide +kernel, rfl, by decide, mw_258, mjw7⟩) ?_
    refine mj_all_cons 28 rfl (trivial) ?_
    refine mj_all_cons 29 rfl (trivial) ?_
    refine mj_all_cons 30 rfl (Or.inl ⟨0, by decide +kernel, rfl, rfl⟩) ?_
    refine mj_all_cons 31 rfl (Or.inl ⟨by decide +kernel, rfl⟩) ?_
    refine mj_all_cons 32 rfl (⟨mjcM94, 43, 1, rfl, by decide, mjcd94, mw_14, Or.inl ⟨7, mjF7, 14, by decide +kernel, rfl, rfl, rfl, mw_777, mw_779, mjsel_39⟩⟩) ?_
    refine mj_all_cons 33 rfl (trivial) ?_
    refine mj_all_cons 34 rfl (trivial) ?_
    refine mj_all_cons 35 rfl (Or.inl ⟨0, by decide +kernel, rfl, rfl⟩) ?_
    refine mj_all_cons 36 rfl (Or.inl ⟨by decide +kernel, rfl⟩) ?_
    refine mj_all_cons 37 rfl (⟨mjcM94, 43, 1, rfl, by decide, mjcd94, mw_14, Or.inl ⟨7, mjF7, 14, by decide +kernel, rfl, rfl, rfl, mw_777, mw_779, mjsel_39⟩⟩) ?_
    refine mj_all_cons 38 rfl (trivial) ?_
    refine mj_all_cons 39 rfl (trivial) ?_
    refine mj_all_cons 40 rfl (⟨mjcM28, 142, 2, rfl, by decide, mjcd28, mw_8, Or.inl ⟨2, mjF2, 12, by decide +kernel, rfl, rfl, rfl, mw_839, mw_840, mw_841⟩⟩) ?_
    refine mj_all_cons 41 rfl (trivial) ?_
    refine mj_all_cons 42 rfl (trivial) ?_
    refine mj_all_cons 43 rfl (Or.inl ⟨1, by decide +kernel, rfl, rfl⟩) ?_
    refine mj_all_cons 44 rfl (Or.inl ⟨1, by decide +kernel, rfl, rfl⟩) ?_
    refine mj_all_cons 45 rfl (show _ = _ from by decide +kernel) ?_
    refine mj_all_cons 46 rfl (trivial) ?_
    refine mj_all_cons 47 rfl (trivial) ?_
    refine mj_all_cons 48 rfl (Or.inl ⟨1, by decide +kernel, rfl, rfl⟩) ?_
    refine mj_all_cons 49 rfl (show _ = _ from by decide +kernel) ?_
    refine mj_all_cons 50 rfl (show _ = _ from by decide +kernel) ?_
    refine mj_all_cons 51 rfl (trivial) ?_
    refine mj_all_cons 52 rfl (trivial) ?_
    refine mj_all_cons 53 rfl (Or.inl ⟨0, by decide +kernel, rfl, rfl⟩) ?_
    refine mj_all_cons 54 rfl (Or.inl ⟨by decide +kernel, rfl⟩) ?_
    refine mj_all_cons 55 rfl (Or.inl ⟨1, by decide +kernel, rfl, rfl⟩) ?_
    refine mj_all_cons 56 rfl (⟨mjcM96, 99, 2, rfl, by decide, mjcd96, mw_14, Or.inl ⟨7, mjF7, 14, by decide +kernel, rfl, rfl, rfl, mw_790, mw_792, mjsel_42⟩⟩) ?_
    refine mj_all_cons 57 rfl (trivial) ?_
    refine mj_all_cons 58 rfl (trivial) ?_
    refine mj_all_cons 59 rfl (show _ = _ from by decide +kernel) ?_
    exact trivial
  intro pc o ho
  have := mj_all_get _ 0 h pc o ho
  rw [Nat.zero_add] at this
  exact this
set_option maxRecDepth 100000 in
theorem mjci102 : ∀ (pc : Nat) (o : mj_O), mjco102[pc]? = some o → mj_is mj_kl mjcM102.1.cls mj_WS mj_NWs mjc_Ms mjcM102.2.1 pc o := by
  have h : mj_all (mj_is mj_kl mjcM102.1.cls mj_WS mj_NWs mjc_Ms mjcM102.2.1) 0 mjco102 := by
    unfold mjco102
    refine mj_all_cons 1 rfl (Or.inl ⟨0, by decide +kernel, rfl, rfl⟩) ?_
    refine mj_all_cons 2 rfl (Or.inl ⟨by decide +kernel, rfl⟩) ?_
    refine mj_all_cons 3 rfl (⟨mjcM94, 43, 1, rfl, by decide, mjcd94, mw_14, Or.inl ⟨7, mjF7, 14, by decide +kernel, rfl, rfl, rfl, mw_777, mw_779, mjsel_39⟩⟩) ?_
    refine mj_all_cons 4 rfl (trivial) ?_
    refine mj_all_cons 5 rfl (trivial) ?_
    refine mj_all_cons 6 rfl (Or.inl ⟨2, by decide +kernel, rfl, rfl⟩) ?_
    refine mj_all_cons 7 rfl (Or.inl ⟨1, by decide +kernel, rfl, rfl⟩) ?_
    refine mj_all_cons 8 rfl (⟨168, 268435475, #[49, 63, 77, 90, 103, 168, 168, 116, 139], 49, by decide +kernel, by decide, by decide, by decide⟩) ?_
    refine mj_all_cons 9 rfl (trivial) ?_
    refine mj_all_cons 10 rfl (trivial) ?_
    refine mj_all_cons 11 rfl (trivial) ?_
    refine mj_all_cons 12 rfl (trivial) ?_
    refine mj_all_cons 13 rfl (trivial) ?_
    refine mj_all_cons 14 rfl (trivial) ?_
    refine mj_all_cons 15 rfl (trivial) ?_
    refine mj_all_cons 16 rfl (trivial) ?_
    refine mj_all_cons 17 rfl (trivial) ?_
    refine mj_all_cons 18 rfl (trivial) ?_
    refine mj_all_cons 19 rfl (trivial) ?_
    refine mj_all_cons 20 rfl (trivial) ?_
    refine mj_all_cons 21 rfl (trivial) ?_
    refine mj_all_cons 22 rfl (trivial) ?_
    refine mj_all_cons 23 rfl (trivial) ?_
    refine mj_all_cons 24 rfl (trivial) ?_
    refine mj_all_cons 25 rfl (trivial) ?_
    refine mj_all_cons 26 rfl (trivial) ?_
    refine mj_all_cons 27 rfl (trivial) ?_
    refine mj_all_cons 28 rfl (trivial) ?_
    refine mj_all_cons 29 rfl (trivial) ?_
    refine mj_all_cons 30 rfl (trivial) ?_
    refine mj_all_cons 31 rfl (trivial) ?_
    refine mj_all_cons 32 rfl (trivial) ?_
    refine mj_all_cons 33 rfl (trivial) ?_
    refine mj_all_cons 34 rfl (trivial) ?_
    refine mj_all_cons 35 rfl (trivial) ?_
    refine mj_all_cons 36 rfl (trivial) ?_
    refine mj_all_cons 37 rfl (trivial) ?_
    refine mj_all_cons 38 rfl (trivial) ?_
    refine mj_all_cons 39 rfl (trivial) ?_
    refine mj_all_cons 40 rfl (trivial) ?_
    refine mj_all_cons 41 rfl (trivial) ?_
    refine mj_all_cons 42 rfl (trivial) ?_
    refine mj_all_cons 43 rfl (trivial) ?_
    refine mj_all_cons 44 rfl (trivial) ?_
    refine mj_all_cons 45 rfl (trivial) ?_
    refine mj_all_cons 46 rfl (trivial) ?_
    refine mj_all_cons 47 rfl (trivial) ?_
    refine mj_all_cons 48 rfl (trivial) ?_
    refine mj_all_cons 49 rfl (trivial) ?_
    refine mj_all_cons 50 rfl (trivial) ?_
    refine mj_all_cons 51 rfl (trivial) ?_
    refine mj_all_cons 52 rfl (trivial) ?_
    refine mj_all_cons 53 rfl (trivial) ?_
    refine mj_all_cons 54 rfl (trivial) ?_
    refine mj_all_cons 55 rfl (trivial) ?_
    refine mj_all_cons 56 rfl (trivial) ?_
    refine mj_all_cons 57 rfl (Or.inl ⟨0, by decide +kernel, rfl, rfl⟩) ?_
    refine mj_all_cons 58 rfl (Or.inl ⟨by decide +kernel, rfl⟩) ?_
    refine mj_all_cons 59 rfl (Or.inl ⟨0, by decide +kernel, rfl, rfl⟩) ?_
    refine mj_all_cons 60 rfl (⟨24, "ListSpeaker$Machine", mjF7, 14, by decide +kernel, rfl, by decide, mw_258, mjw7⟩) ?_
    refine mj_all_cons 61 rfl (trivial) ?_
    refine mj_all_cons 62 rfl (trivial) ?_
    refine mj_all_cons 63 rfl (Or.inl ⟨2, by decide +kernel, rfl, rfl⟩) ?_
    refine mj_all_cons 64 rfl (⟨mjcM20, 145, 1, rfl, by decide, mjcd20, mw_8, Or.inl ⟨2, mjF2, 12, by decide +kernel, rfl, rfl, rfl, mw_869, mw_588, mw_589⟩⟩) ?_
    refine mj_all_cons 65 rfl (trivial) ?_
    refine mj_all_cons 66 rfl (trivial) ?_
    refine mj_all_cons 67 rfl (⟨mjcM96, 99, 2, rfl, by decide, mjcd96, mw_14, Or.inl ⟨7, mjF7, 14, by decide +kernel, rfl, rfl, rfl, mw_790, mw_792, mjsel_42⟩⟩) ?_
    refine mj_all_cons 68 rfl (trivial) ?_
    refine mj_all_cons 69 rfl (trivial) ?_
    refine mj_all_cons 70 rfl (show _ = _ from by decide +kernel) ?_
    refine mj_all_cons 71 rfl (Or.inl ⟨0, by decide +kernel, rfl, rfl⟩) ?_
    refine mj_all_cons 72 rfl (Or.inl ⟨by decide +kernel, rfl⟩) ?_
    refine mj_all_cons 73 rfl (Or.inl ⟨0, by decide +kernel, rfl, rfl⟩) ?_
    refine mj_all_cons 74 rfl (⟨24, "ListSpeaker$Machine", mjF7, 14, by decide +kernel, rfl, by decide, mw_258, mjw7⟩) ?_
    refine mj_all_cons 75 rfl (trivial) ?_
    refine mj_all_cons 76 rfl (trivial) ?_
    refine mj_all_cons 77 rfl (Or.inl ⟨2, by decide +kernel, rfl, rfl⟩) ?_
    refine mj_all_cons 78 rfl (⟨mjcM21, 148, 1, rfl, by decide, mjcd21, mw_8, Or.inl ⟨2, mjF2, 12, by decide +kernel, rfl, rfl, rfl, mw_870, mw_602, mw_603⟩⟩) ?_
    refine mj_all_cons 79 rfl (trivial) ?_
    refine mj_all_cons 80 rfl (trivial) ?_
    refine mj_all_cons 81 rfl (⟨mjcM96, 99, 2, rfl, by decide, mjcd96, mw_14, Or.inl ⟨7, mjF7, 14, by decide +kernel, rfl, rfl, rfl, mw_790, mw_792, mjsel_42⟩⟩) ?_
    refine mj_all_cons 82 rfl (trivial) ?_
    refine mj_all_cons 83 rfl (trivial) ?_
    refine mj_all_cons 84 rfl (show _ = _ from by decide +kernel) ?_
    refine mj_all_cons 85 rfl (Or.inl ⟨0, by decide +kernel, rfl, rfl⟩) ?_
    refine mj_all_cons 86 rfl (Or.inl ⟨by decide +kernel, rfl⟩) ?_
    refine mj_all_cons 87 rfl (Or.inl ⟨2, by decide +kernel, rfl, rfl⟩) ?_
    refine mj_all_cons 88 rfl (⟨mjcM9, 151, 1, rfl, by decide, mjcd9, mw_1, Or.inr (Or.inr ⟨"ListSpeaker", by decide +kernel, rfl, rfl, mjnw_3, mw_611⟩)⟩) ?_
    refine mj_all_cons 89 rfl (trivial) ?_
    refine mj_all_cons 90 rfl (trivial) ?_
    refine mj_all_cons 91 rfl (⟨mjcM103, 155, 1, rfl, by decide, mjcd103, mw_14, Or.inr (Or.inl ⟨by decide +kernel, rfl, rfl, mw_852, mw_853⟩)⟩) ?_
    refine mj_all_cons 92 rfl (trivial) ?_
    refine mj_all_cons 93 rfl (trivial) ?_
    refine mj_all_cons 94 rfl (⟨mjcM96, 99, 2, rfl, by decide, mjcd96, mw_14, Or.inl ⟨7, mjF7, 14, by decide +kernel, rfl, rfl, rfl, mw_790, mw_792, mjsel_42⟩⟩) ?_
    refine mj_all_cons 95 rfl (trivial) ?_
    refine mj_all_cons 96 rfl (trivial) ?_
    refine mj_all_cons 97 rfl (show _ = _ from by decide +kernel) ?_
    refine mj_all_cons 98 rfl (Or.inl ⟨0, by decide +kernel, rfl, rfl⟩) ?_
    refine mj_all_cons 99 rfl (Or.inl ⟨by decide +kernel, rfl⟩) ?_
    refine mj_all_cons 100 rfl (Or.inl ⟨2, by decide +kernel, rfl, rfl⟩) ?_
    refine mj_all_cons 101 rfl (⟨mjcM7, 159, 1, rfl, by decide, mjcd7, mw_1, Or.inr (Or.inr ⟨"ListSpeaker", by decide +kernel, rfl, rfl, mjnw_4, mw_653⟩)⟩) ?_
    refine mj_all_cons 102 rfl (trivial) ?_
    refine mj_all_cons 103 rfl (trivial) ?_
    refine mj_all_cons 104 rfl (⟨mjcM103, 155, 1, rfl, by decide, mjcd103, mw_14, Or.inr (Or.inl ⟨by decide +kernel, rfl, rfl, mw_852, mw_853⟩)⟩) ?_
    refine mj_all_cons 105 rfl (trivial) ?_
    refine mj_all_cons 106 rfl (trivial) ?_
    refine mj_all_cons 107 rfl (⟨mjcM96, 99, 2, rfl, by decide, mjcd96, mw_14, Or.inl ⟨7, mjF7, 14, by decide +kernel, rfl, rfl, rfl, mw_790, mw_792, mjsel_42⟩⟩) ?_
    refine mj_all_cons 108 rfl (trivial) ?_
    refine mj_all_cons 109 rfl (trivial) ?_
    refine mj_all_cons 110 rfl (show _ = _ from by decide +kernel) ?_
    refine mj_all_cons 111 rfl (Or.inl ⟨0, by decide +kernel, rfl, rfl⟩) ?_
    refine mj_all_cons 112 rfl (Or.inl ⟨by decide +kernel, rfl⟩) ?_
    refine mj_all_cons 113 rfl (Or.inl ⟨2, by decide +kernel, rfl, rfl⟩) ?_
    refine mj_all_cons 114 rfl (⟨mjcM8, 162, 1, rfl, by decide, mjcd8, mw_1, Or.inr (Or.inr ⟨"ListSpeaker", by decide +kernel, rfl, rfl, mjnw_5, mw_615⟩)⟩) ?_
    refine mj_all_cons 115 rfl (trivial) ?_
    refine mj_all_cons 116 rfl (trivial) ?_
    refine mj_all_cons 117 rfl (⟨mjcM103, 155, 1, rfl, by decide, mjcd103, mw_14, Or.inr (Or.inl ⟨by decide +kernel, rfl, rfl, mw_852, mw_853⟩)⟩) ?_
    refine mj_all_cons 118 rfl (trivial) ?_
    refine mj_all_cons 119 rfl (trivial) ?_
    refine mj_all_cons 120 rfl (⟨mjcM96, 99, 2, rfl, by decide, mjcd96, mw_14, Or.inl ⟨7, mjF7, 14, by decide +kernel, rfl, rfl, rfl, mw_790, mw_792, mjsel_42⟩⟩) ?_
    refine mj_all_cons 121 rfl (trivial) ?_
    refine mj_all_cons 122 rfl (trivial) ?_
    refine mj_all_cons 123 rfl (show _ = _ from by decide +kernel) ?_
    refine mj_all_cons 124 rfl (Or.inl ⟨0, by decide +kernel, rfl, rfl⟩) ?_
    refine mj_all_cons 125 rfl (Or.inl ⟨by decide +kernel, rfl⟩) ?_
    refine mj_all_cons 126 rfl (Or.inl ⟨by decide +kernel, rfl⟩) ?_
    refine mj_all_cons 127 rfl (Or.inl ⟨0, by decide +kernel, rfl, rfl⟩) ?_
    refine mj_all_cons 128 rfl (Or.inl ⟨by decide +kernel, rfl⟩) ?_
    refine mj_all_cons 129 rfl (⟨mjcM94, 43, 1, rfl, by decide, mjcd94, mw_14, Or.inl ⟨7, mjF7, 14, by decide +kernel, rfl, rfl, rfl, mw_777, mw_779, mjsel_39⟩⟩) ?_
    refine mj_all_cons 130 rfl (trivial) ?_
    refine mj_all_cons 131 rfl (trivial) ?_
    refine mj_all_cons 132 rfl (⟨mjcM104, 165, 1, rfl, by decide, mjcd104, mw_14, Or.inr (Or.inl ⟨by decide +kernel, rfl, rfl, mw_860, mw_861⟩)⟩) ?_
    refine mj_all_cons 133 rfl (trivial) ?_
    refine mj_all_cons 134 rfl (trivial) ?_
    refine mj_all_cons 135 rfl (Or.inl ⟨2, by decide +kernel, rfl, rfl⟩) ?_
    refine mj_all_cons 136 rfl (⟨mjcM104, 165, 1, rfl, by decide, mjcd104, mw_14, Or.inr (Or.inl ⟨by decide +kernel, rfl, rfl, mw_860, mw_861⟩)⟩) ?_
    refine mj_all_cons 137 rfl (trivial) ?_
    refine mj_all_cons 138 rfl (trivial) ?_
    refine mj_all_cons 139 rfl (show _ = _ from by decide +kernel) ?_
    refine mj_all_cons 140 rfl (⟨124, by decide +kernel, mw_785, mw_117, mw_9, mw_118⟩) ?_
    refine mj_all_cons 141 rfl (trivial) ?_
    refine mj_all_cons 142 rfl (trivial) ?_
    refine mj_all_cons 143 rfl (⟨mjcM96, 99, 2, rfl, by decide, mjcd96, mw_14, Or.inl ⟨7, mjF7, 14, by decide +kernel, rfl, rfl, rfl, mw_790, mw_792, mjsel_42⟩⟩) ?_
    refine mj_all_cons 144 rfl (trivial) ?_
    refine mj_all_cons 145 rfl (trivial) ?_
    refine mj_all_cons 146 rfl (show _ = _ from by decide +kernel) ?_
    refine mj_all_cons 147 rfl (Or.inl ⟨0, by decide +kernel, rfl, rfl⟩) ?_
    refine mj_all_cons 148 rfl (Or.inl ⟨by decide +kernel, rfl⟩) ?_
    refine mj_all_cons 149 rfl (Or.inl ⟨0, by decide +kernel, rfl, rfl⟩) ?_
    refine mj_all_cons 150 rfl (Or.inl ⟨by decide +kernel, rfl⟩) ?_
    refine mj_all_cons 151 rfl (⟨mjcM94, 43, 1, rfl, by decide, mjcd94, mw_14, Or.inl ⟨7, mjF7, 14, by decide +kernel, rfl, rfl, rfl, mw_777, mw_779, mjsel_39⟩⟩) ?_
    refine mj_all_cons 152 rfl (trivial) ?_
    refine mj_all_cons 153 rfl (trivial) ?_
    refine mj_all_cons 154 rfl (⟨mjcM104, 165, 1, rfl, by decide, mjcd104, mw_14, Or.inr (Or.inl ⟨by decide +kernel, rfl, rfl, mw_860, mw_861⟩)⟩) ?_
    refine mj_all_cons 155 rfl (trivial) ?_
    refine mj_all_cons 156 rfl (trivial) ?_
    refine mj_all_cons 157 rfl (Or.inl ⟨2, by decide +kernel, rfl, rfl⟩) ?_
    refine mj_all_cons 158 rfl (⟨mjcM104, 165, 1, rfl, by decide, mjcd104, mw_14, Or.inr (Or.inl ⟨by decide +kernel, rfl, rfl, mw_860, mw_861⟩)⟩) ?_
    refine mj_all_cons 159 rfl (trivial) ?_
    refine mj_all_cons 160 rfl (trivial) ?_
    refine mj_all_cons 161 rfl (show _ = _ from by decide +kernel) ?_
    refine mj_all_cons 162 rfl (trivial) ?_
    refine mj_all_cons 163 rfl (trivial) ?_
    refine mj_all_cons 164 rfl (Or.inl ⟨by decide +kernel, rfl⟩) ?_
    refine mj_all_cons 165 rfl (show _ = _ from by decide +kernel) ?_
    refine mj_all_cons 166 rfl (trivial) ?_
    refine mj_all_cons 167 rfl (trivial) ?_
    refine mj_all_cons 168 rfl (Or.inl ⟨by decide +kernel, rfl⟩) ?_
    refine mj_all_cons 169 rfl (⟨mjcM103, 155, 1, rfl, by decide, mjcd103, mw_14, Or.inr (Or.inl ⟨by decide +kernel, rfl, rfl, mw_852, mw_853⟩)⟩) ?_
    refine mj_all_cons 170 rfl (trivial) ?_
    refine mj_all_cons 171 rfl (trivial) ?_
    refine mj_all_cons 172 rfl (⟨mjcM96, 99, 2, rfl, by decide, mjcd96, mw_14, Or.inl ⟨7, mjF7, 14, by decide +kernel, rfl, rfl, rfl, mw_790, mw_792, mjsel_42⟩⟩) ?_
    refine mj_all_cons 173 rfl (trivial) ?_
    refine mj_all_cons 174 rfl (trivial) ?_
    refine mj_all_cons 175 rfl (show _ = _ from by decide +kernel) ?_
    refine mj_all_cons 176 rfl (Or.inr (Or.inl ⟨by decide +kernel, rfl, by decide⟩)) ?_
    refine mj_all_cons 177 rfl (trivial) ?_
    refine mj_all_cons 178 rfl (show _ = _ from by decide +kernel) ?_
    exact trivial
  intro pc o ho
  have := mj_all_get _ 0 h pc o ho
  rw [Nat.zero_add] at this
  exact this
