set_option maxRecDepth 100000 in
theorem mjci22 : ∀ (pc : Nat) (o : mj_O), mjco22[pc]? = some o → mj_is mj_kl mjcM22.1.cls mj_WS mj_NWs mjc_Ms mjcM22.2.1 pc o := by
  have h : mj_all (mj_is mj_kl mjcM22.1.cls mj_WS mj_NWs mjc_Ms mjcM22.2.1) 0 mjco22 := by
    unfold mjco22
    refine mj_all_cons 1 rfl (Or.inl ⟨1, by decide +kernel, rfl, rfl⟩) ?_
    refine mj_all_cons 2 rfl (Or.inl ⟨3, by decide +kernel, rfl, rfl⟩) ?_
    refine mj_all_cons 3 rfl (Or.inl ⟨by decide +kernel, rfl⟩) ?_
    refine mj_all_cons 4 rfl (Or.inr ⟨by decide +kernel, rfl⟩) ?_
    refine mj_all_cons 5 rfl (trivial) ?_
    refine mj_all_cons 6 rfl (Or.inr ⟨by decide +kernel, rfl⟩) ?_
    refine mj_all_cons 7 rfl (trivial) ?_
    refine mj_all_cons 8 rfl (Or.inl ⟨2, by decide +kernel, rfl, rfl⟩) ?_
    refine mj_all_cons 9 rfl (show _ = _ from by decide +kernel) ?_
    refine mj_all_cons 10 rfl (trivial) ?_
    refine mj_all_cons 11 rfl (trivial) ?_
    refine mj_all_cons 12 rfl (Or.inl ⟨0, by decide +kernel, rfl, rfl⟩) ?_
    refine mj_all_cons 13 rfl (Or.inl ⟨3, by decide +kernel, rfl, rfl⟩) ?_
    refine mj_all_cons 14 rfl (⟨mjcM21, 52, 1, rfl, by decide, mjcd21, mw_8, Or.inl ⟨2, mjF2, 12, by decide +kernel, rfl, rfl, rfl, mw_601, mw_602, mw_603⟩⟩) ?_
    refine mj_all_cons 15 rfl (trivial) ?_
    refine mj_all_cons 16 rfl (trivial) ?_
    refine mj_all_cons 17 rfl (Or.inl ⟨3, by decide +kernel, rfl, rfl⟩) ?_
    refine mj_all_cons 18 rfl (show _ = _ from by decide +kernel) ?_
    refine mj_all_cons 19 rfl (trivial) ?_
    refine mj_all_cons 20 rfl (trivial) ?_
    refine mj_all_cons 21 rfl (show _ = _ from by decide +kernel) ?_
    refine mj_all_cons 22 rfl (trivial) ?_
    refine mj_all_cons 23 rfl (trivial) ?_
    refine mj_all_cons 24 rfl (Or.inl ⟨0, by decide +kernel, rfl, rfl⟩) ?_
    refine mj_all_cons 25 rfl (Or.inl ⟨3, by decide +kernel, rfl, rfl⟩) ?_
    refine mj_all_cons 26 rfl (⟨mjcM20, 56, 1, rfl, by decide, mjcd20, mw_8, Or.inl ⟨2, mjF2, 12, by decide +kernel, rfl, rfl, rfl, mw_605, mw_588, mw_589⟩⟩) ?_
    refine mj_all_cons 27 rfl (trivial) ?_
    refine mj_all_cons 28 rfl (trivial) ?_
    refine mj_all_cons 29 rfl (show _ = _ from by decide +kernel) ?_
    exact trivial
  intro pc o ho
  have := mj_all_get _ 0 h pc o ho
  rw [Nat.zero_add] at this
  exact this
set_option maxRecDepth 100000 in
theorem mjci23 : ∀ (pc : Nat) (o : mj_O), mjco23[pc]? = some o → mj_is mj_kl mjcM23.1.cls mj_WS mj_NWs mjc_Ms mjcM23.2.1 pc o := by
  have h : mj_all (mj_is mj_kl mjcM23.1.cls mj_WS mj_NWs mjc_Ms mjcM23.2.1) 0 mjco23 := by
    unfold mjco23
    refine mj_all_cons 1 rfl (Or.inl ⟨1, by decide +kernel, rfl, rfl⟩) ?_
    refine mj_all_cons 2 rfl (Or.inl ⟨2, by decide +kernel, rfl, rfl⟩) ?_
    refine mj_all_cons 3 rfl (Or.inl ⟨by decide +kernel, rfl⟩) ?_
    refine mj_all_cons 4 rfl (Or.inl ⟨3, by decide +kernel, rfl, rfl⟩) ?_
    refine mj_all_cons 5 rfl (Or.inl ⟨3, by decide +kernel, rfl, rfl⟩) ?_
    refine mj_all_cons 6 rfl (Or.inr (Or.inr (Or.inl ⟨by decide +kernel, rfl, by decide⟩))) ?_
    refine mj_all_cons 7 rfl (trivial) ?_
    refine mj_all_cons 8 rfl (trivial) ?_
    refine mj_all_cons 9 rfl (show _ = _ from by decide +kernel) ?_
    refine mj_all_cons 10 rfl (trivial) ?_
    refine mj_all_cons 11 rfl (trivial) ?_
    refine mj_all_cons 12 rfl (Or.inl ⟨2, by decide +kernel, rfl, rfl⟩) ?_
    refine mj_all_cons 13 rfl (⟨mjcM9, 59, 1, rfl, by decide, mjcd9, mw_1, Or.inr (Or.inr ⟨"ListSpeaker", by decide +kernel, rfl, rfl, mjnw_0, mw_611⟩)⟩) ?_
    refine mj_all_cons 14 rfl (trivial) ?_
    refine mj_all_cons 15 rfl (trivial) ?_
    refine mj_all_cons 16 rfl (show _ = _ from by decide +kernel) ?_
    refine mj_all_cons 17 rfl (trivial) ?_
    refine mj_all_cons 18 rfl (trivial) ?_
    refine mj_all_cons 19 rfl (Or.inl ⟨2, by decide +kernel, rfl, rfl⟩) ?_
    refine mj_all_cons 20 rfl (Or.inr (Or.inr (Or.inr (Or.inl ⟨51, by decide +kernel, rfl, mw_591⟩)))) ?_
    refine mj_all_cons 21 rfl (trivial) ?_
    refine mj_all_cons 22 rfl (show _ = _ from by decide +kernel) ?_
    refine mj_all_cons 23 rfl (trivial) ?_
    refine mj_all_cons 24 rfl (trivial) ?_
    refine mj_all_cons 25 rfl (Or.inl ⟨3, by decide +kernel, rfl, rfl⟩) ?_
    refine mj_all_cons 26 rfl (show _ = _ from by decide +kernel) ?_
    refine mj_all_cons 27 rfl (trivial) ?_
    refine mj_all_cons 28 rfl (trivial) ?_
    refine mj_all_cons 29 rfl (Or.inl ⟨by decide +kernel, rfl⟩) ?_
    refine mj_all_cons 30 rfl (show _ = _ from by decide +kernel) ?_
    refine mj_all_cons 31 rfl (Or.inl ⟨0, by decide +kernel, rfl, rfl⟩) ?_
    refine mj_all_cons 32 rfl (Or.inl ⟨2, by decide +kernel, rfl, rfl⟩) ?_
    refine mj_all_cons 33 rfl (⟨mjcM21, 52, 1, rfl, by decide, mjcd21, mw_8, Or.inl ⟨2, mjF2, 12, by decide +kernel, rfl, rfl, rfl, mw_601, mw_602, mw_603⟩⟩) ?_
    refine mj_all_cons 34 rfl (trivial) ?_
    refine mj_all_cons 35 rfl (trivial) ?_
    refine mj_all_cons 36 rfl (Or.inl ⟨2, by decide +kernel, rfl, rfl⟩) ?_
    refine mj_all_cons 37 rfl (show _ = _ from by decide +kernel) ?_
    refine mj_all_cons 38 rfl (trivial) ?_
    refine mj_all_cons 39 rfl (trivial) ?_
    refine mj_all_cons 40 rfl (show _ = _ from by decide +kernel) ?_
    refine mj_all_cons 41 rfl (trivial) ?_
    refine mj_all_cons 42 rfl (trivial) ?_
    refine mj_all_cons 43 rfl (Or.inl ⟨by decide +kernel, rfl⟩) ?_
    refine mj_all_cons 44 rfl (show _ = _ from by decide +kernel) ?_
    exact trivial
  intro pc o ho
  have := mj_all_get _ 0 h pc o ho
  rw [Nat.zero_add] at this
  exact this
set_option maxRecDepth 100000 in
theorem mjci24 : ∀ (pc : Nat) (o : mj_O), mjco24[pc]? = some o → mj_is mj_kl mjcM24.1.cls mj_WS mj_NWs mjc_Ms mjcM24.2.1 pc o := by
  have h : mj_all (mj_is mj_kl mjcM24.1.cls mj_WS mj_NWs mjc_Ms mjcM24.2.1) 0 mjco24 := by
    unfold mjco24
    refine mj_all_cons 1 rfl (Or.inl ⟨0, by decide +kernel, rfl, rfl⟩) ?_
    refine mj_all_cons 2 rfl (⟨41, "ListSpeaker$Pairs", mjF2, 12, by decide +kernel, rfl, by decide, mw_131, mjw2⟩) ?_
    refine mj_all_cons 3 rfl (trivial) ?_
    refine mj_all_cons 4 rfl (trivial) ?_
    refine mj_all_cons 5 rfl (Or.inr (Or.inr (Or.inl ⟨by decide +kernel, rfl, by decide⟩))) ?_
    refine mj_all_cons 6 rfl (trivial) ?_
    refine mj_all_cons 7 rfl (trivial) ?_
    refine mj_all_cons 8 rfl (show _ = _ from by decide +kernel) ?_
    refine mj_all_cons 9 rfl (trivial) ?_
    refine mj_all_cons 10 rfl (trivial) ?_
    refine mj_all_cons 11 rfl (Or.inr (Or.inl ⟨by decide +kernel, rfl, by decide⟩)) ?_
    refine mj_all_cons 12 rfl (trivial) ?_
    refine mj_all_cons 13 rfl (show _ = _ from by decide +kernel) ?_
    refine mj_all_cons 14 rfl (Or.inl ⟨0, by decide +kernel, rfl, rfl⟩) ?_
    refine mj_all_cons 15 rfl (⟨9, "ListSpeaker$Pairs", mjF2, 12, by decide +kernel, rfl, by decide, mw_124, mjw2⟩) ?_
    refine mj_all_cons 16 rfl (trivial) ?_
    refine mj_all_cons 17 rfl (trivial) ?_
    refine mj_all_cons 18 rfl (Or.inl ⟨0, by decide +kernel, rfl, rfl⟩) ?_
    refine mj_all_cons 19 rfl (⟨41, "ListSpeaker$Pairs", mjF2, 12, by decide +kernel, rfl, by decide, mw_131, mjw2⟩) ?_
    refine mj_all_cons 20 rfl (trivial) ?_
    refine mj_all_cons 21 rfl (trivial) ?_
    refine mj_all_cons 22 rfl (Or.inl ⟨1, by decide +kernel, rfl, rfl⟩) ?_
    refine mj_all_cons 23 rfl (show _ = _ from by decide +kernel) ?_
    refine mj_all_cons 24 rfl (Or.inl ⟨0, by decide +kernel, rfl, rfl⟩) ?_
    refine mj_all_cons 25 rfl (⟨15, "ListSpeaker$Pairs", mjF2, 12, by decide +kernel, rfl, by decide, mw_125, mjw2⟩) ?_
    refine mj_all_cons 26 rfl (trivial) ?_
    refine mj_all_cons 27 rfl (trivial) ?_
    refine mj_all_cons 28 rfl (Or.inl ⟨0, by decide +kernel, rfl, rfl⟩) ?_
    refine mj_all_cons 29 rfl (⟨41, "ListSpeaker$Pairs", mjF2, 12, by decide +kernel, rfl, by decide, mw_131, mjw2⟩) ?_
    refine mj_all_cons 30 rfl (trivial) ?_
    refine mj_all_cons 31 rfl (trivial) ?_
    refine mj_all_cons 32 rfl (Or.inl ⟨2, by decide +kernel, rfl, rfl⟩) ?_
    refine mj_all_cons 33 rfl (show _ = _ from by decide +kernel) ?_
    refine mj_all_cons 34 rfl (Or.inl ⟨0, by decide +kernel, rfl, rfl⟩) ?_
    refine mj_all_cons 35 rfl (show _ = _ from by decide +kernel) ?_
    refine mj_all_cons 36 rfl (⟨41, "ListSpeaker$Pairs", mjF2, 12, by decide +kernel, rfl, by decide, mw_131, mjw2⟩) ?_
    refine mj_all_cons 37 rfl (trivial) ?_
    refine mj_all_cons 38 rfl (trivial) ?_
    refine mj_all_cons 39 rfl (Or.inl ⟨by decide +kernel, rfl⟩) ?_
    refine mj_all_cons 40 rfl (show _ = _ from by decide +kernel) ?_
    refine mj_all_cons 41 rfl (⟨41, "ListSpeaker$Pairs", mjF2, 12, mjt2, by decide +kernel, rfl, by decide, mw_131, mjw2, mjk2, mjn2, rfl, by decide +kernel⟩) ?_
    refine mj_all_cons 42 rfl (trivial) ?_
    refine mj_all_cons 43 rfl (trivial) ?_
    refine mj_all_cons 44 rfl (Or.inr (Or.inr (Or.inr (Or.inl ⟨50, by decide +kernel, rfl, mw_547⟩)))) ?_
    refine mj_all_cons 45 rfl (trivial) ?_
    refine mj_all_cons 46 rfl (Or.inl ⟨0, by decide +kernel, rfl, rfl⟩) ?_
    refine mj_all_cons 47 rfl (⟨41, "ListSpeaker$Pairs", mjF2, 12, by decide +kernel, rfl, by decide, mw_131, mjw2⟩) ?_
    refine mj_all_cons 48 rfl (trivial) ?_
    refine mj_all_cons 49 rfl (trivial) ?_
    refine mj_all_cons 50 rfl (show _ = _ from by decide +kernel) ?_
    refine mj_all_cons 51 rfl (Or.inl ⟨by decide +kernel, rfl⟩) ?_
    refine mj_all_cons 52 rfl (show _ = _ from by decide +kernel) ?_
    refine mj_all_cons 53 rfl (show _ = _ from by decide +kernel) ?_
    exact trivial
  intro pc o ho
  have := mj_all_get _ 0 h pc o ho
  rw [Nat.zero_add] at this
  exact this
set_option maxRecDepth 100000 in
theorem mjci25 : ∀ (pc : Nat) (o : mj_O), mjco25[pc]? = some o → mj_is mj_kl mjcM25.1.cls mj_WS mj_NWs mjc_Ms mjcM25.2.1 pc o := by
  have h : mj_all (mj_is mj_kl mjcM25.1.cls mj_WS mj_NWs mjc_Ms mjcM25.2.1) 0 mjco25 := by
    unfold mjco25
    refine mj_all_cons 1 rfl (Or.inl ⟨1, by decide +kernel, rfl, rfl⟩) ?_
    refine mj_all_cons 2 rfl (Or.inr (Or.inr (Or.inr (Or.inl ⟨50, by decide +kernel, rfl, mw_547⟩)))) ?_
    refine mj_all_cons 3 rfl (trivial) ?_
    refine mj_all_cons 4 rfl (show _ = _ from by decide +kernel) ?_
    refine mj_all_cons 5 rfl (Or.inl ⟨3, by decide +kernel, rfl, rfl⟩) ?_
    refine mj_all_cons 6 rfl (Or.inl ⟨3, by decide +kernel, rfl, rfl⟩) ?_
    refine mj_all_cons 7 rfl (show _ = _ from by decide +kernel) ?_
    refine mj_all_cons 8 rfl (trivial) ?_
    refine mj_all_cons 9 rfl (trivial) ?_
    refine mj_all_cons 10 rfl (Or.inl ⟨3, by decide +kernel, rfl, rfl⟩) ?_
    refine mj_all_cons 11 rfl (Or.inl ⟨0, by decide +kernel, rfl, rfl⟩) ?_
    refine mj_all_cons 12 rfl (⟨41, "ListSpeaker$Pairs", mjF2, 12, by decide +kernel, rfl, by decide, mw_131, mjw2⟩) ?_
    refine mj_all_cons 13 rfl (trivial) ?_
    refine mj_all_cons 14 rfl (trivial) ?_
    refine mj_all_cons 15 rfl (show _ = _ from by decide +kernel) ?_
    refine mj_all_cons 16 rfl (trivial) ?_
    refine mj_all_cons 17 rfl (trivial) ?_
    refine mj_all_cons 18 rfl (Or.inl ⟨0, by decide +kernel, rfl, rfl⟩) ?_
    refine mj_all_cons 19 rfl (⟨15, "ListSpeaker$Pairs", mjF2, 12, by decide +kernel, rfl, by decide, mw_125, mjw2⟩) ?_
    refine mj_all_cons 20 rfl (trivial) ?_
    refine mj_all_cons 21 rfl (trivial) ?_
    refine mj_all_cons 22 rfl (Or.inl ⟨3, by decide +kernel, rfl, rfl⟩) ?_
    refine mj_all_cons 23 rfl (Or.inl ⟨2, by decide +kernel, rfl, rfl⟩) ?_
    refine mj_all_cons 24 rfl (show _ = _ from by decide +kernel) ?_
    refine mj_all_cons 25 rfl (show _ = _ from by decide +kernel) ?_
    exact trivial
  intro pc o ho
  have := mj_all_get _ 0 h pc o ho
  rw [Nat.zero_add] at this
  exact this
set_option maxRecDepth 100000 in
theorem mjci26 : ∀ (pc : Nat) (o : mj_O), mjco26[pc]? = some o → mj_is mj_kl mjcM26.1.cls mj_WS mj_NWs mjc_Ms mjcM26.2.1 pc o := by
  have h : mj_all (mj_is mj_kl mjcM26.1.cls mj_WS mj_NWs mjc_Ms mjcM26.2.1) 0 mjco26 := by
    unfold mjco26
    refine mj_all_cons 1 rfl (Or.inl ⟨1, by decide +kernel, rfl, rfl⟩) ?_
    refine mj_all_cons 2 rfl (show _ = _ from by decide +kernel) ?_
    refine mj_all_cons 3 rfl (trivial) ?_
    refine mj_all_cons 4 rfl (trivial) ?_
    refine mj_all_cons 5 rfl (Or.inl ⟨1, by decide +kernel, rfl, rfl⟩) ?_
    refine mj_all_cons 6 rfl (Or.inl ⟨0, by decide +kernel, rfl, rfl⟩) ?_
    refine mj_all_cons 7 rfl (⟨41, "ListSpeaker$Pairs", mjF2, 12, by decide +kernel, rfl, by decide, mw_131, mjw2⟩) ?_
    refine mj_all_cons 8 rfl (trivial) ?_
    refine mj_all_cons 9 rfl (trivial) ?_
    refine mj_all_cons 10 rfl (show _ = _ from by decide +kernel) ?_
    refine mj_all_cons 11 rfl (trivial) ?_
    refine mj_all_cons 12 rfl (trivial) ?_
    refine mj_all_cons 13 rfl (Or.inl ⟨0, by decide +kernel, rfl, rfl⟩) ?_
    refine mj_all_cons 14 rfl (Or.inl ⟨1, by decide +kernel, rfl, rfl⟩) ?_
    refine mj_all_cons 15 rfl (⟨41, "ListSpeaker$Pairs", mjF2, 12, mjt2, by decide +kernel, rfl, by decide, mw_131, mjw2, mjk2, mjn2, rfl, by decide +kernel⟩) ?_
    refine mj_all_cons 16 rfl (trivial) ?_
    refine mj_all_cons 17 rfl (trivial) ?_
    refine mj_all_cons 18 rfl (show _ = _ from by decide +kernel) ?_
    exact trivial
  intro pc o ho
  have := mj_all_get _ 0 h pc o ho
  rw [Nat.zero_add] at this
  exact this
set_option maxRecDepth 100000 in
theorem mjci27 : ∀ (pc : Nat) (o : mj_O), mjco27[pc]? = some o → mj_is mj_kl mjcM27.1.cls mj_WS mj_NWs mjc_Ms mjcM27.2.1 pc o := by
  have h : mj_all (mj_is mj_kl mjcM27.1.cls mj_WS mj_NWs mjc_Ms mjcM27.2.1) 0 mjco27 := by
    unfold mjco27
    refine mj_all_cons 1 rfl (Or.inl ⟨0, by decide +kernel, rfl, rfl⟩) ?_
    refine mj_all_cons 2 rfl (⟨38, "ListSpeaker$Pairs", mjF2, 12, by decide +kernel, rfl, by decide, mw_132, mjw2⟩) ?_
    refine mj_all_cons 3 rfl (trivial) ?_
    refine mj_all_cons 4 rfl (trivial) ?_
    refine mj_all_cons 5 rfl (show _ = _ from by decide +kernel) ?_
    refine mj_all_cons 6 rfl (trivial) ?_
    refine mj_all_cons 7 rfl (trivial) ?_
    refine mj_all_cons 8 rfl (Or.inl ⟨by decide +kernel, rfl⟩) ?_
    refine mj_all_cons 9 rfl (show _ = _ from by decide +kernel) ?_
    refine mj_all_cons 10 rfl (trivial) ?_
    refine mj_all_cons 11 rfl (trivial) ?_
    refine mj_all_cons 12 rfl (Or.inl ⟨by decide +kernel, rfl⟩) ?_
    refine mj_all_cons 13 rfl (show _ = _ from by decide +kernel) ?_
    exact trivial
  intro pc o ho
  have := mj_all_get _ 0 h pc o ho
  rw [Nat.zero_add] at this
  exact this
set_option maxRecDepth 100000 in
theorem mjci28 : ∀ (pc : Nat) (o : mj_O), mjco28[pc]? = some o → mj_is mj_kl mjcM28.1.cls mj_WS mj_NWs mjc_Ms mjcM28.2.1 pc o := by
  have h : mj_all (mj_is mj_kl mjcM28.1.cls mj_WS mj_NWs mjc_Ms mjcM28.2.1) 0 mjco28 := by
    unfold mjco28
    refine mj_all_cons 1 rfl (Or.inl ⟨0, by decide +kernel, rfl, rfl⟩) ?_
    refine mj_all_cons 2 rfl (⟨38, "ListSpeaker$Pairs", mjF2, 12, by decide +kernel, rfl, by decide, mw_132, mjw2⟩) ?_
    refine mj_all_cons 3 rfl (trivial) ?_
    refine mj_all_cons 4 rfl (trivial) ?_
    refine mj_all_cons 5 rfl (show _ = _ from by decide +kernel) ?_
    refine mj_all_cons 6 rfl (trivial) ?_
    refine mj_all_cons 7 rfl (trivial) ?_
    refine mj_all_cons 8 rfl (Or.inr (Or.inl ⟨by decide +kernel, rfl, by decide⟩)) ?_
    refine mj_all_cons 9 rfl (trivial) ?_
    refine mj_all_cons 10 rfl (show _ = _ from by decide +kernel) ?_
    refine mj_all_cons 11 rfl (Or.inl ⟨0, by decide +kernel, rfl, rfl⟩) ?_
    refine mj_all_cons 12 rfl (show _ = _ from by decide +kernel) ?_
    refine mj_all_cons 13 rfl (⟨38, "ListSpeaker$Pairs", mjF2, 12, by decide +kernel, rfl, by decide, mw_132, mjw2⟩) ?_
    refine mj_all_cons 14 rfl (trivial) ?_
    refine mj_all_cons 15 rfl (trivial) ?_
    refine mj_all_cons 16 rfl (Or.inl ⟨by decide +kernel, rfl⟩) ?_
    refine mj_all_cons 17 rfl (show _ = _ from by decide +kernel) ?_
    refine mj_all_cons 18 rfl (⟨38, "ListSpeaker$Pairs", mjF2, 12, mjt2, by decide +kernel, rfl, by decide, mw_132, mjw2, mjk2, mjn2, rfl, by decide +kernel⟩) ?_
    refine mj_all_cons 19 rfl (trivial) ?_
    refine mj_all_cons 20 rfl (trivial) ?_
    refine mj_all_cons 21 rfl (Or.inr (Or.inr (Or.inl ⟨by decide +kernel, rfl, by decide⟩))) ?_
    refine mj_all_cons 22 rfl (trivial) ?_
    refine mj_all_cons 23 rfl (trivial) ?_
    refine mj_all_cons 24 rfl (Or.inl ⟨0, by decide +kernel, rfl, rfl⟩) ?_
    refine mj_all_cons 25 rfl (⟨18, "ListSpeaker$Pairs", mjF2, 12, by decide +kernel, rfl, by decide, mw_126, mjw2⟩) ?_
    refine mj_all_cons 26 rfl (trivial) ?_
    refine mj_all_cons 27 rfl (trivial) ?_
    refine mj_all_cons 28 rfl (Or.inl ⟨0, by decide +kernel, rfl, rfl⟩) ?_
    refine mj_all_cons 29 rfl (⟨38, "ListSpeaker$Pairs", mjF2, 12, by decide +kernel, rfl, by decide, mw_132, mjw2⟩) ?_
    refine mj_all_cons 30 rfl (trivial) ?_
    refine mj_all_cons 31 rfl (trivial) ?_
    refine mj_all_cons 32 rfl (show _ = _ from by decide +kernel) ?_
    refine mj_all_cons 33 rfl (show _ = _ from by decide +kernel) ?_
    refine mj_all_cons 34 rfl (Or.inl ⟨3, by decide +kernel, rfl, rfl⟩) ?_
    refine mj_all_cons 35 rfl (Or.inl ⟨0, by decide +kernel, rfl, rfl⟩) ?_
    refine mj_all_cons 36 rfl (⟨9, "ListSpeaker$Pairs", mjF2, 12, by decide +kernel, rfl, by decide, mw_124, mjw2⟩) ?_
    refine mj_all_cons 37 rfl (trivial) ?_
    refine mj_all_cons 38 rfl (trivial) ?_
    refine mj_all_cons 39 rfl (Or.inl ⟨3, by decide +kernel, rfl, rfl⟩) ?_
    refine mj_all_cons 40 rfl (Or.inl ⟨1, by decide +kernel, rfl, rfl⟩) ?_
    refine mj_all_cons 41 rfl (show _ = _ from by decide +kernel) ?_
    refine mj_all_cons 42 rfl (Or.inl ⟨0, by decide +kernel, rfl, rfl⟩) ?_
    refine mj_all_cons 43 rfl (⟨15, "ListSpeaker$Pairs", mjF2, 12, by decide +kernel, rfl, by decide, mw_125, mjw2⟩) ?_
    refine mj_all_cons 44 rfl (trivial) ?_
    refine mj_all_cons 45 rfl (trivial) ?_
    refine mj_all_cons 46 rfl (Or.inl ⟨3, by decide +kernel, rfl, rfl⟩) ?_
    refine mj_all_cons 47 rfl (Or.inl ⟨2, by decide +kernel, rfl, rfl⟩) ?_
    refine mj_all_cons 48 rfl (show _ = _ from by decide +kernel) ?_
    refine mj_all_cons 49 rfl (Or.inr (Or.inr (Or.inr (Or.inl ⟨50, by decide +kernel, rfl, mw_547⟩)))) ?_
    refine mj_all_cons 50 rfl (trivial) ?_
    refine mj_all_cons 51 rfl (Or.inl ⟨3, by decide +kernel, rfl, rfl⟩) ?_
    refine mj_all_cons 52 rfl (show _ = _ from by decide +kernel) ?_
    refine mj_all_cons 53 rfl (show _ = _ from by decide +kernel) ?_
    exact trivial
  intro pc o ho
  have := mj_all_get _ 0 h pc o ho
  rw [Nat.zero_add] at this
  exact this
set_option maxRecDepth 100000 in
theorem mjci29 : ∀ (pc : Nat) (o : mj_O), mjco29[pc]? = some o → mj_is mj_kl mjcM29.1.cls mj_WS mj_NWs mjc_Ms mjcM29.2.1 pc o := by
  have h : mj_all (mj_is mj_kl mjcM29.1.cls mj_WS mj_NWs mjc_Ms mjcM29.2.1) 0 mjco29 := by
    unfold mjco29
    refine mj_all_cons 1 rfl (Or.inl ⟨0, by decide +kernel, rfl, rfl⟩) ?_
    refine mj_all_cons 2 rfl (show _ = _ from by decide +kernel) ?_
    refine mj_all_cons 3 rfl (⟨44, "ListSpeaker$Pairs", mjF2, 12, by decide +kernel, rfl, by decide, mw_133, mjw2⟩) ?_
    refine mj_all_cons 4 rfl (trivial) ?_
    refine mj_all_cons 5 rfl (trivial) ?_
    refine mj_all_cons 6 rfl (Or.inl ⟨by decide +kernel, rfl⟩) ?_
    refine mj_all_cons 7 rfl (show _ = _ from by decide +kernel) ?_
    refine mj_all_cons 8 rfl (⟨44, "ListSpeaker$Pairs", mjF2, 12, mjt2, by decide +kernel, rfl, by decide, mw_133, mjw2, mjk2, mjn2, rfl, by decide +kernel⟩) ?_
    refine mj_all_cons 9 rfl (trivial) ?_
    refine mj_all_cons 10 rfl (trivial) ?_
    refine mj_all_cons 11 rfl (Or.inl ⟨by decide +kernel, rfl⟩) ?_
    refine mj_all_cons 12 rfl (Or.inl ⟨3, by decide +kernel, rfl, rfl⟩) ?_
    refine mj_all_cons 13 rfl (Or.inl ⟨3, by decide +kernel, rfl, rfl⟩) ?_
    refine mj_all_cons 14 rfl (Or.inr (Or.inr (Or.inl ⟨by decide +kernel, rfl, by decide⟩))) ?_
    refine mj_all_cons 15 rfl (trivial) ?_
    refine mj_all_cons 16 rfl (trivial) ?_
    refine mj_all_cons 17 rfl (show _ = _ from by decide +kernel) ?_
    refine mj_all_cons 18 rfl (trivial) ?_
    refine mj_all_cons 19 rfl (trivial) ?_
    refine mj_all_cons 20 rfl (Or.inl ⟨0, by decide +kernel, rfl, rfl⟩) ?_
    refine mj_all_cons 21 rfl (⟨21, "ListSpeaker$Pairs", mjF2, 12, by decide +kernel, rfl, by decide, mw_127, mjw2⟩) ?_
    refine mj_all_cons 22 rfl (trivial) ?_
    refine mj_all_cons 23 rfl (trivial) ?_
    refine mj_all_cons 24 rfl (Or.inl ⟨3, by decide +kernel, rfl, rfl⟩) ?_
    refine mj_all_cons 25 rfl (Or.inl ⟨by decide +kernel, rfl⟩) ?_
    refine mj_all_cons 26 rfl (show _ = _ from by decide +kernel) ?_
    refine mj_all_cons 27 rfl (show _ = _ from by decide +kernel) ?_
    refine mj_all_cons 28 rfl (trivial) ?_
    refine mj_all_cons 29 rfl (trivial) ?_
    refine mj_all_cons 30 rfl (show _ = _ from by decide +kernel) ?_
    refine mj_all_cons 31 rfl (trivial) ?_
    refine mj_all_cons 32 rfl (trivial) ?_
    refine mj_all_cons 33 rfl (Or.inl ⟨by decide +kernel, rfl⟩) ?_
    refine mj_all_cons 34 rfl (Or.inl ⟨3, by decide +kernel, rfl, rfl⟩) ?_
    refine mj_all_cons 35 rfl (Or.inl ⟨by decide +kernel, rfl⟩) ?_
    refine mj_all_cons 36 rfl (Or.inr ⟨by decide +kernel, rfl⟩) ?_
    refine mj_all_cons 37 rfl (trivial) ?_
    refine mj_all_cons 38 rfl (Or.inr ⟨by decide +kernel, rfl⟩) ?_
    refine mj_all_cons 39 rfl (trivial) ?_
    refine mj_all_cons 40 rfl (Or.inl ⟨2, by decide +kernel, rfl, rfl⟩) ?_
    refine mj_all_cons 41 rfl (show _ = _ from by decide +kernel) ?_
    refine mj_all_cons 42 rfl (trivial) ?_
    refine mj_all_cons 43 rfl (trivial) ?_
    refine mj_all_cons 44 rfl (Or.inr ⟨by decide +kernel, rfl⟩) ?_
    refine mj_all_cons 45 rfl (trivial) ?_
    refine mj_all_cons 46 rfl (Or.inl ⟨1, by decide +kernel, rfl, rfl⟩) ?_
    refine mj_all_cons 47 rfl (show _ = _ from by decide +kernel) ?_
    refine mj_all_cons 48 rfl (show _ = _ from by decide +kernel) ?_
    refine mj_all_cons 49 rfl (trivial) ?_
    refine mj_all_cons 50 rfl (trivial) ?_
    refine mj_all_cons 51 rfl (Or.inl ⟨0, by decide +kernel, rfl, rfl⟩) ?_
    refine mj_all_cons 52 rfl (Or.inl ⟨1, by decide +kernel, rfl, rfl⟩) ?_
    refine mj_all_cons 53 rfl (Or.inr ⟨by decide +kernel, rfl⟩) ?_
    refine mj_all_cons 54 rfl (trivial) ?_
    refine mj_all_cons 55 rfl (show _ = _ from by decide +kernel) ?_
    refine mj_all_cons 56 rfl (Or.inl ⟨3, by decide +kernel, rfl, rfl⟩) ?_
    refine mj_all_cons 57 rfl (⟨mjcM30, 63, 2, rfl, by decide, mjcd30, mw_8, Or.inl ⟨2, mjF2, 12, by decide +kernel, rfl, rfl, rfl, mw_831, mw_833, mjsel_48⟩⟩) ?_
    refine mj_all_cons 58 rfl (trivial) ?_
    refine mj_all_cons 59 rfl (trivial) ?_
    refine mj_all_cons 60 rfl (Or.inl ⟨3, by decide +kernel, rfl, rfl⟩) ?_
    refine mj_all_cons 61 rfl (show _ = _ from by decide +kernel) ?_
    refine mj_all_cons 62 rfl (trivial) ?_
    refine mj_all_cons 63 rfl (trivial) ?_
    refine mj_all_cons 64 rfl (show _ = _ from by decide +kernel) ?_
    refine mj_all_cons 65 rfl (trivial) ?_
    refine mj_all_cons 66 rfl (trivial) ?_
    refine mj_all_cons 67 rfl (Or.inl ⟨by decide +kernel, rfl⟩) ?_
    refine mj_all_cons 68 rfl (Or.inr ⟨by decide +kernel, rfl⟩) ?_
    refine mj_all_cons 69 rfl (trivial) ?_
    refine mj_all_cons 70 rfl (Or.inr ⟨by decide +kernel, rfl⟩) ?_
    refine mj_all_cons 71 rfl (trivial) ?_
    refine mj_all_cons 72 rfl (Or.inr (Or.inr (Or.inl ⟨by decide +kernel, rfl, by decide⟩))) ?_
    refine mj_all_cons 73 rfl (trivial) ?_
    refine mj_all_cons 74 rfl (trivial) ?_
    refine mj_all_cons 75 rfl (show _ = _ from by decide +kernel) ?_
    refine mj_all_cons 76 rfl (trivial) ?_
    refine mj_all_cons 77 rfl (trivial) ?_
    refine mj_all_cons 78 rfl (Or.inl ⟨3, by decide +kernel, rfl, rfl⟩) ?_
    refine mj_all_cons 79 rfl (show _ = _ from by decide +kernel) ?_
    refine mj_all_cons 80 rfl (trivial) ?_
    refine mj_all_cons 81 rfl (trivial) ?_
    refine mj_all_cons 82 rfl (show _ = _ from by decide +kernel) ?_
    refine mj_all_cons 83 rfl (trivial) ?_
    refine mj_all_cons 84 rfl (trivial) ?_
    refine mj_all_cons 85 rfl (Or.inr (Or.inr (Or.inl ⟨by decide +kernel, rfl, by decide⟩))) ?_
    refine mj_all_cons 86 rfl (trivial) ?_
    refine mj_all_cons 87 rfl (trivial) ?_
    refine mj_all_cons 88 rfl (Or.inl ⟨0, by decide +kernel, rfl, rfl⟩) ?_
    refine mj_all_cons 89 rfl (⟨25, "ListSpeaker$Pairs", mjF2, 12, by decide +kernel, rfl, by decide, mw_128, mjw2⟩) ?_
    refine mj_all_cons 90 rfl (trivial) ?_
    refine mj_all_cons 91 rfl (trivial) ?_
    refine mj_all_cons 92 rfl (Or.inl ⟨3, by decide +kernel, rfl, rfl⟩) ?_
    refine mj_all_cons 93 rfl (show _ = _ from by decide +kernel) ?_
    refine mj_all_cons 94 rfl (show _ = _ from by decide +kernel) ?_
    refine mj_all_cons 95 rfl (Or.inr ⟨by decide +kernel, rfl⟩) ?_
    refine mj_all_cons 96 rfl (trivial) ?_
    refine mj_all_cons 97 rfl (Or.inl ⟨0, by decide +kernel, rfl, rfl⟩) ?_
    refine mj_all_cons 98 rfl (Or.inl ⟨0, by decide +kernel, rfl, rfl⟩) ?_
    refine mj_all_cons 99 rfl (⟨9, "ListSpeaker$Pairs", mjF2, 12, by decide +kernel, rfl, by decide, mw_124, mjw2⟩) ?_
    refine mj_all_cons 100 rfl (trivial) ?_
    refine mj_all_cons 101 rfl (trivial) ?_
    refine mj_all_cons 102 rfl (Or.inr ⟨by decide +kernel, rfl⟩) ?_
    refine mj_all_cons 103 rfl (trivial) ?_
    refine mj_all_cons 104 rfl (show _ = _ from by decide +kernel) ?_
    refine mj_all_cons 105 rfl (Or.inl ⟨3, by decide +kernel, rfl, rfl⟩) ?_
    refine mj_all_cons 106 rfl (⟨mjcM30, 63, 2, rfl, by decide, mjcd30, mw_8, Or.inl ⟨2, mjF2, 12, by decide +kernel, rfl, rfl, rfl, mw_831, mw_833, mjsel_48⟩⟩) ?_
    refine mj_all_cons 107 rfl (trivial) ?_
    refine mj_all_cons 108 rfl (trivial) ?_
    refine mj_all_cons 109 rfl (Or.inl ⟨3, by decide +kernel, rfl, rfl⟩) ?_
    refine mj_all_cons 110 rfl (Or.inl ⟨0, by decide +kernel, rfl, rfl⟩) ?_
    refine mj_all_cons 111 rfl (Or.inl ⟨0, by decide +kernel, rfl, rfl⟩) ?_
    refine mj_all_cons 112 rfl (⟨15, "ListSpeaker$Pairs", mjF2, 12, by decide +kernel, rfl, by decide, mw_125, mjw2⟩) ?_
    refine mj_all_cons 113 rfl (trivial) ?_
    refine mj_all_cons 114 rfl (trivial) ?_
    refine mj_all_cons 115 rfl (Or.inr ⟨by decide +kernel, rfl⟩) ?_
    refine mj_all_cons 116 rfl (trivial) ?_
    refine mj_all_cons 117 rfl (show _ = _ from by decide +kernel) ?_
    refine mj_all_cons 118 rfl (Or.inl ⟨3, by decide +kernel, rfl, rfl⟩) ?_
    refine mj_all_cons 119 rfl (⟨mjcM30, 63, 2, rfl, by decide, mjcd30, mw_8, Or.inl ⟨2, mjF2, 12, by decide +kernel, rfl, rfl, rfl, mw_831, mw_833, mjsel_48⟩⟩) ?_
    refine mj_all_cons 120 rfl (trivial) ?_
    refine mj_all_cons 121 rfl (trivial) ?_
    refine mj_all_cons 122 rfl (Or.inl ⟨3, by decide +kernel, rfl, rfl⟩) ?_
    refine mj_all_cons 123 rfl (show _ = _ from by decide +kernel) ?_
    refine mj_all_cons 124 rfl (trivial) ?_
    refine mj_all_cons 125 rfl (trivial) ?_
    refine mj_all_cons 126 rfl (show _ = _ from by decide +kernel) ?_
    refine mj_all_cons 127 rfl (trivial) ?_
    refine mj_all_cons 128 rfl (trivial) ?_
    refine mj_all_cons 129 rfl (Or.inl ⟨0, by decide +kernel, rfl, rfl⟩) ?_
    refine mj_all_cons 130 rfl (⟨mjcM31, 67, 0, rfl, by decide, mjcd31, mw_8, Or.inl ⟨2, mjF2, 12, by decide +kernel, rfl, rfl, rfl, mw_835, mw_837, mjsel_49⟩⟩) ?_
    refine mj_all_cons 131 rfl (trivial) ?_
    refine mj_all_cons 132 rfl (trivial) ?_
    refine mj_all_cons 133 rfl (show _ = _ from by decide +kernel) ?_
    exact trivial
  intro pc o ho
  have := mj_all_get _ 0 h pc o ho
  rw [Nat.zero_add] at this
  exact this
set_option maxRecDepth 100000 in
theorem mjci30 : ∀ (pc : Nat) (o : mj_O), mjco30[pc]? = some o → mj_is mj_kl mjcM30.1.cls mj_WS mj_NWs mjc_Ms mjcM30.2.1 pc o := by
  have h : mj_all (mj_is mj_kl mjcM30.1.cls mj_WS mj_NWs mjc_Ms mjcM30.2.1) 0 mjco30 := by
    unfold mjco30
    refine mj_all_cons 1 rfl (Or.inl ⟨1, by decide +kernel, rfl, rfl⟩) ?_
    refine mj_all_cons 2 rfl (Or.inr (Or.inr (Or.inr (Or.inl ⟨50, by decide +kernel, rfl, mw_547⟩)))) ?_
    refine mj_all_cons 3 rfl (trivial) ?_
    refine mj_all_cons 4 rfl (show _ = _ from by decide +kernel) ?_
    refine mj_all_cons 5 rfl (Or.inr (Or.inr (Or.inl ⟨by decide +kernel, rfl, by decide⟩))) ?_
    refine mj_all_cons 6 rfl (trivial) ?_
    refine mj_all_cons 7 rfl (trivial) ?_
    refine mj_all_cons 8 rfl (show _ = _ from by decide +kernel) ?_
    refine mj_all_cons 9 rfl (Or.inl ⟨3, by decide +kernel, rfl, rfl⟩) ?_
    refine mj_all_cons 10 rfl (Or.inl ⟨3, by decide +kernel, rfl, rfl⟩) ?_
    refine mj_all_cons 11 rfl (show _ = _ from by decide +kernel) ?_
    refine mj_all_cons 12 rfl (trivial) ?_
    refine mj_all_cons 13 rfl (trivial) ?_
    refine mj_all_cons 14 rfl (Or.inl ⟨3, by decide +kernel, rfl, rfl⟩) ?_
    refine mj_all_cons 15 rfl (Or.inr (Or.inr (Or.inl ⟨by decide +kernel, rfl, by decide⟩))) ?_
    refine mj_all_cons 16 rfl (trivial) ?_
    refine mj_all_cons 17 rfl (trivial) ?_
    refine mj_all_cons 18 rfl (show _ = _ from by decide +kernel) ?_
    refine mj_all_cons 19 rfl (trivial) ?_
    refine mj_all_cons 20 rfl (trivial) ?_
    refine mj_all_cons 21 rfl (Or.inl ⟨0, by decide +kernel, rfl, rfl⟩) ?_
    refine mj_all_cons 22 rfl (⟨21, "ListSpeaker$Pairs", mjF2, 12, by decide +kernel, rfl, by decide, mw_127, mjw2⟩) ?_
    refine mj_all_cons 23 rfl (trivial) ?_
    refine mj_all_cons 24 rfl (trivial) ?_
    refine mj_all_cons 25 rfl (Or.inl ⟨3, by decide +kernel, rfl, rfl⟩) ?_
    refine mj_all_cons 26 rfl (show _ = _ from by decide +kernel) ?_
    refine mj_all_cons 27 rfl (show _ = _ from by decide +kernel) ?_
    refine mj_all_cons 28 rfl (trivial) ?_
    refine mj_all_cons 29 rfl (trivial) ?_
    refine mj_all_cons 30 rfl (Or.inl ⟨2, by decide +kernel, rfl, rfl⟩) ?_
    refine mj_all_cons 31 rfl (Or.inr (Or.inr (Or.inl ⟨by decide +kernel, rfl, by decide⟩))) ?_
    refine mj_all_cons 32 rfl (trivial) ?_
    refine mj_all_cons 33 rfl (trivial) ?_
    refine mj_all_cons 34 rfl (show _ = _ from by decide +kernel) ?_
    refine mj_all_cons 35 rfl (trivial) ?_
    refine mj_all_cons 36 rfl (trivial) ?_
    refine mj_all_cons 37 rfl (Or.inl ⟨2, by decide +kernel, rfl, rfl⟩) ?_
    refine mj_all_cons 38 rfl (show _ = _ from by decide +kernel) ?_
    refine mj_all_cons 39 rfl (Or.inl ⟨0, by decide +kernel, rfl, rfl⟩) ?_
    refine mj_all_cons 40 rfl (⟨21, "ListSpeaker$Pairs", mjF2, 12, by decide +kernel, rfl, by decide, mw_127, mjw2⟩) ?_
    refine mj_all_cons 41 rfl (trivial) ?_
    refine mj_all_cons 42 rfl (trivial) ?_
    refine mj_all_cons 43 rfl (Or.inl ⟨3, by decide +kernel, rfl, rfl⟩) ?_
    refine mj_all_cons 44 rfl (Or.inl ⟨by decide +kernel, rfl⟩) ?_
    refine mj_all_cons 45 rfl (show _ = _ from by decide +kernel) ?_
    refine mj_all_cons 46 rfl (Or.inl ⟨0, by decide +kernel, rfl, rfl⟩) ?_
    refine mj_all_cons 47 rfl (⟨25, "ListSpeaker$Pairs", mjF2, 12, by decide +kernel, rfl, by decide, mw_128, mjw2⟩) ?_
    refine mj_all_cons 48 rfl (trivial) ?_
    refine mj_all_cons 49 rfl (trivial) ?_
    refine mj_all_cons 50 rfl (Or.inl ⟨2, by decide +kernel, rfl, rfl⟩) ?_
    refine mj_all_cons 51 rfl (Or.inl ⟨3, by decide +kernel, rfl, rfl⟩) ?_
    refine mj_all_cons 52 rfl (show _ = _ from by decide +kernel) ?_
    refine mj_all_cons 53 rfl (Or.inl ⟨2, by decide +kernel, rfl, rfl⟩) ?_
    refine mj_all_cons 54 rfl (Or.inl ⟨by decide +kernel, rfl⟩) ?_
    refine mj_all_cons 55 rfl (show _ = _ from by decide +kernel) ?_
    refine mj_all_cons 56 rfl (show _ = _ from by decide +kernel) ?_
    exact trivial
  intro pc o ho
  have := mj_all_get _ 0 h pc o ho
  rw [Nat.zero_add] at this
  exact this
set_option maxRecDepth 100000 in
theorem mjci31 : ∀ (pc : Nat) (o : mj_O), mjco31[pc]? = some o → mj_is mj_kl mjcM31.1.cls mj_WS mj_NWs mjc_Ms mjcM31.2.1 pc o := by
  have h : mj_all (mj_is mj_kl mjcM31.1.cls mj_WS mj_NWs mjc_Ms mjcM31.2.1) 0 mjco31 := by
    unfold mjco31
    refine mj_all_cons 1 rfl (Or.inl ⟨0, by decide +kernel, rfl, rfl⟩) ?_
    refine mj_all_cons 2 rfl (Or.inl ⟨by decide +kernel, rfl⟩) ?_
    refine mj_all_cons 3 rfl (⟨38, "ListSpeaker$Pairs", mjF2, 12, mjt2, by decide +kernel, rfl, by decide, mw_132, mjw2, mjk2, mjn2, rfl, by decide +kernel⟩) ?_
    refine mj_all_cons 4 rfl (trivial) ?_
    refine mj_all_cons 5 rfl (trivial) ?_
    refine mj_all_cons 6 rfl (Or.inl ⟨by decide +kernel, rfl⟩) ?_
    refine mj_all_cons 7 rfl (Or.inl ⟨1, by decide +kernel, rfl, rfl⟩) ?_
    refine mj_all_cons 8 rfl (Or.inl ⟨1, by decide +kernel, rfl, rfl⟩) ?_
    refine mj_all_cons 9 rfl (Or.inl ⟨0, by decide +kernel, rfl, rfl⟩) ?_
    refine mj_all_cons 10 rfl (⟨34, "ListSpeaker$Pairs", mjF2, 12, by decide +kernel, rfl, by decide, mw_123, mjw2⟩) ?_
    refine mj_all_cons 11 rfl (trivial) ?_
    refine mj_all_cons 12 rfl (trivial) ?_
    refine mj_all_cons 13 rfl (show _ = _ from by decide +kernel) ?_
    refine mj_all_cons 14 rfl (trivial) ?_
    refine mj_all_cons 15 rfl (trivial) ?_
    refine mj_all_cons 16 rfl (Or.inl ⟨1, by decide +kernel, rfl, rfl⟩) ?_
    refine mj_all_cons 17 rfl (Or.inr (Or.inr (Or.inl ⟨by decide +kernel, rfl, by decide⟩))) ?_
    refine mj_all_cons 18 rfl (trivial) ?_
    refine mj_all_cons 19 rfl (trivial) ?_
    refine mj_all_cons 20 rfl (show _ = _ from by decide +kernel) ?_
    refine mj_all_cons 21 rfl (trivial) ?_
    refine mj_all_cons 22 rfl (trivial) ?_
    refine mj_all_cons 23 rfl (Or.inl ⟨0, by decide +kernel, rfl, rfl⟩) ?_
    refine mj_all_cons 24 rfl (⟨21, "ListSpeaker$Pairs", mjF2, 12, by decide +kernel, rfl, by decide, mw_127, mjw2⟩) ?_
    refine mj_all_cons 25 rfl (trivial) ?_
    refine mj_all_cons 26 rfl (trivial) ?_
    refine mj_all_cons 27 rfl (Or.inl ⟨1, by decide +kernel, rfl, rfl⟩) ?_
    refine mj_all_cons 28 rfl (show _ = _ from by decide +kernel) ?_
    refine mj_all_cons 29 rfl (show _ = _ from by decide +kernel) ?_
    refine mj_all_cons 30 rfl (trivial) ?_
    refine mj_all_cons 31 rfl (trivial) ?_
    refine mj_all_cons 32 rfl (Or.inl ⟨0, by decide +kernel, rfl, rfl⟩) ?_
    refine mj_all_cons 33 rfl (⟨18, "ListSpeaker$Pairs", mjF2, 12, by decide +kernel, rfl, by decide, mw_126, mjw2⟩) ?_
    refine mj_all_cons 34 rfl (trivial) ?_
    refine mj_all_cons 35 rfl (trivial) ?_
    refine mj_all_cons 36 rfl (Or.inl ⟨0, by decide +kernel, rfl, rfl⟩) ?_
    refine mj_all_cons 37 rfl (⟨38, "ListSpeaker$Pairs", mjF2, 12, by decide +kernel, rfl, by decide, mw_132, mjw2⟩) ?_
    refine mj_all_cons 38 rfl (trivial) ?_
    refine mj_all_cons 39 rfl (trivial) ?_
    refine mj_all_cons 40 rfl (Or.inl ⟨1, by decide +kernel, rfl, rfl⟩) ?_
    refine mj_all_cons 41 rfl (show _ = _ from by decide +kernel) ?_
    refine mj_all_cons 42 rfl (Or.inl ⟨0, by decide +kernel, rfl, rfl⟩) ?_
    refine mj_all_cons 43 rfl (show _ = _ from by decide +kernel) ?_
    refine mj_all_cons 44 rfl (⟨38, "ListSpeaker$Pairs", mjF2, 12, by decide +kernel, rfl, by decide, mw_132, mjw2⟩) ?_
    refine mj_all_cons 45 rfl (trivial) ?_
    refine mj_all_cons 46 rfl (trivial) ?_
    refine mj_all_cons 47 rfl (Or.inl ⟨by decide +kernel, rfl⟩) ?_
    refine mj_all_cons 48 rfl (show _ = _ from by decide +kernel) ?_
    refine mj_all_cons 49 rfl (⟨38, "ListSpeaker$Pairs", mjF2, 12, mjt2, by decide +kernel, rfl, by decide, mw_132, mjw2, mjk2, mjn2, rfl, by decide +kernel⟩) ?_
    refine mj_all_cons 50 rfl (trivial) ?_
    refine mj_all_cons 51 rfl (trivial) ?_
    refine mj_all_cons 52 rfl (show _ = _ from by decide +kernel) ?_
    refine mj_all_cons 53 rfl (trivial) ?_
    refine mj_all_cons 54 rfl (trivial) ?_
    refine mj_all_cons 55 rfl (show _ = _ from by decide +kernel) ?_
    refine mj_all_cons 56 rfl (trivial) ?_
    refine mj_all_cons 57 rfl (trivial) ?_
    refine mj_all_cons 58 rfl (show _ = _ from by decide +kernel) ?_
    exact trivial
  intro pc o ho
  have := mj_all_get _ 0 h pc o ho
  rw [Nat.zero_add] at this
  exact this
set_option maxRecDepth 100000 in
theorem mjci32 : ∀ (pc : Nat) (o : mj_O), mjco32[pc]? = some o → mj_is mj_kl mjcM32.1.cls mj_WS mj_NWs mjc_Ms mjcM32.2.1 pc o := by
  have h : mj_all (mj_is mj_kl mjcM32.1.cls mj_WS mj_NWs mjc_Ms mjcM32.2.1) 0 mjco32 := by
    unfold mjco32
    refine mj_all_cons 1 rfl (Or.inl ⟨0, by decide +kernel, rfl, rfl⟩) ?_
    refine mj_all_cons 2 rfl (Or.inl ⟨by decide +kernel, rfl⟩) ?_
    refine mj_all_cons 3 rfl (⟨47, "ListSpeaker$Pairs", mjF2, 12, mjt2, by decide +kernel, rfl, by decide, mw_134, mjw2, mjk2, mjn2, rfl, by decide +kernel⟩) ?_
    refine mj_all_cons 4 rfl (trivial) ?_
    refine mj_all_cons 5 rfl (trivial) ?_
    refine mj_all_cons 6 rfl (Or.inl ⟨0, by decide +kernel, rfl, rfl⟩) ?_
    refine mj_all_cons 7 rfl (⟨28, "ListSpeaker$Pairs", mjF2, 12, by decide +kernel, rfl, by decide, mw_129, mjw2⟩) ?_
    refine mj_all_cons 8 rfl (trivial) ?_
    refine mj_all_cons 9 rfl (trivial) ?_
    refine mj_all_cons 10 rfl (Or.inl ⟨by decide +kernel, rfl⟩) ?_
    refine mj_all_cons 11 rfl (Or.inl ⟨1, by decide +kernel, rfl, rfl⟩) ?_
    refine mj_all_cons 12 rfl (show _ = _ from by decide +kernel) ?_
    refine mj_all_cons 13 rfl (Or.inl ⟨0, by decide +kernel, rfl, rfl⟩) ?_
    refine mj_all_cons 14 rfl (⟨31, "ListSpeaker$Pairs", mjF2, 12, by decide +kernel, rfl, by decide, mw_130, mjw2⟩) ?_
    refine mj_all_cons 15 rfl (trivial) ?_
    refine mj_all_cons 16 rfl (trivial) ?_
    refine mj_all_cons 17 rfl (Or.inl ⟨by decide +kernel, rfl⟩) ?_
    refine mj_all_cons 18 rfl (Or.inl ⟨2, by decide +kernel, rfl, rfl⟩) ?_
    refine mj_all_cons 19 rfl (show _ = _ from by decide +kernel) ?_
    refine mj_all_cons 20 rfl (Or.inl ⟨by decide +kernel, rfl⟩) ?_
    refine mj_all_cons 21 rfl (Or.inr ⟨by decide +kernel, rfl⟩) ?_
    refine mj_all_cons 22 rfl (trivial) ?_
    refine mj_all_cons 23 rfl (Or.inl ⟨by decide +kernel, rfl⟩) ?_
    refine mj_all_cons 24 rfl (Or.inr ⟨by decide +kernel, rfl⟩) ?_
    refine mj_all_cons 25 rfl (trivial) ?_
    refine mj_all_cons 26 rfl (Or.inr ⟨by decide +kernel, rfl⟩) ?_
    refine mj_all_cons 27 rfl (trivial) ?_
    refine mj_all_cons 28 rfl (Or.inr (Or.inr (Or.inr (Or.inl ⟨70, by decide +kernel, rfl, mw_729⟩)))) ?_
    refine mj_all_cons 29 rfl (trivial) ?_
    refine mj_all_cons 30 rfl (show _ = _ from by decide +kernel) ?_
    refine mj_all_cons 31 rfl (trivial) ?_
    refine mj_all_cons 32 rfl (trivial) ?_
    refine mj_all_cons 33 rfl (Or.inr ⟨by decide +kernel, rfl⟩) ?_
    refine mj_all_cons 34 rfl (trivial) ?_
    refine mj_all_cons 35 rfl (show _ = _ from by decide +kernel) ?_
    refine mj_all_cons 36 rfl (trivial) ?_
    refine mj_all_cons 37 rfl (trivial) ?_
    refine mj_all_cons 38 rfl (show _ = _ from by decide +kernel) ?_
    refine mj_all_cons 39 rfl (trivial) ?_
    refine mj_all_cons 40 rfl (trivial) ?_
    refine mj_all_cons 41 rfl (Or.inl ⟨0, by decide +kernel, rfl, rfl⟩) ?_
    refine mj_all_cons 42 rfl (⟨28, "ListSpeaker$Pairs", mjF2, 12, by decide +kernel, rfl, by decide, mw_129, mjw2⟩) ?_
    refine mj_all_cons 43 rfl (trivial) ?_
    refine mj_all_cons 44 rfl (trivial) ?_
    refine mj_all_cons 45 rfl (Or.inr ⟨by decide +kernel, rfl⟩) ?_
    refine mj_all_cons 46 rfl (trivial) ?_
    refine mj_all_cons 47 rfl (show _ = _ from by decide +kernel) ?_
    refine mj_all_cons 48 rfl (Or.inr ⟨by decide +kernel, rfl⟩) ?_
    refine mj_all_cons 49 rfl (trivial) ?_
    refine mj_all_cons 50 rfl (Or.inl ⟨0, by decide +kernel, rfl, rfl⟩) ?_
    refine mj_all_cons 51 rfl (⟨31, "ListSpeaker$Pairs", mjF2, 12, by decide +kernel, rfl, by decide, mw_130, mjw2⟩) ?_
    refine mj_all_cons 52 rfl (trivial) ?_
    refine mj_all_cons 53 rfl (trivial) ?_
    refine mj_all_cons 54 rfl (Or.inr ⟨by decide +kernel, rfl⟩) ?_
    refine mj_all_cons 55 rfl (trivial) ?_
    refine mj_all_cons 56 rfl (show _ = _ from by decide +kernel) ?_
    refine mj_all_cons 57 rfl (Or.inr ⟨by decide +kernel, rfl⟩) ?_
    refine mj_all_cons 58 rfl (trivial) ?_
    refine mj_all_cons 59 rfl (Or.inr ⟨by decide +kernel, rfl⟩) ?_
    refine mj_all_cons 60 rfl (trivial) ?_
    refine mj_all_cons 61 rfl (⟨mjcM9, 59, 1, rfl, by decide, mjcd9, mw_1, Or.inr (Or.inr ⟨"ListSpeaker", by decide +kernel, rfl, rfl, mjnw_0, mw_611⟩)⟩) ?_
    refine mj_all_cons 62 rfl (trivial) ?_
    refine mj_all_cons 63 rfl (trivial) ?_
    refine mj_all_cons 64 rfl (show _ = _ from by decide +kernel) ?_
    refine mj_all_cons 65 rfl (trivial) ?_
    refine mj_all_cons 66 rfl (trivial) ?_
    refine mj_all_cons 67 rfl (Or.inr ⟨by decide +kernel, rfl⟩) ?_
    refine mj_all_cons 68 rfl (trivial) ?_
    refine mj_all_cons 69 rfl (⟨mjcM9, 59, 1, rfl, by decide, mjcd9, mw_1, Or.inr (Or.inr ⟨"ListSpeaker", by decide +kernel, rfl, rfl, mjnw_0, mw_611⟩)⟩) ?_
    refine mj_all_cons 70 rfl (trivial) ?_
    refine mj_all_cons 71 rfl (trivial) ?_
    refine mj_all_cons 72 rfl (show _ = _ from by decide +kernel) ?_
    refine mj_all_cons 73 rfl (trivial) ?_
    refine mj_all_cons 74 rfl (trivial) ?_
    refine mj_all_cons 75 rfl (Or.inl ⟨0, by decide +kernel, rfl, rfl⟩) ?_
    refine mj_all_cons 76 rfl (⟨47, "ListSpeaker$Pairs", mjF2, 12, by decide +kernel, rfl, by decide, mw_134, mjw2⟩) ?_
    refine mj_all_cons 77 rfl (trivial) ?_
    refine mj_all_cons 78 rfl (trivial) ?_
    refine mj_all_cons 79 rfl (Or.inl ⟨3, by decide +kernel, rfl, rfl⟩) ?_
    refine mj_all_cons 80 rfl (show _ = _ from by decide +kernel) ?_
    refine mj_all_cons 81 rfl (trivial) ?_
    refine mj_all_cons 82 rfl (trivial) ?_
    refine mj_all_cons 83 rfl (Or.inr ⟨by decide +kernel, rfl⟩) ?_
    refine mj_all_cons 84 rfl (trivial) ?_
    refine mj_all_cons 85 rfl (Or.inl ⟨by decide +kernel, rfl⟩) ?_
    refine mj_all_cons 86 rfl (show _ = _ from by decide +kernel) ?_
    refine mj_all_cons 87 rfl (Or.inr (Or.inr (Or.inl ⟨by decide +kernel, rfl, by decide⟩))) ?_
    refine mj_all_cons 88 rfl (trivial) ?_
    refine mj_all_cons 89 rfl (trivial) ?_
    refine mj_all_cons 90 rfl (show _ = _ from by decide +kernel) ?_
    refine mj_all_cons 91 rfl (trivial) ?_
    refine mj_all_cons 92 rfl (trivial) ?_
    refine mj_all_cons 93 rfl (Or.inl ⟨by decide +kernel, rfl⟩) ?_
    refine mj_all_cons 94 rfl (show _ = _ from by decide +kernel) ?_
    refine mj_all_cons 95 rfl (Or.inl ⟨0, by decide +kernel, rfl, rfl⟩) ?_
    refine mj_all_cons 96 rfl (show _ = _ from by decide +kernel) ?_
    refine mj_all_cons 97 rfl (⟨47, "ListSpeaker$Pairs", mjF2, 12, by decide +kernel, rfl, by decide, mw_134, mjw2⟩) ?_
    refine mj_all_cons 98 rfl (trivial) ?_
    refine mj_all_cons 99 rfl (trivial) ?_
    refine mj_all_cons 100 rfl (Or.inl ⟨by decide +kernel, rfl⟩) ?_
    refine mj_all_cons 101 rfl (show _ = _ from by decide +kernel) ?_
    refine mj_all_cons 102 rfl (⟨47, "ListSpeaker$Pairs", mjF2, 12, mjt2, by decide +kernel, rfl, by decide, mw_134, mjw2, mjk2, mjn2, rfl, by decide +kernel⟩) ?_
    refine mj_all_cons 103 rfl (trivial) ?_
    refine mj_all_cons 104 rfl (trivial) ?_
    refine mj_all_cons 105 rfl (Or.inl ⟨0, by decide +kernel, rfl, rfl⟩) ?_
    refine mj_all_cons 106 rfl (Or.inr ⟨by decide +kernel, rfl⟩) ?_
    refine mj_all_cons 107 rfl (trivial) ?_
    refine mj_all_cons 108 rfl (Or.inl ⟨0, by decide +kernel, rfl, rfl⟩) ?_
    refine mj_all_cons 109 rfl (Or.inr ⟨by decide +kernel, rfl⟩) ?_
    refine mj_all_cons 110 rfl (trivial) ?_
    refine mj_all_cons 111 rfl (⟨mjcM21, 52, 1, rfl, by decide, mjcd21, mw_8, Or.inl ⟨2, mjF2, 12, by decide +kernel, rfl, rfl, rfl, mw_601, mw_602, mw_603⟩⟩) ?_
    refine mj_all_cons 112 rfl (trivial) ?_
    refine mj_all_cons 113 rfl (trivial) ?_
    refine mj_all_cons 114 rfl (Or.inl ⟨0, by decide +kernel, rfl, rfl⟩) ?_
    refine mj_all_cons 115 rfl (Or.inr ⟨by decide +kernel, rfl⟩) ?_
    refine mj_all_cons 116 rfl (trivial) ?_
    refine mj_all_cons 117 rfl (⟨mjcM21, 52, 1, rfl, by decide, mjcd21, mw_8, Or.inl ⟨2, mjF2, 12, by decide +kernel, rfl, rfl, rfl, mw_601, mw_602, mw_603⟩⟩) ?_
    refine mj_all_cons 118 rfl (trivial) ?_
    refine mj_all_cons 119 rfl (trivial) ?_
    refine mj_all_cons 120 rfl (⟨mjcM33, 71, 3, rfl, by decide, mjcd33, mw_8, Or.inl ⟨2, mjF2, 12, by decide +kernel, rfl, rfl, rfl, mw_730, mw_732, mjsel_32⟩⟩) ?_
    refine mj_all_cons 121 rfl (trivial) ?_
    refine mj_all_cons 122 rfl (trivial) ?_
    refine mj_all_cons 123 rfl (Or.inl ⟨0, by decide +kernel, rfl, rfl⟩) ?_
    refine mj_all_cons 124 rfl (Or.inr ⟨by decide +kernel, rfl⟩) ?_
    refine mj_all_cons 125 rfl (trivial) ?_
    refine mj_all_cons 126 rfl (Or.inl ⟨by decide +kernel, rfl⟩) ?_
    refine mj_all_cons 127 rfl (show _ = _ from by decide +kernel) ?_
    refine mj_all_cons 128 rfl (Or.inl ⟨0, by decide +kernel, rfl, rfl⟩) ?_
    refine mj_all_cons 129 rfl (Or.inr ⟨by decide +kernel, rfl⟩) ?_
    refine mj_all_cons 130 rfl (trivial) ?_
    refine mj_all_cons 131 rfl (⟨mjcM20, 56, 1, rfl, by decide, mjcd20, mw_8, Or.inl ⟨2, mjF2, 12, by decide +kernel, rfl, rfl, rfl, mw_605, mw_588, mw_589⟩⟩) ?_
    refine mj_all_cons 132 rfl (trivial) ?_
    refine mj_all_cons 133 rfl (trivial) ?_
    refine mj_all_cons 134 rfl (Or.inl ⟨0, by decide +kernel, rfl, rfl⟩) ?_
    refine mj_all_cons 135 rfl (Or.inr ⟨by decide +kernel, rfl⟩) ?_
    refine mj_all_cons 136 rfl (trivial) ?_
    refine mj_all_cons 137 rfl (⟨mjcM20, 56, 1, rfl, by decide, mjcd20, mw_8, Or.inl ⟨2, mjF2, 12, by decide +kernel, rfl, rfl, rfl, mw_605, mw_588, mw_589⟩⟩) ?_
    refine mj_all_cons 138 rfl (trivial) ?_
    refine mj_all_cons 139 rfl (trivial) ?_
    refine mj_all_cons 140 rfl (⟨mjcM33, 71, 3, rfl, by decide, mjcd33, mw_8, Or.inl ⟨2, mjF2, 12, by decide +kernel, rfl, rfl, rfl, mw_730, mw_732, mjsel_32⟩⟩) ?_
    refine mj_all_cons 141 rfl (trivial) ?_
    refine mj_all_cons 142 rfl (trivial) ?_
    refine mj_all_cons 143 rfl (show _ = _ from by decide +kernel) ?_
    refine mj_all_cons 144 rfl (trivial) ?_
    refine mj_all_cons 145 rfl (trivial) ?_
    refine mj_all_cons 146 rfl (show _ = _ from by decide +kernel) ?_
    refine mj_all_cons 147 rfl (trivial) ?_
    refine mj_all_cons 148 rfl (trivial) ?_
    refine mj_all_cons 149 rfl (Or.inr ⟨by decide +kernel, rfl⟩) ?_
    refine mj_all_cons 150 rfl (trivial) ?_
    refine mj_all_cons 151 rfl (Or.inr ⟨by decide +kernel, rfl⟩) ?_
    refine mj_all_cons 152 rfl (trivial) ?_
    refine mj_all_cons 153 rfl (show _ = _ from by decide +kernel) ?_
    refine mj_all_cons 154 rfl (trivial) ?_
    refine mj_all_cons 155 rfl (trivial) ?_
    refine mj_all_cons 156 rfl (Or.inl ⟨by decide +kernel, rfl⟩) ?_
    refine mj_all_cons 157 rfl (show _ = _ from by decide +kernel) ?_
    refine mj_all_cons 158 rfl (show _ = _ from by decide +kernel) ?_
    refine mj_all_cons 159 rfl (trivial) ?_
    refine mj_all_cons 160 rfl (trivial) ?_
    refine mj_all_cons 161 rfl (show _ = _ from by decide +kernel) ?_
    refine mj_all_cons 162 rfl (trivial) ?_
    refine mj_all_cons 163 rfl (trivial) ?_
    refine mj_all_cons 164 rfl (Or.inl ⟨by decide +kernel, rfl⟩) ?_
    refine mj_all_cons 165 rfl (show _ = _ from by decide +kernel) ?_
    exact trivial
  intro pc o ho
  have := mj_all_get _ 0 h pc o ho
  rw [Nat.zero_add] at this
  exact this
set_option maxRecDepth 100000 in
theorem mjci33 : ∀ (pc : Nat) (o : mj_O), mjco33[pc]? = some o → mj_is mj_kl mjcM33.1.cls mj_WS mj_NWs mjc_Ms mjcM33.2.1 pc o := by
  have h : mj_all (mj_is mj_kl mjcM33.1.cls mj_WS mj_NWs mjc_Ms mjcM33.2.1) 0 mjco33 := by
    unfold mjco33
    refine mj_all_cons 1 rfl (Or.inl ⟨1, by decide +kernel, rfl, rfl⟩) ?_
    refine mj_all_cons 2 rfl (show _ = _ from by decide +kernel) ?_
    refine mj_all_cons 3 rfl (trivial) ?_
    refine mj_all_cons 4 rfl (trivial) ?_
    refine mj_all_cons 5 rfl (Or.inl ⟨1, by decide +kernel, rfl, rfl⟩) ?_
    refine mj_all_cons 6 rfl (Or.inr (Or.inr (Or.inl ⟨by decide +kernel, rfl, by decide⟩))) ?_
    refine mj_all_cons 7 rfl (trivial) ?_
    refine mj_all_cons 8 rfl (trivial) ?_
    refine mj_all_cons 9 rfl (show _ = _ from by decide +kernel) ?_
    refine mj_all_cons 10 rfl (trivial) ?_
    refine mj_all_cons 11 rfl (trivial) ?_
    refine mj_all_cons 12 rfl (Or.inl ⟨0, by decide +kernel, rfl, rfl⟩) ?_
    refine mj_all_cons 13 rfl (⟨28, "ListSpeaker$Pairs", mjF2, 12, by decide +kernel, rfl, by decide, mw_129, mjw2⟩) ?_
    refine mj_all_cons 14 rfl (trivial) ?_
    refine mj_all_cons 15 rfl (trivial) ?_
    refine mj_all_cons 16 rfl (Or.inl ⟨1, by decide +kernel, rfl, rfl⟩) ?_
    refine mj_all_cons 17 rfl (Or.inl ⟨2, by decide +kernel, rfl, rfl⟩) ?_
    refine mj_all_cons 18 rfl (show _ = _ from by decide +kernel) ?_
    refine mj_all_cons 19 rfl (Or.inl ⟨0, by decide +kernel, rfl, rfl⟩) ?_
    refine mj_all_cons 20 rfl (⟨31, "ListSpeaker$Pairs", mjF2, 12, by decide +kernel, rfl, by decide, mw_130, mjw2⟩) ?_
    refine mj_all_cons 21 rfl (trivial) ?_
    refine mj_all_cons 22 rfl (trivial) ?_
    refine mj_all_cons 23 rfl (Or.inl ⟨1, by decide +kernel, rfl, rfl⟩) ?_
    refine mj_all_cons 24 rfl (Or.inl ⟨3, by decide +kernel, rfl, rfl⟩) ?_
    refine mj_all_cons 25 rfl (show _ = _ from by decide +kernel) ?_
    refine mj_all_cons 26 rfl (show _ = _ from by decide +kernel) ?_
    exact trivial
  intro pc o ho
  have := mj_all_get _ 0 h pc o ho
  rw [Nat.zero_add] at this
  exact this
set_option maxRecDepth 100000 in
theorem mjci34 : ∀ (pc : Nat) (o : mj_O), mjco34[pc]? = some o → mj_is mj_kl mjcM34.1.cls mj_WS mj_NWs mjc_Ms mjcM34.2.1 pc o := by
  have h : mj_all (mj_is mj_kl mjcM34.1.cls mj_WS mj_NWs mjc_Ms mjcM34.2.1) 0 mjco34 := by
    unfold mjco34
    refine mj_all_cons 1 rfl (Or.inl ⟨0, by decide +kernel, rfl, rfl⟩) ?_
    refine mj_all_cons 2 rfl (⟨23, "ListSpeaker$Reader", mjF3, 5, by decide +kernel, rfl, by decide, mw_170, mjw3⟩) ?_
    refine mj_all_cons 3 rfl (trivial) ?_
    refine mj_all_cons 4 rfl (trivial) ?_
    refine mj_all_cons 5 rfl (Or.inr (Or.inr (Or.inl ⟨by decide +kernel, rfl, by decide⟩))) ?_
    refine mj_all_cons 6 rfl (trivial) ?_
    refine mj_all_cons 7 rfl (trivial) ?_
    refine mj_all_cons 8 rfl (show _ = _ from by decide +kernel) ?_
    refine mj_all_cons 9 rfl (trivial) ?_
    refine mj_all_cons 10 rfl (trivial) ?_
    refine mj_all_cons 11 rfl (Or.inl ⟨by decide +kernel, rfl⟩) ?_
    refine mj_all_cons 12 rfl (show _ = _ from by decide +kernel) ?_
    refine mj_all_cons 13 rfl (Or.inl ⟨0, by decide +kernel, rfl, rfl⟩) ?_
    refine mj_all_cons 14 rfl (⟨9, "ListSpeaker$Reader", mjF3, 5, by decide +kernel, rfl, by decide, mw_169, mjw3⟩) ?_
    refine mj_all_cons 15 rfl (trivial) ?_
    refine mj_all_cons 16 rfl (trivial) ?_
    refine mj_all_cons 17 rfl (Or.inl ⟨0, by decide +kernel, rfl, rfl⟩) ?_
    refine mj_all_cons 18 rfl (⟨23, "ListSpeaker$Reader", mjF3, 5, by decide +kernel, rfl, by decide, mw_170, mjw3⟩) ?_
    refine mj_all_cons 19 rfl (trivial) ?_
    refine mj_all_cons 20 rfl (trivial) ?_
    refine mj_all_cons 21 rfl (Or.inl ⟨1, by decide +kernel, rfl, rfl⟩) ?_
    refine mj_all_cons 22 rfl (show _ = _ from by decide +kernel) ?_
    refine mj_all_cons 23 rfl (Or.inl ⟨0, by decide +kernel, rfl, rfl⟩) ?_
    refine mj_all_cons 24 rfl (show _ = _ from by decide +kernel) ?_
    refine mj_all_cons 25 rfl (⟨23, "ListSpeaker$Reader", mjF3, 5, by decide +kernel, rfl, by decide, mw_170, mjw3⟩) ?_
    refine mj_all_cons 26 rfl (trivial) ?_
    refine mj_all_cons 27 rfl (trivial) ?_
    refine mj_all_cons 28 rfl (Or.inl ⟨by decide +kernel, rfl⟩) ?_
    refine mj_all_cons 29 rfl (show _ = _ from by decide +kernel) ?_
    refine mj_all_cons 30 rfl (⟨23, "ListSpeaker$Reader", mjF3, 5, mjt3, by decide +kernel, rfl, by decide, mw_170, mjw3, mjk3, mjn3, rfl, by decide +kernel⟩) ?_
    refine mj_all_cons 31 rfl (trivial) ?_
    refine mj_all_cons 32 rfl (trivial) ?_
    refine mj_all_cons 33 rfl (Or.inl ⟨by decide +kernel, rfl⟩) ?_
    refine mj_all_cons 34 rfl (show _ = _ from by decide +kernel) ?_
    exact trivial
  intro pc o ho
  have := mj_all_get _ 0 h pc o ho
  rw [Nat.zero_add] at this
  exact this
set_option maxRecDepth 100000 in
theorem mjci35 : ∀ (pc : Nat) (o : mj_O), mjco35[pc]? = some o → mj_is mj_kl mjcM35.1.cls mj_WS mj_NWs mjc_Ms mjcM35.2.1 pc o := by
  have h : mj_all (mj_is mj_kl mjcM35.1.cls mj_WS mj_NWs mjc_Ms mjcM35.2.1) 0 mjco35 := by
    unfold mjco35
    refine mj_all_cons 1 rfl (Or.inl ⟨0, by decide +kernel, rfl, rfl⟩) ?_
    refine mj_all_cons 2 rfl (⟨23, "ListSpeaker$Reader", mjF3, 5, by decide +kernel, rfl, by decide, mw_170, mjw3⟩) ?_
    refine mj_all_cons 3 rfl (trivial) ?_
    refine mj_all_cons 4 rfl (trivial) ?_
    refine mj_all_cons 5 rfl (Or.inl ⟨1, by decide +kernel, rfl, rfl⟩) ?_
    refine mj_all_cons 6 rfl (Or.inl ⟨0, by decide +kernel, rfl, rfl⟩) ?_
    refine mj_all_cons 7 rfl (Or.inl ⟨by decide +kernel, rfl⟩) ?_
    refine mj_all_cons 8 rfl (⟨23, "ListSpeaker$Reader", mjF3, 5, mjt3, by decide +kernel, rfl, by decide, mw_170, mjw3, mjk3, mjn3, rfl, by decide +kernel⟩) ?_
    refine mj_all_cons 9 rfl (trivial) ?_
    refine mj_all_cons 10 rfl (trivial) ?_
    refine mj_all_cons 11 rfl (Or.inl ⟨1, by decide +kernel, rfl, rfl⟩) ?_
    refine mj_all_cons 12 rfl (show _ = _ from by decide +kernel) ?_
    exact trivial
  intro pc o ho
  have := mj_all_get _ 0 h pc o ho
  rw [Nat.zero_add] at this
  exact this
set_option maxRecDepth 100000 in
theorem mjci36 : ∀ (pc : Nat) (o : mj_O), mjco36[pc]? = some o → mj_is mj_kl mjcM36.1.cls mj_WS mj_NWs mjc_Ms mjcM36.2.1 pc o := by
  have h : mj_all (mj_is mj_kl mjcM36.1.cls mj_WS mj_NWs mjc_Ms mjcM36.2.1) 0 mjco36 := by
    unfold mjco36
    refine mj_all_cons 1 rfl (Or.inl ⟨0, by decide +kernel, rfl, rfl⟩) ?_
    refine mj_all_cons 2 rfl (Or.inl ⟨by decide +kernel, rfl⟩) ?_
    refine mj_all_cons 3 rfl (⟨27, "ListSpeaker$Reader", mjF3, 5, mjt3, by decide +kernel, rfl, by decide, mw_171, mjw3, mjk3, mjn3, rfl, by decide +kernel⟩) ?_
    refine mj_all_cons 4 rfl (trivial) ?_
    refine mj_all_cons 5 rfl (trivial) ?_
    refine mj_all_cons 6 rfl (show _ = _ from by decide +kernel) ?_
    exact trivial
  intro pc o ho
  have := mj_all_get _ 0 h pc o ho
  rw [Nat.zero_add] at this
  exact this
set_option maxRecDepth 100000 in
theorem mjci37 : ∀ (pc : Nat) (o : mj_O), mjco37[pc]? = some o → mj_is mj_kl mjcM37.1.cls mj_WS mj_NWs mjc_Ms mjcM37.2.1 pc o := by
  have h : mj_all (mj_is mj_kl mjcM37.1.cls mj_WS mj_NWs mjc_Ms mjcM37.2.1) 0 mjco37 := by
    unfold mjco37
    refine mj_all_cons 1 rfl (Or.inl ⟨0, by decide +kernel, rfl, rfl⟩) ?_
    refine mj_all_cons 2 rfl (⟨mjcM48, 30, 0, rfl, by decide, mjcd48, mw_10, Or.inl ⟨3, mjF3, 5, by decide +kernel, rfl, rfl, rfl, mw_503, mw_505, mjsel_4⟩⟩) ?_
    refine mj_all_cons 3 rfl (trivial) ?_
    refine mj_all_cons 4 rfl (trivial) ?_
    refine mj_all_cons 5 rfl (Or.inl ⟨0, by decide +kernel, rfl, rfl⟩) ?_
    refine mj_all_cons 6 rfl (⟨27, "ListSpeaker$Reader", mjF3, 5, by decide +kernel, rfl, by decide, mw_171, mjw3⟩) ?_
    refine mj_all_cons 7 rfl (trivial) ?_
    refine mj_all_cons 8 rfl (trivial) ?_
    refine mj_all_cons 9 rfl (Or.inl ⟨0, by decide +kernel, rfl, rfl⟩) ?_
    refine mj_all_cons 10 rfl (⟨23, "ListSpeaker$Reader", mjF3, 5, by decide +kernel, rfl, by decide, mw_170, mjw3⟩) ?_
    refine mj_all_cons 11 rfl (trivial) ?_
    refine mj_all_cons 12 rfl (trivial) ?_
    refine mj_all_cons 13 rfl (show _ = _ from by decide +kernel) ?_
    refine mj_all_cons 14 rfl (trivial) ?_
    refine mj_all_cons 15 rfl (trivial) ?_
    refine mj_all_cons 16 rfl (Or.inl ⟨by decide +kernel, rfl⟩) ?_
    refine mj_all_cons 17 rfl (show _ = _ from by decide +kernel) ?_
    refine mj_all_cons 18 rfl (trivial) ?_
    refine mj_all_cons 19 rfl (trivial) ?_
    refine mj_all_cons 20 rfl (Or.inl ⟨by decide +kernel, rfl⟩) ?_
    refine mj_all_cons 21 rfl (show _ = _ from by decide +kernel) ?_
    exact trivial
  intro pc o ho
  have := mj_all_get _ 0 h pc o ho
  rw [Nat.zero_add] at this
  exact this
set_option maxRecDepth 100000 in
theorem mjci38 : ∀ (pc : Nat) (o : mj_O), mjco38[pc]? = some o → mj_is mj_kl mjcM38.1.cls mj_WS mj_NWs mjc_Ms mjcM38.2.1 pc o := by
  have h : mj_all (mj_is mj_kl mjcM38.1.cls mj_WS mj_NWs mjc_Ms mjcM38.2.1) 0 mjco38 := by
    unfold mjco38
    refine mj_all_cons 1 rfl (Or.inl ⟨0, by decide +kernel, rfl, rfl⟩) ?_
    refine mj_all_cons 2 rfl (Or.inl ⟨by decide +kernel, rfl⟩) ?_
    refine mj_all_cons 3 rfl (⟨mjcM39, 33, 1, rfl, by decide, mjcd39, mw_10, Or.inl ⟨3, mjF3, 5, by decide +kernel, rfl, rfl, rfl, mw_515, mw_517, mjsel_5⟩⟩) ?_
    refine mj_all_cons 4 rfl (trivial) ?_
    refine mj_all_cons 5 rfl (trivial) ?_
    refine mj_all_cons 6 rfl (show _ = _ from by decide +kernel) ?_
    exact trivial
  intro pc o ho
  have := mj_all_get _ 0 h pc o ho
  rw [Nat.zero_add] at this
  exact this
set_option maxRecDepth 100000 in
theorem mjci39 : ∀ (pc : Nat) (o : mj_O), mjco39[pc]? = some o → mj_is mj_kl mjcM39.1.cls mj_WS mj_NWs mjc_Ms mjcM39.2.1 pc o := by
  have h : mj_all (mj_is mj_kl mjcM39.1.cls mj_WS mj_NWs mjc_Ms mjcM39.2.1) 0 mjco39 := by
    unfold mjco39
    refine mj_all_cons 1 rfl (Or.inl ⟨1, by decide +kernel, rfl, rfl⟩) ?_
    refine mj_all_cons 2 rfl (Or.inr (Or.inl ⟨by decide +kernel, rfl, by decide⟩)) ?_
    refine mj_all_cons 3 rfl (trivial) ?_
    refine mj_all_cons 4 rfl (show _ = _ from by decide +kernel) ?_
    refine mj_all_cons 5 rfl (trivial) ?_
    refine mj_all_cons 6 rfl (trivial) ?_
    refine mj_all_cons 7 rfl (Or.inl ⟨by decide +kernel, rfl⟩) ?_
    refine mj_all_cons 8 rfl (show _ = _ from by decide +kernel) ?_
    refine mj_all_cons 9 rfl (Or.inl ⟨0, by decide +kernel, rfl, rfl⟩) ?_
    refine mj_all_cons 10 rfl (⟨mjcM48, 30, 0, rfl, by decide, mjcd48, mw_10, Or.inl ⟨3, mjF3, 5, by decide +kernel, rfl, rfl, rfl, mw_503, mw_505, mjsel_4⟩⟩) ?_
    refine mj_all_cons 11 rfl (trivial) ?_
    refine mj_all_cons 12 rfl (trivial) ?_
    refine mj_all_cons 13 rfl (Or.inl ⟨0, by decide +kernel, rfl, rfl⟩) ?_
    refine mj_all_cons 14 rfl (Or.inr (Or.inl ⟨by decide +kernel, rfl, by decide⟩)) ?_
    refine mj_all_cons 15 rfl (trivial) ?_
    refine mj_all_cons 16 rfl (⟨mjcM49, 37, 1, rfl, by decide, mjcd49, mw_10, Or.inl ⟨3, mjF3, 5, by decide +kernel, rfl, rfl, rfl, mw_519, mw_521, mjsel_6⟩⟩) ?_
    refine mj_all_cons 17 rfl (trivial) ?_
    refine mj_all_cons 18 rfl (trivial) ?_
    refine mj_all_cons 19 rfl (show _ = _ from by decide +kernel) ?_
    refine mj_all_cons 20 rfl (trivial) ?_
    refine mj_all_cons 21 rfl (trivial) ?_
    refine mj_all_cons 22 rfl (Or.inl ⟨0, by decide +kernel, rfl, rfl⟩) ?_
    refine mj_all_cons 23 rfl (show _ = _ from by decide +kernel) ?_
    refine mj_all_cons 24 rfl (⟨27, "ListSpeaker$Reader", mjF3, 5, by decide +kernel, rfl, by decide, mw_171, mjw3⟩) ?_
    refine mj_all_cons 25 rfl (trivial) ?_
    refine mj_all_cons 26 rfl (trivial) ?_
    refine mj_all_cons 27 rfl (Or.inl ⟨by decide +kernel, rfl⟩) ?_
    refine mj_all_cons 28 rfl (show _ = _ from by decide +kernel) ?_
    refine mj_all_cons 29 rfl (⟨27, "ListSpeaker$Reader", mjF3, 5, mjt3, by decide +kernel, rfl, by decide, mw_171, mjw3, mjk3, mjn3, rfl, by decide +kernel⟩) ?_
    refine mj_all_cons 30 rfl (trivial) ?_
    refine mj_all_cons 31 rfl (trivial) ?_
    refine mj_all_cons 32 rfl (Or.inl ⟨0, by decide +kernel, rfl, rfl⟩) ?_
    refine mj_all_cons 33 rfl (Or.inl ⟨1, by decide +kernel, rfl, rfl⟩) ?_
    refine mj_all_cons 34 rfl (Or.inl ⟨by decide +kernel, rfl⟩) ?_
    refine mj_all_cons 35 rfl (show _ = _ from by decide +kernel) ?_
    refine mj_all_cons 36 rfl (⟨mjcM40, 41, 1, rfl, by decide, mjcd40, mw_10, Or.inl ⟨3, mjF3, 5, by decide +kernel, rfl, rfl, rfl, mw_523, mw_525, mjsel_7⟩⟩) ?_
    refine mj_all_cons 37 rfl (trivial) ?_
    refine mj_all_cons 38 rfl (trivial) ?_
    refine mj_all_cons 39 rfl (show _ = _ from by decide +kernel) ?_
    refine mj_all_cons 40 rfl (Or.inl ⟨0, by decide +kernel, rfl, rfl⟩) ?_
    refine mj_all_cons 41 rfl (Or.inr (Or.inl ⟨by decide +kernel, rfl, by decide⟩)) ?_
    refine mj_all_cons 42 rfl (trivial) ?_
    refine mj_all_cons 43 rfl (⟨mjcM49, 37, 1, rfl, by decide, mjcd49, mw_10, Or.inl ⟨3, mjF3, 5, by decide +kernel, rfl, rfl, rfl, mw_519, mw_521, mjsel_6⟩⟩) ?_
    refine mj_all_cons 44 rfl (trivial) ?_
    refine mj_all_cons 45 rfl (trivial) ?_
    refine mj_all_cons 46 rfl (show _ = _ from by decide +kernel) ?_
    refine mj_all_cons 47 rfl (trivial) ?_
    refine mj_all_cons 48 rfl (trivial) ?_
    refine mj_all_cons 49 rfl (Or.inl ⟨0, by decide +kernel, rfl, rfl⟩) ?_
    refine mj_all_cons 50 rfl (show _ = _ from by decide +kernel) ?_
    refine mj_all_cons 51 rfl (⟨27, "ListSpeaker$Reader", mjF3, 5, by decide +kernel, rfl, by decide, mw_171, mjw3⟩) ?_
    refine mj_all_cons 52 rfl (trivial) ?_
    refine mj_all_cons 53 rfl (trivial) ?_
    refine mj_all_cons 54 rfl (Or.inl ⟨by decide +kernel, rfl⟩) ?_
    refine mj_all_cons 55 rfl (show _ = _ from by decide +kernel) ?_
    refine mj_all_cons 56 rfl (⟨27, "ListSpeaker$Reader", mjF3, 5, mjt3, by decide +kernel, rfl, by decide, mw_171, mjw3, mjk3, mjn3, rfl, by decide +kernel⟩) ?_
    refine mj_all_cons 57 rfl (trivial) ?_
    refine mj_all_cons 58 rfl (trivial) ?_
    refine mj_all_cons 59 rfl (Or.inl ⟨0, by decide +kernel, rfl, rfl⟩) ?_
    refine mj_all_cons 60 rfl (Or.inl ⟨1, by decide +kernel, rfl, rfl⟩) ?_
    refine mj_all_cons 61 rfl (Or.inl ⟨by decide +kernel, rfl⟩) ?_
    refine mj_all_cons 62 rfl (show _ = _ from by decide +kernel) ?_
    refine mj_all_cons 63 rfl (⟨mjcM43, 44, 1, rfl, by decide, mjcd43, mw_10, Or.inl ⟨3, mjF3, 5, by decide +kernel, rfl, rfl, rfl, mw_556, mw_558, mjsel_12⟩⟩) ?_
    refine mj_all_cons 64 rfl (trivial) ?_
    refine mj_all_cons 65 rfl (trivial) ?_
    refine mj_all_cons 66 rfl (show _ = _ from by decide +kernel) ?_
    refine mj_all_cons 67 rfl (Or.inl ⟨0, by decide +kernel, rfl, rfl⟩) ?_
    refine mj_all_cons 68 rfl (⟨mjcM44, 47, 0, rfl, by decide, mjcd44, mw_10, Or.inl ⟨3, mjF3, 5, by decide +kernel, rfl, rfl, rfl, mw_561, mw_563, mjsel_13⟩⟩) ?_
    refine mj_all_cons 69 rfl (trivial) ?_
    refine mj_all_cons 70 rfl (trivial) ?_
    refine mj_all_cons 71 rfl (show _ = _ from by decide +kernel) ?_
    exact trivial
  intro pc o ho
  have := mj_all_get _ 0 h pc o ho
  rw [Nat.zero_add] at this
  exact this
