set_option maxRecDepth 100000 in
theorem mjci61 : ∀ (pc : Nat) (o : mj_O), mjco61[pc]? = some o → mj_is mj_kl mjcM61.1.cls mj_WS mj_NWs mjc_Ms mjcM61.2.1 pc o := by
  have h : mj_all (mj_is mj_kl mjcM61.1.cls mj_WS mj_NWs mjc_Ms mjcM61.2.1) 0 mjco61 := by
    unfold mjco61
    refine mj_all_cons 1 rfl (Or.inl ⟨1, by decide +kernel, rfl, rfl⟩) ?_
    refine mj_all_cons 2 rfl (Or.inl ⟨2, by decide +kernel, rfl, rfl⟩) ?_
    refine mj_all_cons 3 rfl (Or.inl ⟨by decide +kernel, rfl⟩) ?_
    refine mj_all_cons 4 rfl (Or.inl ⟨3, by decide +kernel, rfl, rfl⟩) ?_
    refine mj_all_cons 5 rfl (Or.inl ⟨3, by decide +kernel, rfl, rfl⟩) ?_
    refine mj_all_cons 6 rfl (Or.inr (Or.inr (Or.inl ⟨by decide +kernel, rfl, by decide⟩))) ?_
    refine mj_all_cons 7 rfl (trivial) ?_
    refine mj_all_cons 8 rfl (trivial) ?_
    refine mj_all_cons 9 rfl (show _ = _ from by decide +kernel) ?_
    refine mj_all_cons 10 rfl (trivial) ?_
    refine mj_all_cons 11 rfl (trivial) ?_
    refine mj_all_cons 12 rfl (Or.inl ⟨2, by decide +kernel, rfl, rfl⟩) ?_
    refine mj_all_cons 13 rfl (show _ = _ from by decide +kernel) ?_
    refine mj_all_cons 14 rfl (trivial) ?_
    refine mj_all_cons 15 rfl (trivial) ?_
    refine mj_all_cons 16 rfl (Or.inl ⟨2, by decide +kernel, rfl, rfl⟩) ?_
    refine mj_all_cons 17 rfl (Or.inl ⟨0, by decide +kernel, rfl, rfl⟩) ?_
    refine mj_all_cons 18 rfl (⟨21, "ListSpeaker$Code", mjF4, 4, by decide +kernel, rfl, by decide, mw_192, mjw4⟩) ?_
    refine mj_all_cons 19 rfl (trivial) ?_
    refine mj_all_cons 20 rfl (trivial) ?_
    refine mj_all_cons 21 rfl (show _ = _ from by decide +kernel) ?_
    refine mj_all_cons 22 rfl (trivial) ?_
    refine mj_all_cons 23 rfl (trivial) ?_
    refine mj_all_cons 24 rfl (Or.inl ⟨0, by decide +kernel, rfl, rfl⟩) ?_
    refine mj_all_cons 25 rfl (⟨15, "ListSpeaker$Code", mjF4, 4, by decide +kernel, rfl, by decide, mw_190, mjw4⟩) ?_
    refine mj_all_cons 26 rfl (trivial) ?_
    refine mj_all_cons 27 rfl (trivial) ?_
    refine mj_all_cons 28 rfl (Or.inl ⟨2, by decide +kernel, rfl, rfl⟩) ?_
    refine mj_all_cons 29 rfl (show _ = _ from by decide +kernel) ?_
    refine mj_all_cons 30 rfl (Or.inr ⟨by decide +kernel, rfl⟩) ?_
    refine mj_all_cons 31 rfl (trivial) ?_
    refine mj_all_cons 32 rfl (Or.inl ⟨0, by decide +kernel, rfl, rfl⟩) ?_
    refine mj_all_cons 33 rfl (⟨15, "ListSpeaker$Code", mjF4, 4, by decide +kernel, rfl, by decide, mw_190, mjw4⟩) ?_
    refine mj_all_cons 34 rfl (trivial) ?_
    refine mj_all_cons 35 rfl (trivial) ?_
    refine mj_all_cons 36 rfl (Or.inl ⟨2, by decide +kernel, rfl, rfl⟩) ?_
    refine mj_all_cons 37 rfl (Or.inl ⟨0, by decide +kernel, rfl, rfl⟩) ?_
    refine mj_all_cons 38 rfl (⟨21, "ListSpeaker$Code", mjF4, 4, by decide +kernel, rfl, by decide, mw_192, mjw4⟩) ?_
    refine mj_all_cons 39 rfl (trivial) ?_
    refine mj_all_cons 40 rfl (trivial) ?_
    refine mj_all_cons 41 rfl (show _ = _ from by decide +kernel) ?_
    refine mj_all_cons 42 rfl (Or.inr ⟨by decide +kernel, rfl⟩) ?_
    refine mj_all_cons 43 rfl (trivial) ?_
    refine mj_all_cons 44 rfl (Or.inl ⟨2, by decide +kernel, rfl, rfl⟩) ?_
    refine mj_all_cons 45 rfl (show _ = _ from by decide +kernel) ?_
    refine mj_all_cons 46 rfl (trivial) ?_
    refine mj_all_cons 47 rfl (trivial) ?_
    refine mj_all_cons 48 rfl (show _ = _ from by decide +kernel) ?_
    refine mj_all_cons 49 rfl (trivial) ?_
    refine mj_all_cons 50 rfl (trivial) ?_
    refine mj_all_cons 51 rfl (show _ = _ from by decide +kernel) ?_
    exact trivial
  intro pc o ho
  have := mj_all_get _ 0 h pc o ho
  rw [Nat.zero_add] at this
  exact this
set_option maxRecDepth 100000 in
theorem mjci62 : ∀ (pc : Nat) (o : mj_O), mjco62[pc]? = some o → mj_is mj_kl mjcM62.1.cls mj_WS mj_NWs mjc_Ms mjcM62.2.1 pc o := by
  have h : mj_all (mj_is mj_kl mjcM62.1.cls mj_WS mj_NWs mjc_Ms mjcM62.2.1) 0 mjco62 := by
    unfold mjco62
    refine mj_all_cons 1 rfl (Or.inl ⟨0, by decide +kernel, rfl, rfl⟩) ?_
    refine mj_all_cons 2 rfl (Or.inl ⟨by decide +kernel, rfl⟩) ?_
    refine mj_all_cons 3 rfl (⟨26, "ListSpeaker$Maker", mjF5, 5, mjt5, by decide +kernel, rfl, by decide, mw_212, mjw5, mjk5, mjn5, rfl, by decide +kernel⟩) ?_
    refine mj_all_cons 4 rfl (trivial) ?_
    refine mj_all_cons 5 rfl (trivial) ?_
    refine mj_all_cons 6 rfl (Or.inl ⟨0, by decide +kernel, rfl, rfl⟩) ?_
    refine mj_all_cons 7 rfl (Or.inl ⟨1, by decide +kernel, rfl, rfl⟩) ?_
    refine mj_all_cons 8 rfl (Or.inl ⟨by decide +kernel, rfl⟩) ?_
    refine mj_all_cons 9 rfl (Or.inl ⟨by decide +kernel, rfl⟩) ?_
    refine mj_all_cons 10 rfl (Or.inl ⟨by decide +kernel, rfl⟩) ?_
    refine mj_all_cons 11 rfl (⟨mjcM68, 30, 4, rfl, by decide, mjcd68, mw_12, Or.inl ⟨5, mjF5, 5, by decide +kernel, rfl, rfl, rfl, mw_640, mw_642, mjsel_20⟩⟩) ?_
    refine mj_all_cons 12 rfl (trivial) ?_
    refine mj_all_cons 13 rfl (trivial) ?_
    refine mj_all_cons 14 rfl (Or.inl ⟨2, by decide +kernel, rfl, rfl⟩) ?_
    refine mj_all_cons 15 rfl (Or.inl ⟨0, by decide +kernel, rfl, rfl⟩) ?_
    refine mj_all_cons 16 rfl (⟨22, "ListSpeaker$Maker", mjF5, 5, by decide +kernel, rfl, by decide, mw_209, mjw5⟩) ?_
    refine mj_all_cons 17 rfl (trivial) ?_
    refine mj_all_cons 18 rfl (trivial) ?_
    refine mj_all_cons 19 rfl (Or.inl ⟨by decide +kernel, rfl⟩) ?_
    refine mj_all_cons 20 rfl (Or.inl ⟨by decide +kernel, rfl⟩) ?_
    refine mj_all_cons 21 rfl (⟨mjcM59, 34, 2, rfl, by decide, mjcd59, mw_11, Or.inl ⟨4, mjF4, 4, by decide +kernel, rfl, rfl, rfl, mw_644, mw_645, mw_646⟩⟩) ?_
    refine mj_all_cons 22 rfl (trivial) ?_
    refine mj_all_cons 23 rfl (trivial) ?_
    refine mj_all_cons 24 rfl (show _ = _ from by decide +kernel) ?_
    refine mj_all_cons 25 rfl (Or.inl ⟨2, by decide +kernel, rfl, rfl⟩) ?_
    refine mj_all_cons 26 rfl (show _ = _ from by decide +kernel) ?_
    exact trivial
  intro pc o ho
  have := mj_all_get _ 0 h pc o ho
  rw [Nat.zero_add] at this
  exact this
set_option maxRecDepth 100000 in
theorem mjci63 : ∀ (pc : Nat) (o : mj_O), mjco63[pc]? = some o → mj_is mj_kl mjcM63.1.cls mj_WS mj_NWs mjc_Ms mjcM63.2.1 pc o := by
  have h : mj_all (mj_is mj_kl mjcM63.1.cls mj_WS mj_NWs mjc_Ms mjcM63.2.1) 0 mjco63 := by
    unfold mjco63
    refine mj_all_cons 1 rfl (Or.inl ⟨0, by decide +kernel, rfl, rfl⟩) ?_
    refine mj_all_cons 2 rfl (⟨18, "ListSpeaker$Maker", mjF5, 5, by decide +kernel, rfl, by decide, mw_208, mjw5⟩) ?_
    refine mj_all_cons 3 rfl (trivial) ?_
    refine mj_all_cons 4 rfl (trivial) ?_
    refine mj_all_cons 5 rfl (Or.inl ⟨1, by decide +kernel, rfl, rfl⟩) ?_
    refine mj_all_cons 6 rfl (Or.inl ⟨by decide +kernel, rfl⟩) ?_
    refine mj_all_cons 7 rfl (⟨mjcM22, 40, 2, rfl, by decide, mjcd22, mw_8, Or.inl ⟨2, mjF2, 12, by decide +kernel, rfl, rfl, rfl, mw_597, mw_598, mw_599⟩⟩) ?_
    refine mj_all_cons 8 rfl (trivial) ?_
    refine mj_all_cons 9 rfl (trivial) ?_
    refine mj_all_cons 10 rfl (Or.inl ⟨2, by decide +kernel, rfl, rfl⟩) ?_
    refine mj_all_cons 11 rfl (Or.inl ⟨0, by decide +kernel, rfl, rfl⟩) ?_
    refine mj_all_cons 12 rfl (⟨18, "ListSpeaker$Maker", mjF5, 5, by decide +kernel, rfl, by decide, mw_208, mjw5⟩) ?_
    refine mj_all_cons 13 rfl (trivial) ?_
    refine mj_all_cons 14 rfl (trivial) ?_
    refine mj_all_cons 15 rfl (Or.inl ⟨1, by decide +kernel, rfl, rfl⟩) ?_
    refine mj_all_cons 16 rfl (⟨mjcM23, 45, 1, rfl, by decide, mjcd23, mw_8, Or.inl ⟨2, mjF2, 12, by decide +kernel, rfl, rfl, rfl, mw_606, mw_607, mw_608⟩⟩) ?_
    refine mj_all_cons 17 rfl (trivial) ?_
    refine mj_all_cons 18 rfl (trivial) ?_
    refine mj_all_cons 19 rfl (Or.inl ⟨by decide +kernel, rfl⟩) ?_
    refine mj_all_cons 20 rfl (show _ = _ from by decide +kernel) ?_
    refine mj_all_cons 21 rfl (trivial) ?_
    refine mj_all_cons 22 rfl (trivial) ?_
    refine mj_all_cons 23 rfl (Or.inl ⟨2, by decide +kernel, rfl, rfl⟩) ?_
    refine mj_all_cons 24 rfl (⟨mjcM8, 49, 1, rfl, by decide, mjcd8, mw_1, Or.inr (Or.inr ⟨"ListSpeaker", by decide +kernel, rfl, rfl, mjnw_1, mw_615⟩)⟩) ?_
    refine mj_all_cons 25 rfl (trivial) ?_
    refine mj_all_cons 26 rfl (trivial) ?_
    refine mj_all_cons 27 rfl (show _ = _ from by decide +kernel) ?_
    refine mj_all_cons 28 rfl (trivial) ?_
    refine mj_all_cons 29 rfl (trivial) ?_
    refine mj_all_cons 30 rfl (Or.inl ⟨2, by decide +kernel, rfl, rfl⟩) ?_
    refine mj_all_cons 31 rfl (Or.inr (Or.inr (Or.inr (Or.inl ⟨53, by decide +kernel, rfl, mw_618⟩)))) ?_
    refine mj_all_cons 32 rfl (trivial) ?_
    refine mj_all_cons 33 rfl (show _ = _ from by decide +kernel) ?_
    refine mj_all_cons 34 rfl (trivial) ?_
    refine mj_all_cons 35 rfl (trivial) ?_
    refine mj_all_cons 36 rfl (Or.inl ⟨by decide +kernel, rfl⟩) ?_
    refine mj_all_cons 37 rfl (show _ = _ from by decide +kernel) ?_
    refine mj_all_cons 38 rfl (Or.inl ⟨0, by decide +kernel, rfl, rfl⟩) ?_
    refine mj_all_cons 39 rfl (⟨18, "ListSpeaker$Maker", mjF5, 5, by decide +kernel, rfl, by decide, mw_208, mjw5⟩) ?_
    refine mj_all_cons 40 rfl (trivial) ?_
    refine mj_all_cons 41 rfl (trivial) ?_
    refine mj_all_cons 42 rfl (Or.inl ⟨1, by decide +kernel, rfl, rfl⟩) ?_
    refine mj_all_cons 43 rfl (Or.inl ⟨by decide +kernel, rfl⟩) ?_
    refine mj_all_cons 44 rfl (⟨mjcM22, 40, 2, rfl, by decide, mjcd22, mw_8, Or.inl ⟨2, mjF2, 12, by decide +kernel, rfl, rfl, rfl, mw_597, mw_598, mw_599⟩⟩) ?_
    refine mj_all_cons 45 rfl (trivial) ?_
    refine mj_all_cons 46 rfl (trivial) ?_
    refine mj_all_cons 47 rfl (Or.inl ⟨3, by decide +kernel, rfl, rfl⟩) ?_
    refine mj_all_cons 48 rfl (Or.inl ⟨0, by decide +kernel, rfl, rfl⟩) ?_
    refine mj_all_cons 49 rfl (⟨18, "ListSpeaker$Maker", mjF5, 5, by decide +kernel, rfl, by decide, mw_208, mjw5⟩) ?_
    refine mj_all_cons 50 rfl (trivial) ?_
    refine mj_all_cons 51 rfl (trivial) ?_
    refine mj_all_cons 52 rfl (Or.inl ⟨3, by decide +kernel, rfl, rfl⟩) ?_
    refine mj_all_cons 53 rfl (⟨mjcM23, 45, 1, rfl, by decide, mjcd23, mw_8, Or.inl ⟨2, mjF2, 12, by decide +kernel, rfl, rfl, rfl, mw_606, mw_607, mw_608⟩⟩) ?_
    refine mj_all_cons 54 rfl (trivial) ?_
    refine mj_all_cons 55 rfl (trivial) ?_
    refine mj_all_cons 56 rfl (Or.inr ⟨by decide +kernel, rfl⟩) ?_
    refine mj_all_cons 57 rfl (trivial) ?_
    refine mj_all_cons 58 rfl (Or.inr ⟨by decide +kernel, rfl⟩) ?_
    refine mj_all_cons 59 rfl (trivial) ?_
    refine mj_all_cons 60 rfl (show _ = _ from by decide +kernel) ?_
    refine mj_all_cons 61 rfl (trivial) ?_
    refine mj_all_cons 62 rfl (trivial) ?_
    refine mj_all_cons 63 rfl (Or.inr ⟨by decide +kernel, rfl⟩) ?_
    refine mj_all_cons 64 rfl (trivial) ?_
    refine mj_all_cons 65 rfl (Or.inl ⟨by decide +kernel, rfl⟩) ?_
    refine mj_all_cons 66 rfl (show _ = _ from by decide +kernel) ?_
    refine mj_all_cons 67 rfl (trivial) ?_
    refine mj_all_cons 68 rfl (trivial) ?_
    refine mj_all_cons 69 rfl (Or.inl ⟨0, by decide +kernel, rfl, rfl⟩) ?_
    refine mj_all_cons 70 rfl (Or.inl ⟨3, by decide +kernel, rfl, rfl⟩) ?_
    refine mj_all_cons 71 rfl (Or.inr ⟨by decide +kernel, rfl⟩) ?_
    refine mj_all_cons 72 rfl (trivial) ?_
    refine mj_all_cons 73 rfl (Or.inl ⟨by decide +kernel, rfl⟩) ?_
    refine mj_all_cons 74 rfl (⟨mjcM64, 54, 3, rfl, by decide, mjcd64, mw_12, Or.inl ⟨5, mjF5, 5, by decide +kernel, rfl, rfl, rfl, mw_619, mw_621, mjsel_17⟩⟩) ?_
    refine mj_all_cons 75 rfl (trivial) ?_
    refine mj_all_cons 76 rfl (trivial) ?_
    refine mj_all_cons 77 rfl (show _ = _ from by decide +kernel) ?_
    refine mj_all_cons 78 rfl (trivial) ?_
    refine mj_all_cons 79 rfl (trivial) ?_
    refine mj_all_cons 80 rfl (Or.inl ⟨by decide +kernel, rfl⟩) ?_
    refine mj_all_cons 81 rfl (show _ = _ from by decide +kernel) ?_
    refine mj_all_cons 82 rfl (Or.inl ⟨0, by decide +kernel, rfl, rfl⟩) ?_
    refine mj_all_cons 83 rfl (Or.inl ⟨by decide +kernel, rfl⟩) ?_
    refine mj_all_cons 84 rfl (⟨26, "ListSpeaker$Maker", mjF5, 5, mjt5, by decide +kernel, rfl, by decide, mw_212, mjw5, mjk5, mjn5, rfl, by decide +kernel⟩) ?_
    refine mj_all_cons 85 rfl (trivial) ?_
    refine mj_all_cons 86 rfl (trivial) ?_
    refine mj_all_cons 87 rfl (Or.inl ⟨by decide +kernel, rfl⟩) ?_
    refine mj_all_cons 88 rfl (Or.inr ⟨by decide +kernel, rfl⟩) ?_
    refine mj_all_cons 89 rfl (trivial) ?_
    refine mj_all_cons 90 rfl (Or.inr ⟨by decide +kernel, rfl⟩) ?_
    refine mj_all_cons 91 rfl (trivial) ?_
    refine mj_all_cons 92 rfl (Or.inr ⟨by decide +kernel, rfl⟩) ?_
    refine mj_all_cons 93 rfl (trivial) ?_
    refine mj_all_cons 94 rfl (show _ = _ from by decide +kernel) ?_
    refine mj_all_cons 95 rfl (trivial) ?_
    refine mj_all_cons 96 rfl (trivial) ?_
    refine mj_all_cons 97 rfl (Or.inl ⟨0, by decide +kernel, rfl, rfl⟩) ?_
    refine mj_all_cons 98 rfl (Or.inl ⟨0, by decide +kernel, rfl, rfl⟩) ?_
    refine mj_all_cons 99 rfl (⟨18, "ListSpeaker$Maker", mjF5, 5, by decide +kernel, rfl, by decide, mw_208, mjw5⟩) ?_
    refine mj_all_cons 100 rfl (trivial) ?_
    refine mj_all_cons 101 rfl (trivial) ?_
    refine mj_all_cons 102 rfl (Or.inl ⟨3, by decide +kernel, rfl, rfl⟩) ?_
    refine mj_all_cons 103 rfl (Or.inr ⟨by decide +kernel, rfl⟩) ?_
    refine mj_all_cons 104 rfl (trivial) ?_
    refine mj_all_cons 105 rfl (⟨mjcM22, 40, 2, rfl, by decide, mjcd22, mw_8, Or.inl ⟨2, mjF2, 12, by decide +kernel, rfl, rfl, rfl, mw_597, mw_598, mw_599⟩⟩) ?_
    refine mj_all_cons 106 rfl (trivial) ?_
    refine mj_all_cons 107 rfl (trivial) ?_
    refine mj_all_cons 108 rfl (Or.inr ⟨by decide +kernel, rfl⟩) ?_
    refine mj_all_cons 109 rfl (trivial) ?_
    refine mj_all_cons 110 rfl (⟨mjcM67, 58, 2, rfl, by decide, mjcd67, mw_12, Or.inl ⟨5, mjF5, 5, by decide +kernel, rfl, rfl, rfl, mw_636, mw_638, mjsel_19⟩⟩) ?_
    refine mj_all_cons 111 rfl (trivial) ?_
    refine mj_all_cons 112 rfl (trivial) ?_
    refine mj_all_cons 113 rfl (show _ = _ from by decide +kernel) ?_
    refine mj_all_cons 114 rfl (trivial) ?_
    refine mj_all_cons 115 rfl (trivial) ?_
    refine mj_all_cons 116 rfl (show _ = _ from by decide +kernel) ?_
    refine mj_all_cons 117 rfl (trivial) ?_
    refine mj_all_cons 118 rfl (trivial) ?_
    refine mj_all_cons 119 rfl (Or.inl ⟨0, by decide +kernel, rfl, rfl⟩) ?_
    refine mj_all_cons 120 rfl (Or.inl ⟨0, by decide +kernel, rfl, rfl⟩) ?_
    refine mj_all_cons 121 rfl (⟨18, "ListSpeaker$Maker", mjF5, 5, by decide +kernel, rfl, by decide, mw_208, mjw5⟩) ?_
    refine mj_all_cons 122 rfl (trivial) ?_
    refine mj_all_cons 123 rfl (trivial) ?_
    refine mj_all_cons 124 rfl (Or.inl ⟨1, by decide +kernel, rfl, rfl⟩) ?_
    refine mj_all_cons 125 rfl (Or.inl ⟨by decide +kernel, rfl⟩) ?_
    refine mj_all_cons 126 rfl (⟨mjcM22, 40, 2, rfl, by decide, mjcd22, mw_8, Or.inl ⟨2, mjF2, 12, by decide +kernel, rfl, rfl, rfl, mw_597, mw_598, mw_599⟩⟩) ?_
    refine mj_all_cons 127 rfl (trivial) ?_
    refine mj_all_cons 128 rfl (trivial) ?_
    refine mj_all_cons 129 rfl (Or.inr ⟨by decide +kernel, rfl⟩) ?_
    refine mj_all_cons 130 rfl (trivial) ?_
    refine mj_all_cons 131 rfl (Or.inl ⟨by decide +kernel, rfl⟩) ?_
    refine mj_all_cons 132 rfl (show _ = _ from by decide +kernel) ?_
    refine mj_all_cons 133 rfl (Or.inl ⟨by decide +kernel, rfl⟩) ?_
    refine mj_all_cons 134 rfl (Or.inl ⟨by decide +kernel, rfl⟩) ?_
    refine mj_all_cons 135 rfl (⟨mjcM68, 30, 4, rfl, by decide, mjcd68, mw_12, Or.inl ⟨5, mjF5, 5, by decide +kernel, rfl, rfl, rfl, mw_640, mw_642, mjsel_20⟩⟩) ?_
    refine mj_all_cons 136 rfl (trivial) ?_
    refine mj_all_cons 137 rfl (trivial) ?_
    refine mj_all_cons 138 rfl (Or.inr ⟨by decide +kernel, rfl⟩) ?_
    refine mj_all_cons 139 rfl (trivial) ?_
    refine mj_all_cons 140 rfl (Or.inl ⟨0, by decide +kernel, rfl, rfl⟩) ?_
    refine mj_all_cons 141 rfl (⟨22, "ListSpeaker$Maker", mjF5, 5, by decide +kernel, rfl, by decide, mw_209, mjw5⟩) ?_
    refine mj_all_cons 142 rfl (trivial) ?_
    refine mj_all_cons 143 rfl (trivial) ?_
    refine mj_all_cons 144 rfl (Or.inr (Or.inl ⟨by decide +kernel, rfl, by decide⟩)) ?_
    refine mj_all_cons 145 rfl (trivial) ?_
    refine mj_all_cons 146 rfl (Or.inl ⟨by decide +kernel, rfl⟩) ?_
    refine mj_all_cons 147 rfl (⟨mjcM59, 34, 2, rfl, by decide, mjcd59, mw_11, Or.inl ⟨4, mjF4, 4, by decide +kernel, rfl, rfl, rfl, mw_644, mw_645, mw_646⟩⟩) ?_
    refine mj_all_cons 148 rfl (trivial) ?_
    refine mj_all_cons 149 rfl (trivial) ?_
    refine mj_all_cons 150 rfl (show _ = _ from by decide +kernel) ?_
    refine mj_all_cons 151 rfl (Or.inr ⟨by decide +kernel, rfl⟩) ?_
    refine mj_all_cons 152 rfl (trivial) ?_
    refine mj_all_cons 153 rfl (show _ = _ from by decide +kernel) ?_
    exact trivial
  intro pc o ho
  have := mj_all_get _ 0 h pc o ho
  rw [Nat.zero_add] at this
  exact this
set_option maxRecDepth 100000 in
theorem mjci64 : ∀ (pc : Nat) (o : mj_O), mjco64[pc]? = some o → mj_is mj_kl mjcM64.1.cls mj_WS mj_NWs mjc_Ms mjcM64.2.1 pc o := by
  have h : mj_all (mj_is mj_kl mjcM64.1.cls mj_WS mj_NWs mjc_Ms mjcM64.2.1) 0 mjco64 := by
    unfold mjco64
    refine mj_all_cons 1 rfl (Or.inl ⟨1, by decide +kernel, rfl, rfl⟩) ?_
    refine mj_all_cons 2 rfl (Or.inr ⟨by decide +kernel, rfl⟩) ?_
    refine mj_all_cons 3 rfl (trivial) ?_
    refine mj_all_cons 4 rfl (Or.inl ⟨by decide +kernel, rfl⟩) ?_
    refine mj_all_cons 5 rfl (Or.inr ⟨by decide +kernel, rfl⟩) ?_
    refine mj_all_cons 6 rfl (trivial) ?_
    refine mj_all_cons 7 rfl (Or.inr ⟨by decide +kernel, rfl⟩) ?_
    refine mj_all_cons 8 rfl (trivial) ?_
    refine mj_all_cons 9 rfl (Or.inl ⟨2, by decide +kernel, rfl, rfl⟩) ?_
    refine mj_all_cons 10 rfl (show _ = _ from by decide +kernel) ?_
    refine mj_all_cons 11 rfl (trivial) ?_
    refine mj_all_cons 12 rfl (trivial) ?_
    refine mj_all_cons 13 rfl (Or.inl ⟨0, by decide +kernel, rfl, rfl⟩) ?_
    refine mj_all_cons 14 rfl (Or.inl ⟨0, by decide +kernel, rfl, rfl⟩) ?_
    refine mj_all_cons 15 rfl (⟨18, "ListSpeaker$Maker", mjF5, 5, by decide +kernel, rfl, by decide, mw_208, mjw5⟩) ?_
    refine mj_all_cons 16 rfl (trivial) ?_
    refine mj_all_cons 17 rfl (trivial) ?_
    refine mj_all_cons 18 rfl (Or.inr ⟨by decide +kernel, rfl⟩) ?_
    refine mj_all_cons 19 rfl (trivial) ?_
    refine mj_all_cons 20 rfl (⟨mjcM20, 62, 1, rfl, by decide, mjcd20, mw_8, Or.inl ⟨2, mjF2, 12, by decide +kernel, rfl, rfl, rfl, mw_623, mw_588, mw_589⟩⟩) ?_
    refine mj_all_cons 21 rfl (trivial) ?_
    refine mj_all_cons 22 rfl (trivial) ?_
    refine mj_all_cons 23 rfl (Or.inl ⟨3, by decide +kernel, rfl, rfl⟩) ?_
    refine mj_all_cons 24 rfl (⟨mjcM65, 65, 2, rfl, by decide, mjcd65, mw_12, Or.inl ⟨5, mjF5, 5, by decide +kernel, rfl, rfl, rfl, mw_624, mw_626, mjsel_18⟩⟩) ?_
    refine mj_all_cons 25 rfl (trivial) ?_
    refine mj_all_cons 26 rfl (trivial) ?_
    refine mj_all_cons 27 rfl (Or.inr ⟨by decide +kernel, rfl⟩) ?_
    refine mj_all_cons 28 rfl (trivial) ?_
    refine mj_all_cons 29 rfl (Or.inr ⟨by decide +kernel, rfl⟩) ?_
    refine mj_all_cons 30 rfl (trivial) ?_
    refine mj_all_cons 31 rfl (⟨mjcM66, 69, 1, rfl, by decide, mjcd66, mw_12, Or.inr (Or.inl ⟨by decide +kernel, rfl, rfl, mw_628, mw_629⟩)⟩) ?_
    refine mj_all_cons 32 rfl (trivial) ?_
    refine mj_all_cons 33 rfl (trivial) ?_
    refine mj_all_cons 34 rfl (show _ = _ from by decide +kernel) ?_
    refine mj_all_cons 35 rfl (trivial) ?_
    refine mj_all_cons 36 rfl (trivial) ?_
    refine mj_all_cons 37 rfl (Or.inl ⟨by decide +kernel, rfl⟩) ?_
    refine mj_all_cons 38 rfl (show _ = _ from by decide +kernel) ?_
    refine mj_all_cons 39 rfl (Or.inl ⟨1, by decide +kernel, rfl, rfl⟩) ?_
    refine mj_all_cons 40 rfl (Or.inr ⟨by decide +kernel, rfl⟩) ?_
    refine mj_all_cons 41 rfl (trivial) ?_
    refine mj_all_cons 42 rfl (Or.inl ⟨by decide +kernel, rfl⟩) ?_
    refine mj_all_cons 43 rfl (Or.inr ⟨by decide +kernel, rfl⟩) ?_
    refine mj_all_cons 44 rfl (trivial) ?_
    refine mj_all_cons 45 rfl (Or.inr ⟨by decide +kernel, rfl⟩) ?_
    refine mj_all_cons 46 rfl (trivial) ?_
    refine mj_all_cons 47 rfl (Or.inr ⟨by decide +kernel, rfl⟩) ?_
    refine mj_all_cons 48 rfl (trivial) ?_
    refine mj_all_cons 49 rfl (show _ = _ from by decide +kernel) ?_
    refine mj_all_cons 50 rfl (trivial) ?_
    refine mj_all_cons 51 rfl (trivial) ?_
    refine mj_all_cons 52 rfl (Or.inl ⟨0, by decide +kernel, rfl, rfl⟩) ?_
    refine mj_all_cons 53 rfl (Or.inl ⟨0, by decide +kernel, rfl, rfl⟩) ?_
    refine mj_all_cons 54 rfl (⟨18, "ListSpeaker$Maker", mjF5, 5, by decide +kernel, rfl, by decide, mw_208, mjw5⟩) ?_
    refine mj_all_cons 55 rfl (trivial) ?_
    refine mj_all_cons 56 rfl (trivial) ?_
    refine mj_all_cons 57 rfl (Or.inr ⟨by decide +kernel, rfl⟩) ?_
    refine mj_all_cons 58 rfl (trivial) ?_
    refine mj_all_cons 59 rfl (⟨mjcM20, 62, 1, rfl, by decide, mjcd20, mw_8, Or.inl ⟨2, mjF2, 12, by decide +kernel, rfl, rfl, rfl, mw_623, mw_588, mw_589⟩⟩) ?_
    refine mj_all_cons 60 rfl (trivial) ?_
    refine mj_all_cons 61 rfl (trivial) ?_
    refine mj_all_cons 62 rfl (Or.inl ⟨3, by decide +kernel, rfl, rfl⟩) ?_
    refine mj_all_cons 63 rfl (⟨mjcM65, 65, 2, rfl, by decide, mjcd65, mw_12, Or.inl ⟨5, mjF5, 5, by decide +kernel, rfl, rfl, rfl, mw_624, mw_626, mjsel_18⟩⟩) ?_
    refine mj_all_cons 64 rfl (trivial) ?_
    refine mj_all_cons 65 rfl (trivial) ?_
    refine mj_all_cons 66 rfl (Or.inr ⟨by decide +kernel, rfl⟩) ?_
    refine mj_all_cons 67 rfl (trivial) ?_
    refine mj_all_cons 68 rfl (show _ = _ from by decide +kernel) ?_
    refine mj_all_cons 69 rfl (trivial) ?_
    refine mj_all_cons 70 rfl (trivial) ?_
    refine mj_all_cons 71 rfl (Or.inl ⟨by decide +kernel, rfl⟩) ?_
    refine mj_all_cons 72 rfl (show _ = _ from by decide +kernel) ?_
    refine mj_all_cons 73 rfl (Or.inl ⟨0, by decide +kernel, rfl, rfl⟩) ?_
    refine mj_all_cons 74 rfl (⟨18, "ListSpeaker$Maker", mjF5, 5, by decide +kernel, rfl, by decide, mw_208, mjw5⟩) ?_
    refine mj_all_cons 75 rfl (trivial) ?_
    refine mj_all_cons 76 rfl (trivial) ?_
    refine mj_all_cons 77 rfl (Or.inr ⟨by decide +kernel, rfl⟩) ?_
    refine mj_all_cons 78 rfl (trivial) ?_
    refine mj_all_cons 79 rfl (⟨mjcM21, 72, 1, rfl, by decide, mjcd21, mw_8, Or.inl ⟨2, mjF2, 12, by decide +kernel, rfl, rfl, rfl, mw_635, mw_602, mw_603⟩⟩) ?_
    refine mj_all_cons 80 rfl (trivial) ?_
    refine mj_all_cons 81 rfl (trivial) ?_
    refine mj_all_cons 82 rfl (Or.inr ⟨by decide +kernel, rfl⟩) ?_
    refine mj_all_cons 83 rfl (trivial) ?_
    refine mj_all_cons 84 rfl (show _ = _ from by decide +kernel) ?_
    refine mj_all_cons 85 rfl (trivial) ?_
    refine mj_all_cons 86 rfl (trivial) ?_
    refine mj_all_cons 87 rfl (show _ = _ from by decide +kernel) ?_
    refine mj_all_cons 88 rfl (trivial) ?_
    refine mj_all_cons 89 rfl (trivial) ?_
    refine mj_all_cons 90 rfl (Or.inl ⟨0, by decide +kernel, rfl, rfl⟩) ?_
    refine mj_all_cons 91 rfl (⟨18, "ListSpeaker$Maker", mjF5, 5, by decide +kernel, rfl, by decide, mw_208, mjw5⟩) ?_
    refine mj_all_cons 92 rfl (trivial) ?_
    refine mj_all_cons 93 rfl (trivial) ?_
    refine mj_all_cons 94 rfl (Or.inr ⟨by decide +kernel, rfl⟩) ?_
    refine mj_all_cons 95 rfl (trivial) ?_
    refine mj_all_cons 96 rfl (⟨mjcM21, 72, 1, rfl, by decide, mjcd21, mw_8, Or.inl ⟨2, mjF2, 12, by decide +kernel, rfl, rfl, rfl, mw_635, mw_602, mw_603⟩⟩) ?_
    refine mj_all_cons 97 rfl (trivial) ?_
    refine mj_all_cons 98 rfl (trivial) ?_
    refine mj_all_cons 99 rfl (Or.inr ⟨by decide +kernel, rfl⟩) ?_
    refine mj_all_cons 100 rfl (trivial) ?_
    refine mj_all_cons 101 rfl (show _ = _ from by decide +kernel) ?_
    refine mj_all_cons 102 rfl (trivial) ?_
    refine mj_all_cons 103 rfl (trivial) ?_
    refine mj_all_cons 104 rfl (show _ = _ from by decide +kernel) ?_
    refine mj_all_cons 105 rfl (trivial) ?_
    refine mj_all_cons 106 rfl (trivial) ?_
    refine mj_all_cons 107 rfl (Or.inl ⟨by decide +kernel, rfl⟩) ?_
    refine mj_all_cons 108 rfl (show _ = _ from by decide +kernel) ?_
    exact trivial
  intro pc o ho
  have := mj_all_get _ 0 h pc o ho
  rw [Nat.zero_add] at this
  exact this
set_option maxRecDepth 100000 in
theorem mjci65 : ∀ (pc : Nat) (o : mj_O), mjco65[pc]? = some o → mj_is mj_kl mjcM65.1.cls mj_WS mj_NWs mjc_Ms mjcM65.2.1 pc o := by
  have h : mj_all (mj_is mj_kl mjcM65.1.cls mj_WS mj_NWs mjc_Ms mjcM65.2.1) 0 mjco65 := by
    unfold mjco65
    refine mj_all_cons 1 rfl (Or.inl ⟨2, by decide +kernel, rfl, rfl⟩) ?_
    refine mj_all_cons 2 rfl (show _ = _ from by decide +kernel) ?_
    refine mj_all_cons 3 rfl (trivial) ?_
    refine mj_all_cons 4 rfl (trivial) ?_
    refine mj_all_cons 5 rfl (Or.inl ⟨0, by decide +kernel, rfl, rfl⟩) ?_
    refine mj_all_cons 6 rfl (⟨18, "ListSpeaker$Maker", mjF5, 5, by decide +kernel, rfl, by decide, mw_208, mjw5⟩) ?_
    refine mj_all_cons 7 rfl (trivial) ?_
    refine mj_all_cons 8 rfl (trivial) ?_
    refine mj_all_cons 9 rfl (Or.inl ⟨1, by decide +kernel, rfl, rfl⟩) ?_
    refine mj_all_cons 10 rfl (⟨mjcM20, 62, 1, rfl, by decide, mjcd20, mw_8, Or.inl ⟨2, mjF2, 12, by decide +kernel, rfl, rfl, rfl, mw_623, mw_588, mw_589⟩⟩) ?_
    refine mj_all_cons 11 rfl (trivial) ?_
    refine mj_all_cons 12 rfl (trivial) ?_
    refine mj_all_cons 13 rfl (show _ = _ from by decide +kernel) ?_
    refine mj_all_cons 14 rfl (trivial) ?_
    refine mj_all_cons 15 rfl (trivial) ?_
    refine mj_all_cons 16 rfl (Or.inl ⟨1, by decide +kernel, rfl, rfl⟩) ?_
    refine mj_all_cons 17 rfl (show _ = _ from by decide +kernel) ?_
    exact trivial
  intro pc o ho
  have := mj_all_get _ 0 h pc o ho
  rw [Nat.zero_add] at this
  exact this
set_option maxRecDepth 100000 in
theorem mjci66 : ∀ (pc : Nat) (o : mj_O), mjco66[pc]? = some o → mj_is mj_kl mjcM66.1.cls mj_WS mj_NWs mjc_Ms mjcM66.2.1 pc o := by
  have h : mj_all (mj_is mj_kl mjcM66.1.cls mj_WS mj_NWs mjc_Ms mjcM66.2.1) 0 mjco66 := by
    unfold mjco66
    refine mj_all_cons 1 rfl (Or.inl ⟨0, by decide +kernel, rfl, rfl⟩) ?_
    refine mj_all_cons 2 rfl (⟨mjcM8, 49, 1, rfl, by decide, mjcd8, mw_1, Or.inr (Or.inr ⟨"ListSpeaker", by decide +kernel, rfl, rfl, mjnw_1, mw_615⟩)⟩) ?_
    refine mj_all_cons 3 rfl (trivial) ?_
    refine mj_all_cons 4 rfl (trivial) ?_
    refine mj_all_cons 5 rfl (show _ = _ from by decide +kernel) ?_
    refine mj_all_cons 6 rfl (trivial) ?_
    refine mj_all_cons 7 rfl (trivial) ?_
    refine mj_all_cons 8 rfl (Or.inl ⟨0, by decide +kernel, rfl, rfl⟩) ?_
    refine mj_all_cons 9 rfl (Or.inr (Or.inr (Or.inr (Or.inl ⟨75, by decide +kernel, rfl, mw_631⟩)))) ?_
    refine mj_all_cons 10 rfl (trivial) ?_
    refine mj_all_cons 11 rfl (show _ = _ from by decide +kernel) ?_
    refine mj_all_cons 12 rfl (trivial) ?_
    refine mj_all_cons 13 rfl (trivial) ?_
    refine mj_all_cons 14 rfl (Or.inl ⟨0, by decide +kernel, rfl, rfl⟩) ?_
    refine mj_all_cons 15 rfl (Or.inr (Or.inr (Or.inr (Or.inl ⟨76, by decide +kernel, rfl, mw_632⟩)))) ?_
    refine mj_all_cons 16 rfl (trivial) ?_
    refine mj_all_cons 17 rfl (show _ = _ from by decide +kernel) ?_
    refine mj_all_cons 18 rfl (trivial) ?_
    refine mj_all_cons 19 rfl (trivial) ?_
    refine mj_all_cons 20 rfl (Or.inl ⟨0, by decide +kernel, rfl, rfl⟩) ?_
    refine mj_all_cons 21 rfl (Or.inr (Or.inr (Or.inr (Or.inl ⟨77, by decide +kernel, rfl, mw_633⟩)))) ?_
    refine mj_all_cons 22 rfl (trivial) ?_
    refine mj_all_cons 23 rfl (show _ = _ from by decide +kernel) ?_
    refine mj_all_cons 24 rfl (trivial) ?_
    refine mj_all_cons 25 rfl (trivial) ?_
    refine mj_all_cons 26 rfl (Or.inl ⟨0, by decide +kernel, rfl, rfl⟩) ?_
    refine mj_all_cons 27 rfl (Or.inr (Or.inr (Or.inr (Or.inl ⟨78, by decide +kernel, rfl, mw_634⟩)))) ?_
    refine mj_all_cons 28 rfl (trivial) ?_
    refine mj_all_cons 29 rfl (show _ = _ from by decide +kernel) ?_
    refine mj_all_cons 30 rfl (trivial) ?_
    refine mj_all_cons 31 rfl (trivial) ?_
    refine mj_all_cons 32 rfl (Or.inl ⟨by decide +kernel, rfl⟩) ?_
    refine mj_all_cons 33 rfl (show _ = _ from by decide +kernel) ?_
    refine mj_all_cons 34 rfl (trivial) ?_
    refine mj_all_cons 35 rfl (trivial) ?_
    refine mj_all_cons 36 rfl (Or.inl ⟨by decide +kernel, rfl⟩) ?_
    refine mj_all_cons 37 rfl (show _ = _ from by decide +kernel) ?_
    exact trivial
  intro pc o ho
  have := mj_all_get _ 0 h pc o ho
  rw [Nat.zero_add] at this
  exact this
set_option maxRecDepth 100000 in
theorem mjci67 : ∀ (pc : Nat) (o : mj_O), mjco67[pc]? = some o → mj_is mj_kl mjcM67.1.cls mj_WS mj_NWs mjc_Ms mjcM67.2.1 pc o := by
  have h : mj_all (mj_is mj_kl mjcM67.1.cls mj_WS mj_NWs mjc_Ms mjcM67.2.1) 0 mjco67 := by
    unfold mjco67
    refine mj_all_cons 1 rfl (Or.inl ⟨0, by decide +kernel, rfl, rfl⟩) ?_
    refine mj_all_cons 2 rfl (⟨26, "ListSpeaker$Maker", mjF5, 5, by decide +kernel, rfl, by decide, mw_212, mjw5⟩) ?_
    refine mj_all_cons 3 rfl (trivial) ?_
    refine mj_all_cons 4 rfl (trivial) ?_
    refine mj_all_cons 5 rfl (Or.inr (Or.inr (Or.inl ⟨by decide +kernel, rfl, by decide⟩))) ?_
    refine mj_all_cons 6 rfl (trivial) ?_
    refine mj_all_cons 7 rfl (trivial) ?_
    refine mj_all_cons 8 rfl (show _ = _ from by decide +kernel) ?_
    refine mj_all_cons 9 rfl (trivial) ?_
    refine mj_all_cons 10 rfl (trivial) ?_
    refine mj_all_cons 11 rfl (Or.inl ⟨0, by decide +kernel, rfl, rfl⟩) ?_
    refine mj_all_cons 12 rfl (⟨9, "ListSpeaker$Maker", mjF5, 5, by decide +kernel, rfl, by decide, mw_210, mjw5⟩) ?_
    refine mj_all_cons 13 rfl (trivial) ?_
    refine mj_all_cons 14 rfl (trivial) ?_
    refine mj_all_cons 15 rfl (Or.inl ⟨0, by decide +kernel, rfl, rfl⟩) ?_
    refine mj_all_cons 16 rfl (⟨26, "ListSpeaker$Maker", mjF5, 5, by decide +kernel, rfl, by decide, mw_212, mjw5⟩) ?_
    refine mj_all_cons 17 rfl (trivial) ?_
    refine mj_all_cons 18 rfl (trivial) ?_
    refine mj_all_cons 19 rfl (Or.inl ⟨1, by decide +kernel, rfl, rfl⟩) ?_
    refine mj_all_cons 20 rfl (show _ = _ from by decide +kernel) ?_
    refine mj_all_cons 21 rfl (Or.inl ⟨0, by decide +kernel, rfl, rfl⟩) ?_
    refine mj_all_cons 22 rfl (⟨15, "ListSpeaker$Maker", mjF5, 5, by decide +kernel, rfl, by decide, mw_211, mjw5⟩) ?_
    refine mj_all_cons 23 rfl (trivial) ?_
    refine mj_all_cons 24 rfl (trivial) ?_
    refine mj_all_cons 25 rfl (Or.inl ⟨0, by decide +kernel, rfl, rfl⟩) ?_
    refine mj_all_cons 26 rfl (⟨26, "ListSpeaker$Maker", mjF5, 5, by decide +kernel, rfl, by decide, mw_212, mjw5⟩) ?_
    refine mj_all_cons 27 rfl (trivial) ?_
    refine mj_all_cons 28 rfl (trivial) ?_
    refine mj_all_cons 29 rfl (Or.inl ⟨2, by decide +kernel, rfl, rfl⟩) ?_
    refine mj_all_cons 30 rfl (show _ = _ from by decide +kernel) ?_
    refine mj_all_cons 31 rfl (Or.inl ⟨0, by decide +kernel, rfl, rfl⟩) ?_
    refine mj_all_cons 32 rfl (show _ = _ from by decide +kernel) ?_
    refine mj_all_cons 33 rfl (⟨26, "ListSpeaker$Maker", mjF5, 5, by decide +kernel, rfl, by decide, mw_212, mjw5⟩) ?_
    refine mj_all_cons 34 rfl (trivial) ?_
    refine mj_all_cons 35 rfl (trivial) ?_
    refine mj_all_cons 36 rfl (Or.inl ⟨by decide +kernel, rfl⟩) ?_
    refine mj_all_cons 37 rfl (show _ = _ from by decide +kernel) ?_
    refine mj_all_cons 38 rfl (⟨26, "ListSpeaker$Maker", mjF5, 5, mjt5, by decide +kernel, rfl, by decide, mw_212, mjw5, mjk5, mjn5, rfl, by decide +kernel⟩) ?_
    refine mj_all_cons 39 rfl (trivial) ?_
    refine mj_all_cons 40 rfl (trivial) ?_
    refine mj_all_cons 41 rfl (show _ = _ from by decide +kernel) ?_
    exact trivial
  intro pc o ho
  have := mj_all_get _ 0 h pc o ho
  rw [Nat.zero_add] at this
  exact this
set_option maxRecDepth 100000 in
theorem mjci68 : ∀ (pc : Nat) (o : mj_O), mjco68[pc]? = some o → mj_is mj_kl mjcM68.1.cls mj_WS mj_NWs mjc_Ms mjcM68.2.1 pc o := by
  have h : mj_all (mj_is mj_kl mjcM68.1.cls mj_WS mj_NWs mjc_Ms mjcM68.2.1) 0 mjco68 := by
    unfold mjco68
    refine mj_all_cons 1 rfl (Or.inr ⟨by decide +kernel, rfl⟩) ?_
    refine mj_all_cons 2 rfl (trivial) ?_
    refine mj_all_cons 3 rfl (Or.inr (Or.inl ⟨by decide +kernel, rfl, by decide⟩)) ?_
    refine mj_all_cons 4 rfl (trivial) ?_
    refine mj_all_cons 5 rfl (show _ = _ from by decide +kernel) ?_
    refine mj_all_cons 6 rfl (trivial) ?_
    refine mj_all_cons 7 rfl (trivial) ?_
    refine mj_all_cons 8 rfl (Or.inl ⟨by decide +kernel, rfl⟩) ?_
    refine mj_all_cons 9 rfl (show _ = _ from by decide +kernel) ?_
    refine mj_all_cons 10 rfl (Or.inl ⟨0, by decide +kernel, rfl, rfl⟩) ?_
    refine mj_all_cons 11 rfl (⟨22, "ListSpeaker$Maker", mjF5, 5, by decide +kernel, rfl, by decide, mw_209, mjw5⟩) ?_
    refine mj_all_cons 12 rfl (trivial) ?_
    refine mj_all_cons 13 rfl (trivial) ?_
    refine mj_all_cons 14 rfl (Or.inl ⟨by decide +kernel, rfl⟩) ?_
    refine mj_all_cons 15 rfl (Or.inl ⟨by decide +kernel, rfl⟩) ?_
    refine mj_all_cons 16 rfl (⟨mjcM59, 34, 2, rfl, by decide, mjcd59, mw_11, Or.inl ⟨4, mjF4, 4, by decide +kernel, rfl, rfl, rfl, mw_644, mw_645, mw_646⟩⟩) ?_
    refine mj_all_cons 17 rfl (trivial) ?_
    refine mj_all_cons 18 rfl (trivial) ?_
    refine mj_all_cons 19 rfl (show _ = _ from by decide +kernel) ?_
    refine mj_all_cons 20 rfl (Or.inl ⟨1, by decide +kernel, rfl, rfl⟩) ?_
    refine mj_all_cons 21 rfl (⟨mjcM7, 79, 1, rfl, by decide, mjcd7, mw_1, Or.inr (Or.inr ⟨"ListSpeaker", by decide +kernel, rfl, rfl, mjnw_2, mw_653⟩)⟩) ?_
    refine mj_all_cons 22 rfl (trivial) ?_
    refine mj_all_cons 23 rfl (trivial) ?_
    refine mj_all_cons 24 rfl (show _ = _ from by decide +kernel) ?_
    refine mj_all_cons 25 rfl (trivial) ?_
    refine mj_all_cons 26 rfl (trivial) ?_
    refine mj_all_cons 27 rfl (Or.inl ⟨1, by decide +kernel, rfl, rfl⟩) ?_
    refine mj_all_cons 28 rfl (Or.inr (Or.inr (Or.inr (Or.inl ⟨75, by decide +kernel, rfl, mw_631⟩)))) ?_
    refine mj_all_cons 29 rfl (trivial) ?_
    refine mj_all_cons 30 rfl (show _ = _ from by decide +kernel) ?_
    refine mj_all_cons 31 rfl (trivial) ?_
    refine mj_all_cons 32 rfl (trivial) ?_
    refine mj_all_cons 33 rfl (Or.inl ⟨1, by decide +kernel, rfl, rfl⟩) ?_
    refine mj_all_cons 34 rfl (Or.inr (Or.inr (Or.inr (Or.inl ⟨76, by decide +kernel, rfl, mw_632⟩)))) ?_
    refine mj_all_cons 35 rfl (trivial) ?_
    refine mj_all_cons 36 rfl (show _ = _ from by decide +kernel) ?_
    refine mj_all_cons 37 rfl (trivial) ?_
    refine mj_all_cons 38 rfl (trivial) ?_
    refine mj_all_cons 39 rfl (Or.inl ⟨0, by decide +kernel, rfl, rfl⟩) ?_
    refine mj_all_cons 40 rfl (⟨22, "ListSpeaker$Maker", mjF5, 5, by decide +kernel, rfl, by decide, mw_209, mjw5⟩) ?_
    refine mj_all_cons 41 rfl (trivial) ?_
    refine mj_all_cons 42 rfl (trivial) ?_
    refine mj_all_cons 43 rfl (Or.inl ⟨by decide +kernel, rfl⟩) ?_
    refine mj_all_cons 44 rfl (Or.inl ⟨1, by decide +kernel, rfl, rfl⟩) ?_
    refine mj_all_cons 45 rfl (⟨mjcM59, 34, 2, rfl, by decide, mjcd59, mw_11, Or.inl ⟨4, mjF4, 4, by decide +kernel, rfl, rfl, rfl, mw_644, mw_645, mw_646⟩⟩) ?_
    refine mj_all_cons 46 rfl (trivial) ?_
    refine mj_all_cons 47 rfl (trivial) ?_
    refine mj_all_cons 48 rfl (show _ = _ from by decide +kernel) ?_
    refine mj_all_cons 49 rfl (Or.inl ⟨by decide +kernel, rfl⟩) ?_
    refine mj_all_cons 50 rfl (show _ = _ from by decide +kernel) ?_
    refine mj_all_cons 51 rfl (Or.inl ⟨1, by decide +kernel, rfl, rfl⟩) ?_
    refine mj_all_cons 52 rfl (⟨mjcM8, 49, 1, rfl, by decide, mjcd8, mw_1, Or.inr (Or.inr ⟨"ListSpeaker", by decide +kernel, rfl, rfl, mjnw_1, mw_615⟩)⟩) ?_
    refine mj_all_cons 53 rfl (trivial) ?_
    refine mj_all_cons 54 rfl (trivial) ?_
    refine mj_all_cons 55 rfl (show _ = _ from by decide +kernel) ?_
    refine mj_all_cons 56 rfl (trivial) ?_
    refine mj_all_cons 57 rfl (trivial) ?_
    refine mj_all_cons 58 rfl (Or.inl ⟨0, by decide +kernel, rfl, rfl⟩) ?_
    refine mj_all_cons 59 rfl (Or.inl ⟨1, by decide +kernel, rfl, rfl⟩) ?_
    refine mj_all_cons 60 rfl (⟨mjcM69, 82, 1, rfl, by decide, mjcd69, mw_12, Or.inl ⟨5, mjF5, 5, by decide +kernel, rfl, rfl, rfl, mw_656, mw_658, mjsel_21⟩⟩) ?_
    refine mj_all_cons 61 rfl (trivial) ?_
    refine mj_all_cons 62 rfl (trivial) ?_
    refine mj_all_cons 63 rfl (show _ = _ from by decide +kernel) ?_
    refine mj_all_cons 64 rfl (Or.inl ⟨0, by decide +kernel, rfl, rfl⟩) ?_
    refine mj_all_cons 65 rfl (⟨18, "ListSpeaker$Maker", mjF5, 5, by decide +kernel, rfl, by decide, mw_208, mjw5⟩) ?_
    refine mj_all_cons 66 rfl (trivial) ?_
    refine mj_all_cons 67 rfl (trivial) ?_
    refine mj_all_cons 68 rfl (Or.inl ⟨1, by decide +kernel, rfl, rfl⟩) ?_
    refine mj_all_cons 69 rfl (⟨mjcM23, 45, 1, rfl, by decide, mjcd23, mw_8, Or.inl ⟨2, mjF2, 12, by decide +kernel, rfl, rfl, rfl, mw_606, mw_607, mw_608⟩⟩) ?_
    refine mj_all_cons 70 rfl (trivial) ?_
    refine mj_all_cons 71 rfl (trivial) ?_
    refine mj_all_cons 72 rfl (Or.inr ⟨by decide +kernel, rfl⟩) ?_
    refine mj_all_cons 73 rfl (trivial) ?_
    refine mj_all_cons 74 rfl (Or.inr ⟨by decide +kernel, rfl⟩) ?_
    refine mj_all_cons 75 rfl (trivial) ?_
    refine mj_all_cons 76 rfl (Or.inl ⟨by decide +kernel, rfl⟩) ?_
    refine mj_all_cons 77 rfl (show _ = _ from by decide +kernel) ?_
    refine mj_all_cons 78 rfl (trivial) ?_
    refine mj_all_cons 79 rfl (trivial) ?_
    refine mj_all_cons 80 rfl (Or.inl ⟨0, by decide +kernel, rfl, rfl⟩) ?_
    refine mj_all_cons 81 rfl (⟨18, "ListSpeaker$Maker", mjF5, 5, by decide +kernel, rfl, by decide, mw_208, mjw5⟩) ?_
    refine mj_all_cons 82 rfl (trivial) ?_
    refine mj_all_cons 83 rfl (trivial) ?_
    refine mj_all_cons 84 rfl (Or.inl ⟨1, by decide +kernel, rfl, rfl⟩) ?_
    refine mj_all_cons 85 rfl (⟨mjcM20, 62, 1, rfl, by decide, mjcd20, mw_8, Or.inl ⟨2, mjF2, 12, by decide +kernel, rfl, rfl, rfl, mw_623, mw_588, mw_589⟩⟩) ?_
    refine mj_all_cons 86 rfl (trivial) ?_
    refine mj_all_cons 87 rfl (trivial) ?_
    refine mj_all_cons 88 rfl (⟨mjcM8, 49, 1, rfl, by decide, mjcd8, mw_1, Or.inr (Or.inr ⟨"ListSpeaker", by decide +kernel, rfl, rfl, mjnw_1, mw_615⟩)⟩) ?_
    refine mj_all_cons 89 rfl (trivial) ?_
    refine mj_all_cons 90 rfl (trivial) ?_
    refine mj_all_cons 91 rfl (show _ = _ from by decide +kernel) ?_
    refine mj_all_cons 92 rfl (trivial) ?_
    refine mj_all_cons 93 rfl (trivial) ?_
    refine mj_all_cons 94 rfl (Or.inl ⟨by decide +kernel, rfl⟩) ?_
    refine mj_all_cons 95 rfl (show _ = _ from by decide +kernel) ?_
    refine mj_all_cons 96 rfl (Or.inl ⟨0, by decide +kernel, rfl, rfl⟩) ?_
    refine mj_all_cons 97 rfl (Or.inl ⟨1, by decide +kernel, rfl, rfl⟩) ?_
    refine mj_all_cons 98 rfl (Or.inr ⟨by decide +kernel, rfl⟩) ?_
    refine mj_all_cons 99 rfl (trivial) ?_
    refine mj_all_cons 100 rfl (Or.inl ⟨by decide +kernel, rfl⟩) ?_
    refine mj_all_cons 101 rfl (show _ = _ from by decide +kernel) ?_
    refine mj_all_cons 102 rfl (Or.inl ⟨2, by decide +kernel, rfl, rfl⟩) ?_
    refine mj_all_cons 103 rfl (Or.inl ⟨3, by decide +kernel, rfl, rfl⟩) ?_
    refine mj_all_cons 104 rfl (Or.inr ⟨by decide +kernel, rfl⟩) ?_
    refine mj_all_cons 105 rfl (trivial) ?_
    refine mj_all_cons 106 rfl (Or.inl ⟨by decide +kernel, rfl⟩) ?_
    refine mj_all_cons 107 rfl (show _ = _ from by decide +kernel) ?_
    refine mj_all_cons 108 rfl (⟨mjcM70, 85, 5, rfl, by decide, mjcd70, mw_12, Or.inl ⟨5, mjF5, 5, by decide +kernel, rfl, rfl, rfl, mw_660, mw_662, mjsel_22⟩⟩) ?_
    refine mj_all_cons 109 rfl (trivial) ?_
    refine mj_all_cons 110 rfl (trivial) ?_
    refine mj_all_cons 111 rfl (show _ = _ from by decide +kernel) ?_
    exact trivial
  intro pc o ho
  have := mj_all_get _ 0 h pc o ho
  rw [Nat.zero_add] at this
  exact this
set_option maxRecDepth 100000 in
theorem mjci69 : ∀ (pc : Nat) (o : mj_O), mjco69[pc]? = some o → mj_is mj_kl mjcM69.1.cls mj_WS mj_NWs mjc_Ms mjcM69.2.1 pc o := by
  have h : mj_all (mj_is mj_kl mjcM69.1.cls mj_WS mj_NWs mjc_Ms mjcM69.2.1) 0 mjco69 := by
    unfold mjco69
    refine mj_all_cons 1 rfl (Or.inl ⟨0, by decide +kernel, rfl, rfl⟩) ?_
    refine mj_all_cons 2 rfl (⟨26, "ListSpeaker$Maker", mjF5, 5, by decide +kernel, rfl, by decide, mw_212, mjw5⟩) ?_
    refine mj_all_cons 3 rfl (trivial) ?_
    refine mj_all_cons 4 rfl (trivial) ?_
    refine mj_all_cons 5 rfl (Or.inl ⟨by decide +kernel, rfl⟩) ?_
    refine mj_all_cons 6 rfl (show _ = _ from by decide +kernel) ?_
    refine mj_all_cons 7 rfl (Or.inl ⟨2, by decide +kernel, rfl, rfl⟩) ?_
    refine mj_all_cons 8 rfl (Or.inl ⟨2, by decide +kernel, rfl, rfl⟩) ?_
    refine mj_all_cons 9 rfl (show _ = _ from by decide +kernel) ?_
    refine mj_all_cons 10 rfl (trivial) ?_
    refine mj_all_cons 11 rfl (trivial) ?_
    refine mj_all_cons 12 rfl (Or.inl ⟨2, by decide +kernel, rfl, rfl⟩) ?_
    refine mj_all_cons 13 rfl (Or.inr (Or.inr (Or.inl ⟨by decide +kernel, rfl, by decide⟩))) ?_
    refine mj_all_cons 14 rfl (trivial) ?_
    refine mj_all_cons 15 rfl (trivial) ?_
    refine mj_all_cons 16 rfl (show _ = _ from by decide +kernel) ?_
    refine mj_all_cons 17 rfl (trivial) ?_
    refine mj_all_cons 18 rfl (trivial) ?_
    refine mj_all_cons 19 rfl (Or.inl ⟨0, by decide +kernel, rfl, rfl⟩) ?_
    refine mj_all_cons 20 rfl (⟨9, "ListSpeaker$Maker", mjF5, 5, by decide +kernel, rfl, by decide, mw_210, mjw5⟩) ?_
    refine mj_all_cons 21 rfl (trivial) ?_
    refine mj_all_cons 22 rfl (trivial) ?_
    refine mj_all_cons 23 rfl (Or.inl ⟨2, by decide +kernel, rfl, rfl⟩) ?_
    refine mj_all_cons 24 rfl (show _ = _ from by decide +kernel) ?_
    refine mj_all_cons 25 rfl (Or.inl ⟨1, by decide +kernel, rfl, rfl⟩) ?_
    refine mj_all_cons 26 rfl (show _ = _ from by decide +kernel) ?_
    refine mj_all_cons 27 rfl (trivial) ?_
    refine mj_all_cons 28 rfl (trivial) ?_
    refine mj_all_cons 29 rfl (Or.inl ⟨0, by decide +kernel, rfl, rfl⟩) ?_
    refine mj_all_cons 30 rfl (⟨22, "ListSpeaker$Maker", mjF5, 5, by decide +kernel, rfl, by decide, mw_209, mjw5⟩) ?_
    refine mj_all_cons 31 rfl (trivial) ?_
    refine mj_all_cons 32 rfl (trivial) ?_
    refine mj_all_cons 33 rfl (Or.inl ⟨by decide +kernel, rfl⟩) ?_
    refine mj_all_cons 34 rfl (Or.inl ⟨0, by decide +kernel, rfl, rfl⟩) ?_
    refine mj_all_cons 35 rfl (⟨15, "ListSpeaker$Maker", mjF5, 5, by decide +kernel, rfl, by decide, mw_211, mjw5⟩) ?_
    refine mj_all_cons 36 rfl (trivial) ?_
    refine mj_all_cons 37 rfl (trivial) ?_
    refine mj_all_cons 38 rfl (Or.inl ⟨2, by decide +kernel, rfl, rfl⟩) ?_
    refine mj_all_cons 39 rfl (show _ = _ from by decide +kernel) ?_
    refine mj_all_cons 40 rfl (⟨mjcM59, 34, 2, rfl, by decide, mjcd59, mw_11, Or.inl ⟨4, mjF4, 4, by decide +kernel, rfl, rfl, rfl, mw_644, mw_645, mw_646⟩⟩) ?_
    refine mj_all_cons 41 rfl (trivial) ?_
    refine mj_all_cons 42 rfl (trivial) ?_
    refine mj_all_cons 43 rfl (show _ = _ from by decide +kernel) ?_
    refine mj_all_cons 44 rfl (Or.inl ⟨by decide +kernel, rfl⟩) ?_
    refine mj_all_cons 45 rfl (show _ = _ from by decide +kernel) ?_
    refine mj_all_cons 46 rfl (show _ = _ from by decide +kernel) ?_
    refine mj_all_cons 47 rfl (trivial) ?_
    refine mj_all_cons 48 rfl (trivial) ?_
    refine mj_all_cons 49 rfl (show _ = _ from by decide +kernel) ?_
    refine mj_all_cons 50 rfl (trivial) ?_
    refine mj_all_cons 51 rfl (trivial) ?_
    refine mj_all_cons 52 rfl (Or.inl ⟨by decide +kernel, rfl⟩) ?_
    refine mj_all_cons 53 rfl (show _ = _ from by decide +kernel) ?_
    exact trivial
  intro pc o ho
  have := mj_all_get _ 0 h pc o ho
  rw [Nat.zero_add] at this
  exact this
set_option maxRecDepth 100000 in
theorem mjci70 : ∀ (pc : Nat) (o : mj_O), mjco70[pc]? = some o → mj_is mj_kl mjcM70.1.cls mj_WS mj_NWs mjc_Ms mjcM70.2.1 pc o := by
  have h : mj_all (mj_is mj_kl mjcM70.1.cls mj_WS mj_NWs mjc_Ms mjcM70.2.1) 0 mjco70 := by
    unfold mjco70
    refine mj_all_cons 1 rfl (Or.inl ⟨0, by decide +kernel, rfl, rfl⟩) ?_
    refine mj_all_cons 2 rfl (⟨18, "ListSpeaker$Maker", mjF5, 5, by decide +kernel, rfl, by decide, mw_208, mjw5⟩) ?_
    refine mj_all_cons 3 rfl (trivial) ?_
    refine mj_all_cons 4 rfl (trivial) ?_
    refine mj_all_cons 5 rfl (Or.inl ⟨1, by decide +kernel, rfl, rfl⟩) ?_
    refine mj_all_cons 6 rfl (⟨mjcM20, 62, 1, rfl, by decide, mjcd20, mw_8, Or.inl ⟨2, mjF2, 12, by decide +kernel, rfl, rfl, rfl, mw_623, mw_588, mw_589⟩⟩) ?_
    refine mj_all_cons 7 rfl (trivial) ?_
    refine mj_all_cons 8 rfl (trivial) ?_
    refine mj_all_cons 9 rfl (Or.inr ⟨by decide +kernel, rfl⟩) ?_
    refine mj_all_cons 10 rfl (trivial) ?_
    refine mj_all_cons 11 rfl (Or.inl ⟨0, by decide +kernel, rfl, rfl⟩) ?_
    refine mj_all_cons 12 rfl (⟨18, "ListSpeaker$Maker", mjF5, 5, by decide +kernel, rfl, by decide, mw_208, mjw5⟩) ?_
    refine mj_all_cons 13 rfl (trivial) ?_
    refine mj_all_cons 14 rfl (trivial) ?_
    refine mj_all_cons 15 rfl (Or.inl ⟨1, by decide +kernel, rfl, rfl⟩) ?_
    refine mj_all_cons 16 rfl (⟨mjcM21, 72, 1, rfl, by decide, mjcd21, mw_8, Or.inl ⟨2, mjF2, 12, by decide +kernel, rfl, rfl, rfl, mw_635, mw_602, mw_603⟩⟩) ?_
    refine mj_all_cons 17 rfl (trivial) ?_
    refine mj_all_cons 18 rfl (trivial) ?_
    refine mj_all_cons 19 rfl (Or.inr ⟨by decide +kernel, rfl⟩) ?_
    refine mj_all_cons 20 rfl (trivial) ?_
    refine mj_all_cons 21 rfl (Or.inr ⟨by decide +kernel, rfl⟩) ?_
    refine mj_all_cons 22 rfl (trivial) ?_
    refine mj_all_cons 23 rfl (⟨140, 268435465, #[46, 54, 75, 96, 123, 123, 140, 138], 46, by decide +kernel, by decide, by decide, by decide⟩) ?_
    refine mj_all_cons 24 rfl (trivial) ?_
    refine mj_all_cons 25 rfl (trivial) ?_
    refine mj_all_cons 26 rfl (trivial) ?_
    refine mj_all_cons 27 rfl (trivial) ?_
    refine mj_all_cons 28 rfl (trivial) ?_
    refine mj_all_cons 29 rfl (trivial) ?_
    refine mj_all_cons 30 rfl (trivial) ?_
    refine mj_all_cons 31 rfl (trivial) ?_
    refine mj_all_cons 32 rfl (trivial) ?_
    refine mj_all_cons 33 rfl (trivial) ?_
    refine mj_all_cons 34 rfl (trivial) ?_
    refine mj_all_cons 35 rfl (trivial) ?_
    refine mj_all_cons 36 rfl (trivial) ?_
    refine mj_all_cons 37 rfl (trivial) ?_
    refine mj_all_cons 38 rfl (trivial) ?_
    refine mj_all_cons 39 rfl (trivial) ?_
    refine mj_all_cons 40 rfl (trivial) ?_
    refine mj_all_cons 41 rfl (trivial) ?_
    refine mj_all_cons 42 rfl (trivial) ?_
    refine mj_all_cons 43 rfl (trivial) ?_
    refine mj_all_cons 44 rfl (trivial) ?_
    refine mj_all_cons 45 rfl (trivial) ?_
    refine mj_all_cons 46 rfl (trivial) ?_
    refine mj_all_cons 47 rfl (trivial) ?_
    refine mj_all_cons 48 rfl (trivial) ?_
    refine mj_all_cons 49 rfl (trivial) ?_
    refine mj_all_cons 50 rfl (trivial) ?_
    refine mj_all_cons 51 rfl (trivial) ?_
    refine mj_all_cons 52 rfl (trivial) ?_
    refine mj_all_cons 53 rfl (trivial) ?_
    refine mj_all_cons 54 rfl (trivial) ?_
    refine mj_all_cons 55 rfl (trivial) ?_
    refine mj_all_cons 56 rfl (trivial) ?_
    refine mj_all_cons 57 rfl (trivial) ?_
    refine mj_all_cons 58 rfl (trivial) ?_
    refine mj_all_cons 59 rfl (trivial) ?_
    refine mj_all_cons 60 rfl (trivial) ?_
    refine mj_all_cons 61 rfl (trivial) ?_
    refine mj_all_cons 62 rfl (trivial) ?_
    refine mj_all_cons 63 rfl (trivial) ?_
    refine mj_all_cons 64 rfl (trivial) ?_
    refine mj_all_cons 65 rfl (trivial) ?_
    refine mj_all_cons 66 rfl (trivial) ?_
    refine mj_all_cons 67 rfl (trivial) ?_
    refine mj_all_cons 68 rfl (trivial) ?_
    refine mj_all_cons 69 rfl (Or.inl ⟨0, by decide +kernel, rfl, rfl⟩) ?_
    refine mj_all_cons 70 rfl (Or.inr ⟨by decide +kernel, rfl⟩) ?_
    refine mj_all_cons 71 rfl (trivial) ?_
    refine mj_all_cons 72 rfl (Or.inl ⟨2, by decide +kernel, rfl, rfl⟩) ?_
    refine mj_all_cons 73 rfl (⟨mjcM74, 89, 2, rfl, by decide, mjcd74, mw_12, Or.inl ⟨5, mjF5, 5, by decide +kernel, rfl, rfl, rfl, mw_664, mw_666, mjsel_23⟩⟩) ?_
    refine mj_all_cons 74 rfl (trivial) ?_
    refine mj_all_cons 75 rfl (trivial) ?_
    refine mj_all_cons 76 rfl (show _ = _ from by decide +kernel) ?_
    refine mj_all_cons 77 rfl (Or.inl ⟨2, by decide +kernel, rfl, rfl⟩) ?_
    refine mj_all_cons 78 rfl (Or.inl ⟨by decide +kernel, rfl⟩) ?_
    refine mj_all_cons 79 rfl (show _ = _ from by decide +kernel) ?_
    refine mj_all_cons 80 rfl (trivial) ?_
    refine mj_all_cons 81 rfl (trivial) ?_
    refine mj_all_cons 82 rfl (Or.inl ⟨0, by decide +kernel, rfl, rfl⟩) ?_
    refine mj_all_cons 83 rfl (Or.inr ⟨by decide +kernel, rfl⟩) ?_
    refine mj_all_cons 84 rfl (trivial) ?_
    refine mj_all_cons 85 rfl (Or.inl ⟨3, by decide +kernel, rfl, rfl⟩) ?_
    refine mj_all_cons 86 rfl (Or.inr ⟨by decide +kernel, rfl⟩) ?_
    refine mj_all_cons 87 rfl (trivial) ?_
    refine mj_all_cons 88 rfl (Or.inr ⟨by decide +kernel, rfl⟩) ?_
    refine mj_all_cons 89 rfl (trivial) ?_
    refine mj_all_cons 90 rfl (⟨mjcM76, 92, 4, rfl, by decide, mjcd76, mw_12, Or.inl ⟨5, mjF5, 5, by decide +kernel, rfl, rfl, rfl, mw_668, mw_670, mjsel_24⟩⟩) ?_
    refine mj_all_cons 91 rfl (trivial) ?_
    refine mj_all_cons 92 rfl (trivial) ?_
    refine mj_all_cons 93 rfl (show _ = _ from by decide +kernel) ?_
    refine mj_all_cons 94 rfl (trivial) ?_
    refine mj_all_cons 95 rfl (trivial) ?_
    refine mj_all_cons 96 rfl (Or.inl ⟨by decide +kernel, rfl⟩) ?_
    refine mj_all_cons 97 rfl (show _ = _ from by decide +kernel) ?_
    refine mj_all_cons 98 rfl (Or.inl ⟨2, by decide +kernel, rfl, rfl⟩) ?_
    refine mj_all_cons 99 rfl (Or.inl ⟨by decide +kernel, rfl⟩) ?_
    refine mj_all_cons 100 rfl (show _ = _ from by decide +kernel) ?_
    refine mj_all_cons 101 rfl (trivial) ?_
    refine mj_all_cons 102 rfl (trivial) ?_
    refine mj_all_cons 103 rfl (Or.inl ⟨0, by decide +kernel, rfl, rfl⟩) ?_
    refine mj_all_cons 104 rfl (Or.inr ⟨by decide +kernel, rfl⟩) ?_
    refine mj_all_cons 105 rfl (trivial) ?_
    refine mj_all_cons 106 rfl (Or.inl ⟨3, by decide +kernel, rfl, rfl⟩) ?_
    refine mj_all_cons 107 rfl (Or.inr ⟨by decide +kernel, rfl⟩) ?_
    refine mj_all_cons 108 rfl (trivial) ?_
    refine mj_all_cons 109 rfl (Or.inr ⟨by decide +kernel, rfl⟩) ?_
    refine mj_all_cons 110 rfl (trivial) ?_
    refine mj_all_cons 111 rfl (⟨mjcM77, 95, 4, rfl, by decide, mjcd77, mw_12, Or.inl ⟨5, mjF5, 5, by decide +kernel, rfl, rfl, rfl, mw_676, mw_678, mjsel_25⟩⟩) ?_
    refine mj_all_cons 112 rfl (trivial) ?_
    refine mj_all_cons 113 rfl (trivial) ?_
    refine mj_all_cons 114 rfl (show _ = _ from by decide +kernel) ?_
    refine mj_all_cons 115 rfl (trivial) ?_
    refine mj_all_cons 116 rfl (trivial) ?_
    refine mj_all_cons 117 rfl (Or.inl ⟨by decide +kernel, rfl⟩) ?_
    refine mj_all_cons 118 rfl (show _ = _ from by decide +kernel) ?_
    refine mj_all_cons 119 rfl (Or.inl ⟨0, by decide +kernel, rfl, rfl⟩) ?_
    refine mj_all_cons 120 rfl (Or.inr ⟨by decide +kernel, rfl⟩) ?_
    refine mj_all_cons 121 rfl (trivial) ?_
    refine mj_all_cons 122 rfl (Or.inl ⟨2, by decide +kernel, rfl, rfl⟩) ?_
    refine mj_all_cons 123 rfl (⟨mjcM78, 98, 2, rfl, by decide, mjcd78, mw_12, Or.inl ⟨5, mjF5, 5, by decide +kernel, rfl, rfl, rfl, mw_680, mw_682, mjsel_26⟩⟩) ?_
    refine mj_all_cons 124 rfl (trivial) ?_
    refine mj_all_cons 125 rfl (trivial) ?_
    refine mj_all_cons 126 rfl (show _ = _ from by decide +kernel) ?_
    refine mj_all_cons 127 rfl (trivial) ?_
    refine mj_all_cons 128 rfl (trivial) ?_
    refine mj_all_cons 129 rfl (Or.inl ⟨0, by decide +kernel, rfl, rfl⟩) ?_
    refine mj_all_cons 130 rfl (Or.inr ⟨by decide +kernel, rfl⟩) ?_
    refine mj_all_cons 131 rfl (trivial) ?_
    refine mj_all_cons 132 rfl (Or.inl ⟨2, by decide +kernel, rfl, rfl⟩) ?_
    refine mj_all_cons 133 rfl (Or.inl ⟨3, by decide +kernel, rfl, rfl⟩) ?_
    refine mj_all_cons 134 rfl (Or.inr ⟨by decide +kernel, rfl⟩) ?_
    refine mj_all_cons 135 rfl (trivial) ?_
    refine mj_all_cons 136 rfl (Or.inr ⟨by decide +kernel, rfl⟩) ?_
    refine mj_all_cons 137 rfl (trivial) ?_
    refine mj_all_cons 138 rfl (⟨mjcM79, 102, 5, rfl, by decide, mjcd79, mw_12, Or.inl ⟨5, mjF5, 5, by decide +kernel, rfl, rfl, rfl, mw_684, mw_686, mjsel_27⟩⟩) ?_
    refine mj_all_cons 139 rfl (trivial) ?_
    refine mj_all_cons 140 rfl (trivial) ?_
    refine mj_all_cons 141 rfl (show _ = _ from by decide +kernel) ?_
    refine mj_all_cons 142 rfl (trivial) ?_
    refine mj_all_cons 143 rfl (trivial) ?_
    refine mj_all_cons 144 rfl (Or.inl ⟨by decide +kernel, rfl⟩) ?_
    refine mj_all_cons 145 rfl (show _ = _ from by decide +kernel) ?_
    refine mj_all_cons 146 rfl (Or.inl ⟨0, by decide +kernel, rfl, rfl⟩) ?_
    refine mj_all_cons 147 rfl (Or.inr ⟨by decide +kernel, rfl⟩) ?_
    refine mj_all_cons 148 rfl (trivial) ?_
    refine mj_all_cons 149 rfl (Or.inr ⟨by decide +kernel, rfl⟩) ?_
    refine mj_all_cons 150 rfl (trivial) ?_
    refine mj_all_cons 151 rfl (Or.inl ⟨2, by decide +kernel, rfl, rfl⟩) ?_
    refine mj_all_cons 152 rfl (Or.inl ⟨3, by decide +kernel, rfl, rfl⟩) ?_
    refine mj_all_cons 153 rfl (Or.inr ⟨by decide +kernel, rfl⟩) ?_
    refine mj_all_cons 154 rfl (trivial) ?_
    refine mj_all_cons 155 rfl (Or.inr ⟨by decide +kernel, rfl⟩) ?_
    refine mj_all_cons 156 rfl (trivial) ?_
    refine mj_all_cons 157 rfl (⟨mjcM80, 105, 6, rfl, by decide, mjcd80, mw_12, Or.inl ⟨5, mjF5, 5, by decide +kernel, rfl, rfl, rfl, mw_688, mw_690, mjsel_28⟩⟩) ?_
    refine mj_all_cons 158 rfl (trivial) ?_
    refine mj_all_cons 159 rfl (trivial) ?_
    refine mj_all_cons 160 rfl (show _ = _ from by decide +kernel) ?_
    refine mj_all_cons 161 rfl (Or.inl ⟨by decide +kernel, rfl⟩) ?_
    refine mj_all_cons 162 rfl (show _ = _ from by decide +kernel) ?_
    refine mj_all_cons 163 rfl (Or.inr ⟨by decide +kernel, rfl⟩) ?_
    refine mj_all_cons 164 rfl (trivial) ?_
    refine mj_all_cons 165 rfl (⟨mjcM71, 109, 1, rfl, by decide, mjcd71, mw_12, Or.inr (Or.inl ⟨by decide +kernel, rfl, rfl, mw_693, mw_694⟩)⟩) ?_
    refine mj_all_cons 166 rfl (trivial) ?_
    refine mj_all_cons 167 rfl (trivial) ?_
    refine mj_all_cons 168 rfl (show _ = _ from by decide +kernel) ?_
    refine mj_all_cons 169 rfl (trivial) ?_
    refine mj_all_cons 170 rfl (trivial) ?_
    refine mj_all_cons 171 rfl (Or.inl ⟨2, by decide +kernel, rfl, rfl⟩) ?_
    refine mj_all_cons 172 rfl (Or.inr ⟨by decide +kernel, rfl⟩) ?_
    refine mj_all_cons 173 rfl (trivial) ?_
    refine mj_all_cons 174 rfl (⟨mjcM72, 112, 1, rfl, by decide, mjcd72, mw_12, Or.inr (Or.inl ⟨by decide +kernel, rfl, rfl, mw_697, mw_698⟩)⟩) ?_
    refine mj_all_cons 175 rfl (trivial) ?_
    refine mj_all_cons 176 rfl (trivial) ?_
    refine mj_all_cons 177 rfl (show _ = _ from by decide +kernel) ?_
    refine mj_all_cons 178 rfl (trivial) ?_
    refine mj_all_cons 179 rfl (trivial) ?_
    refine mj_all_cons 180 rfl (Or.inl ⟨by decide +kernel, rfl⟩) ?_
    refine mj_all_cons 181 rfl (show _ = _ from by decide +kernel) ?_
    refine mj_all_cons 182 rfl (Or.inl ⟨0, by decide +kernel, rfl, rfl⟩) ?_
    refine mj_all_cons 183 rfl (Or.inr ⟨by decide +kernel, rfl⟩) ?_
    refine mj_all_cons 184 rfl (trivial) ?_
    refine mj_all_cons 185 rfl (Or.inl ⟨2, by decide +kernel, rfl, rfl⟩) ?_
    refine mj_all_cons 186 rfl (Or.inl ⟨3, by decide +kernel, rfl, rfl⟩) ?_
    refine mj_all_cons 187 rfl (Or.inr ⟨by decide +kernel, rfl⟩) ?_
    refine mj_all_cons 188 rfl (trivial) ?_
    refine mj_all_cons 189 rfl (⟨mjcM73, 115, 4, rfl, by decide, mjcd73, mw_12, Or.inl ⟨5, mjF5, 5, by decide +kernel, rfl, rfl, rfl, mw_700, mw_702, mjsel_29⟩⟩) ?_
    refine mj_all_cons 190 rfl (trivial) ?_
    refine mj_all_cons 191 rfl (trivial) ?_
    refine mj_all_cons 192 rfl (Or.inr ⟨by decide +kernel, rfl⟩) ?_
    refine mj_all_cons 193 rfl (trivial) ?_
    refine mj_all_cons 194 rfl (Or.inl ⟨0, by decide +kernel, rfl, rfl⟩) ?_
    refine mj_all_cons 195 rfl (Or.inr ⟨by decide +kernel, rfl⟩) ?_
    refine mj_all_cons 196 rfl (trivial) ?_
    refine mj_all_cons 197 rfl (Or.inl ⟨2, by decide +kernel, rfl, rfl⟩) ?_
    refine mj_all_cons 198 rfl (Or.inr ⟨by decide +kernel, rfl⟩) ?_
    refine mj_all_cons 199 rfl (trivial) ?_
    refine mj_all_cons 200 rfl (⟨mjcM75, 119, 3, rfl, by decide, mjcd75, mw_12, Or.inl ⟨5, mjF5, 5, by decide +kernel, rfl, rfl, rfl, mw_704, mw_706, mjsel_30⟩⟩) ?_
    refine mj_all_cons 201 rfl (trivial) ?_
    refine mj_all_cons 202 rfl (trivial) ?_
    refine mj_all_cons 203 rfl (Or.inr ⟨by decide +kernel, rfl⟩) ?_
    refine mj_all_cons 204 rfl (trivial) ?_
    refine mj_all_cons 205 rfl (show _ = _ from by decide +kernel) ?_
    exact trivial
  intro pc o ho
  have := mj_all_get _ 0 h pc o ho
  rw [Nat.zero_add] at this
  exact this
set_option maxRecDepth 100000 in
theorem mjci71 : ∀ (pc : Nat) (o : mj_O), mjco71[pc]? = some o → mj_is mj_kl mjcM71.1.cls mj_WS mj_NWs mjc_Ms mjcM71.2.1 pc o := by
  have h : mj_all (mj_is mj_kl mjcM71.1.cls mj_WS mj_NWs mjc_Ms mjcM71.2.1) 0 mjco71 := by
    unfold mjco71
    refine mj_all_cons 1 rfl (Or.inl ⟨0, by decide +kernel, rfl, rfl⟩) ?_
    refine mj_all_cons 2 rfl (Or.inr (Or.inr (Or.inr (Or.inl ⟨123, by decide +kernel, rfl, mw_696⟩)))) ?_
    refine mj_all_cons 3 rfl (trivial) ?_
    refine mj_all_cons 4 rfl (show _ = _ from by decide +kernel) ?_
    refine mj_all_cons 5 rfl (trivial) ?_
    refine mj_all_cons 6 rfl (trivial) ?_
    refine mj_all_cons 7 rfl (Or.inl ⟨0, by decide +kernel, rfl, rfl⟩) ?_
    refine mj_all_cons 8 rfl (Or.inr (Or.inr (Or.inr (Or.inl ⟨53, by decide +kernel, rfl, mw_618⟩)))) ?_
    refine mj_all_cons 9 rfl (trivial) ?_
    refine mj_all_cons 10 rfl (show _ = _ from by decide +kernel) ?_
    refine mj_all_cons 11 rfl (trivial) ?_
    refine mj_all_cons 12 rfl (trivial) ?_
    refine mj_all_cons 13 rfl (Or.inl ⟨by decide +kernel, rfl⟩) ?_
    refine mj_all_cons 14 rfl (show _ = _ from by decide +kernel) ?_
    refine mj_all_cons 15 rfl (trivial) ?_
    refine mj_all_cons 16 rfl (trivial) ?_
    refine mj_all_cons 17 rfl (Or.inl ⟨by decide +kernel, rfl⟩) ?_
    refine mj_all_cons 18 rfl (show _ = _ from by decide +kernel) ?_
    exact trivial
  intro pc o ho
  have := mj_all_get _ 0 h pc o ho
  rw [Nat.zero_add] at this
  exact this
set_option maxRecDepth 100000 in
theorem mjci72 : ∀ (pc : Nat) (o : mj_O), mjco72[pc]? = some o → mj_is mj_kl mjcM72.1.cls mj_WS mj_NWs mjc_Ms mjcM72.2.1 pc o := by
  have h : mj_all (mj_is mj_kl mjcM72.1.cls mj_WS mj_NWs mjc_Ms mjcM72.2.1) 0 mjco72 := by
    unfold mjco72
    refine mj_all_cons 1 rfl (Or.inl ⟨0, by decide +kernel, rfl, rfl⟩) ?_
    refine mj_all_cons 2 rfl (⟨57, 268435475, #[55, 57, 57, 57, 57, 57, 55, 55, 55, 55], 55, by decide +kernel, by decide, by decide, by decide⟩) ?_
    refine mj_all_cons 3 rfl (trivial) ?_
    refine mj_all_cons 4 rfl (trivial) ?_
    refine mj_all_cons 5 rfl (trivial) ?_
    refine mj_all_cons 6 rfl (trivial) ?_
    refine mj_all_cons 7 rfl (trivial) ?_
    refine mj_all_cons 8 rfl (trivial) ?_
    refine mj_all_cons 9 rfl (trivial) ?_
    refine mj_all_cons 10 rfl (trivial) ?_
    refine mj_all_cons 11 rfl (trivial) ?_
    refine mj_all_cons 12 rfl (trivial) ?_
    refine mj_all_cons 13 rfl (trivial) ?_
    refine mj_all_cons 14 rfl (trivial) ?_
    refine mj_all_cons 15 rfl (trivial) ?_
    refine mj_all_cons 16 rfl (trivial) ?_
    refine mj_all_cons 17 rfl (trivial) ?_
    refine mj_all_cons 18 rfl (trivial) ?_
    refine mj_all_cons 19 rfl (trivial) ?_
    refine mj_all_cons 20 rfl (trivial) ?_
    refine mj_all_cons 21 rfl (trivial) ?_
    refine mj_all_cons 22 rfl (trivial) ?_
    refine mj_all_cons 23 rfl (trivial) ?_
    refine mj_all_cons 24 rfl (trivial) ?_
    refine mj_all_cons 25 rfl (trivial) ?_
    refine mj_all_cons 26 rfl (trivial) ?_
    refine mj_all_cons 27 rfl (trivial) ?_
    refine mj_all_cons 28 rfl (trivial) ?_
    refine mj_all_cons 29 rfl (trivial) ?_
    refine mj_all_cons 30 rfl (trivial) ?_
    refine mj_all_cons 31 rfl (trivial) ?_
    refine mj_all_cons 32 rfl (trivial) ?_
    refine mj_all_cons 33 rfl (trivial) ?_
    refine mj_all_cons 34 rfl (trivial) ?_
    refine mj_all_cons 35 rfl (trivial) ?_
    refine mj_all_cons 36 rfl (trivial) ?_
    refine mj_all_cons 37 rfl (trivial) ?_
    refine mj_all_cons 38 rfl (trivial) ?_
    refine mj_all_cons 39 rfl (trivial) ?_
    refine mj_all_cons 40 rfl (trivial) ?_
    refine mj_all_cons 41 rfl (trivial) ?_
    refine mj_all_cons 42 rfl (trivial) ?_
    refine mj_all_cons 43 rfl (trivial) ?_
    refine mj_all_cons 44 rfl (trivial) ?_
    refine mj_all_cons 45 rfl (trivial) ?_
    refine mj_all_cons 46 rfl (trivial) ?_
    refine mj_all_cons 47 rfl (trivial) ?_
    refine mj_all_cons 48 rfl (trivial) ?_
    refine mj_all_cons 49 rfl (trivial) ?_
    refine mj_all_cons 50 rfl (trivial) ?_
    refine mj_all_cons 51 rfl (trivial) ?_
    refine mj_all_cons 52 rfl (trivial) ?_
    refine mj_all_cons 53 rfl (trivial) ?_
    refine mj_all_cons 54 rfl (trivial) ?_
    refine mj_all_cons 55 rfl (trivial) ?_
    refine mj_all_cons 56 rfl (trivial) ?_
    refine mj_all_cons 57 rfl (Or.inl ⟨by decide +kernel, rfl⟩) ?_
    refine mj_all_cons 58 rfl (show _ = _ from by decide +kernel) ?_
    refine mj_all_cons 59 rfl (Or.inl ⟨by decide +kernel, rfl⟩) ?_
    refine mj_all_cons 60 rfl (show _ = _ from by decide +kernel) ?_
    exact trivial
  intro pc o ho
  have := mj_all_get _ 0 h pc o ho
  rw [Nat.zero_add] at this
  exact this
set_option maxRecDepth 100000 in
theorem mjci73 : ∀ (pc : Nat) (o : mj_O), mjco73[pc]? = some o → mj_is mj_kl mjcM73.1.cls mj_WS mj_NWs mjc_Ms mjcM73.2.1 pc o := by
  have h : mj_all (mj_is mj_kl mjcM73.1.cls mj_WS mj_NWs mjc_Ms mjcM73.2.1) 0 mjco73 := by
    unfold mjco73
    refine mj_all_cons 1 rfl (Or.inl ⟨1, by decide +kernel, rfl, rfl⟩) ?_
    refine mj_all_cons 2 rfl (Or.inr ⟨by decide +kernel, rfl⟩) ?_
    refine mj_all_cons 3 rfl (trivial) ?_
    refine mj_all_cons 4 rfl (Or.inl ⟨by decide +kernel, rfl⟩) ?_
    refine mj_all_cons 5 rfl (Or.inr ⟨by decide +kernel, rfl⟩) ?_
    refine mj_all_cons 6 rfl (trivial) ?_
    refine mj_all_cons 7 rfl (Or.inr ⟨by decide +kernel, rfl⟩) ?_
    refine mj_all_cons 8 rfl (trivial) ?_
    refine mj_all_cons 9 rfl (Or.inl ⟨2, by decide +kernel, rfl, rfl⟩) ?_
    refine mj_all_cons 10 rfl (show _ = _ from by decide +kernel) ?_
    refine mj_all_cons 11 rfl (trivial) ?_
    refine mj_all_cons 12 rfl (trivial) ?_
    refine mj_all_cons 13 rfl (Or.inl ⟨0, by decide +kernel, rfl, rfl⟩) ?_
    refine mj_all_cons 14 rfl (Or.inl ⟨0, by decide +kernel, rfl, rfl⟩) ?_
    refine mj_all_cons 15 rfl (⟨18, "ListSpeaker$Maker", mjF5, 5, by decide +kernel, rfl, by decide, mw_208, mjw5⟩) ?_
    refine mj_all_cons 16 rfl (trivial) ?_
    refine mj_all_cons 17 rfl (trivial) ?_
    refine mj_all_cons 18 rfl (Or.inr ⟨by decide +kernel, rfl⟩) ?_
    refine mj_all_cons 19 rfl (trivial) ?_
    refine mj_all_cons 20 rfl (⟨mjcM20, 62, 1, rfl, by decide, mjcd20, mw_8, Or.inl ⟨2, mjF2, 12, by decide +kernel, rfl, rfl, rfl, mw_623, mw_588, mw_589⟩⟩) ?_
    refine mj_all_cons 21 rfl (trivial) ?_
    refine mj_all_cons 22 rfl (trivial) ?_
    refine mj_all_cons 23 rfl (Or.inl ⟨3, by decide +kernel, rfl, rfl⟩) ?_
    refine mj_all_cons 24 rfl (Or.inr ⟨by decide +kernel, rfl⟩) ?_
    refine mj_all_cons 25 rfl (trivial) ?_
    refine mj_all_cons 26 rfl (show _ = _ from by decide +kernel) ?_
    refine mj_all_cons 27 rfl (Or.inl ⟨by decide +kernel, rfl⟩) ?_
    refine mj_all_cons 28 rfl (Or.inr ⟨by decide +kernel, rfl⟩) ?_
    refine mj_all_cons 29 rfl (trivial) ?_
    refine mj_all_cons 30 rfl (⟨mjcM68, 30, 4, rfl, by decide, mjcd68, mw_12, Or.inl ⟨5, mjF5, 5, by decide +kernel, rfl, rfl, rfl, mw_640, mw_642, mjsel_20⟩⟩) ?_
    refine mj_all_cons 31 rfl (trivial) ?_
    refine mj_all_cons 32 rfl (trivial) ?_
    refine mj_all_cons 33 rfl (Or.inr ⟨by decide +kernel, rfl⟩) ?_
    refine mj_all_cons 34 rfl (trivial) ?_
    refine mj_all_cons 35 rfl (Or.inr ⟨by decide +kernel, rfl⟩) ?_
    refine mj_all_cons 36 rfl (trivial) ?_
    refine mj_all_cons 37 rfl (show _ = _ from by decide +kernel) ?_
    refine mj_all_cons 38 rfl (trivial) ?_
    refine mj_all_cons 39 rfl (trivial) ?_
    refine mj_all_cons 40 rfl (Or.inr ⟨by decide +kernel, rfl⟩) ?_
    refine mj_all_cons 41 rfl (trivial) ?_
    refine mj_all_cons 42 rfl (show _ = _ from by decide +kernel) ?_
    refine mj_all_cons 43 rfl (Or.inl ⟨0, by decide +kernel, rfl, rfl⟩) ?_
    refine mj_all_cons 44 rfl (⟨18, "ListSpeaker$Maker", mjF5, 5, by decide +kernel, rfl, by decide, mw_208, mjw5⟩) ?_
    refine mj_all_cons 45 rfl (trivial) ?_
    refine mj_all_cons 46 rfl (trivial) ?_
    refine mj_all_cons 47 rfl (Or.inr ⟨by decide +kernel, rfl⟩) ?_
    refine mj_all_cons 48 rfl (trivial) ?_
    refine mj_all_cons 49 rfl (⟨mjcM21, 72, 1, rfl, by decide, mjcd21, mw_8, Or.inl ⟨2, mjF2, 12, by decide +kernel, rfl, rfl, rfl, mw_635, mw_602, mw_603⟩⟩) ?_
    refine mj_all_cons 50 rfl (trivial) ?_
    refine mj_all_cons 51 rfl (trivial) ?_
    refine mj_all_cons 52 rfl (Or.inr ⟨by decide +kernel, rfl⟩) ?_
    refine mj_all_cons 53 rfl (trivial) ?_
    refine mj_all_cons 54 rfl (show _ = _ from by decide +kernel) ?_
    refine mj_all_cons 55 rfl (trivial) ?_
    refine mj_all_cons 56 rfl (trivial) ?_
    refine mj_all_cons 57 rfl (show _ = _ from by decide +kernel) ?_
    refine mj_all_cons 58 rfl (trivial) ?_
    refine mj_all_cons 59 rfl (trivial) ?_
    refine mj_all_cons 60 rfl (Or.inl ⟨by decide +kernel, rfl⟩) ?_
    refine mj_all_cons 61 rfl (show _ = _ from by decide +kernel) ?_
    exact trivial
  intro pc o ho
  have := mj_all_get _ 0 h pc o ho
  rw [Nat.zero_add] at this
  exact this
