set_option maxRecDepth 100000 in
theorem mjci40 : ∀ (pc : Nat) (o : mj_O), mjco40[pc]? = some o → mj_is mj_kl mjcM40.1.cls mj_WS mj_NWs mjc_Ms mjcM40.2.1 pc o := by
  have h : mj_all (mj_is mj_kl mjcM40.1.cls mj_WS mj_NWs mjc_Ms mjcM40.2.1) 0 mjco40 := by
    unfold mjco40
    refine mj_all_cons 1 rfl (Or.inr (Or.inr (Or.inr (Or.inl ⟨51, by decide +kernel, rfl, mw_527⟩)))) ?_
    refine mj_all_cons 2 rfl (trivial) ?_
    refine mj_all_cons 3 rfl (Or.inl ⟨2, by decide +kernel, rfl, rfl⟩) ?_
    refine mj_all_cons 4 rfl (Or.inl ⟨by decide +kernel, rfl⟩) ?_
    refine mj_all_cons 5 rfl (Or.inl ⟨3, by decide +kernel, rfl, rfl⟩) ?_
    refine mj_all_cons 6 rfl (Or.inl ⟨by decide +kernel, rfl⟩) ?_
    refine mj_all_cons 7 rfl (Or.inr ⟨by decide +kernel, rfl⟩) ?_
    refine mj_all_cons 8 rfl (trivial) ?_
    refine mj_all_cons 9 rfl (Or.inr ⟨by decide +kernel, rfl⟩) ?_
    refine mj_all_cons 10 rfl (trivial) ?_
    refine mj_all_cons 11 rfl (Or.inr (Or.inr (Or.inl ⟨by decide +kernel, rfl, by decide⟩))) ?_
    refine mj_all_cons 12 rfl (trivial) ?_
    refine mj_all_cons 13 rfl (trivial) ?_
    refine mj_all_cons 14 rfl (show _ = _ from by decide +kernel) ?_
    refine mj_all_cons 15 rfl (trivial) ?_
    refine mj_all_cons 16 rfl (trivial) ?_
    refine mj_all_cons 17 rfl (Or.inl ⟨0, by decide +kernel, rfl, rfl⟩) ?_
    refine mj_all_cons 18 rfl (⟨mjcM48, 30, 0, rfl, by decide, mjcd48, mw_10, Or.inl ⟨3, mjF3, 5, by decide +kernel, rfl, rfl, rfl, mw_503, mw_505, mjsel_4⟩⟩) ?_
    refine mj_all_cons 19 rfl (trivial) ?_
    refine mj_all_cons 20 rfl (trivial) ?_
    refine mj_all_cons 21 rfl (Or.inl ⟨0, by decide +kernel, rfl, rfl⟩) ?_
    refine mj_all_cons 22 rfl (Or.inr (Or.inl ⟨by decide +kernel, rfl, by decide⟩)) ?_
    refine mj_all_cons 23 rfl (trivial) ?_
    refine mj_all_cons 24 rfl (⟨mjcM49, 37, 1, rfl, by decide, mjcd49, mw_10, Or.inl ⟨3, mjF3, 5, by decide +kernel, rfl, rfl, rfl, mw_519, mw_521, mjsel_6⟩⟩) ?_
    refine mj_all_cons 25 rfl (trivial) ?_
    refine mj_all_cons 26 rfl (trivial) ?_
    refine mj_all_cons 27 rfl (show _ = _ from by decide +kernel) ?_
    refine mj_all_cons 28 rfl (trivial) ?_
    refine mj_all_cons 29 rfl (trivial) ?_
    refine mj_all_cons 30 rfl (Or.inl ⟨0, by decide +kernel, rfl, rfl⟩) ?_
    refine mj_all_cons 31 rfl (show _ = _ from by decide +kernel) ?_
    refine mj_all_cons 32 rfl (⟨27, "ListSpeaker$Reader", mjF3, 5, by decide +kernel, rfl, by decide, mw_171, mjw3⟩) ?_
    refine mj_all_cons 33 rfl (trivial) ?_
    refine mj_all_cons 34 rfl (trivial) ?_
    refine mj_all_cons 35 rfl (Or.inl ⟨by decide +kernel, rfl⟩) ?_
    refine mj_all_cons 36 rfl (show _ = _ from by decide +kernel) ?_
    refine mj_all_cons 37 rfl (⟨27, "ListSpeaker$Reader", mjF3, 5, mjt3, by decide +kernel, rfl, by decide, mw_171, mjw3, mjk3, mjn3, rfl, by decide +kernel⟩) ?_
    refine mj_all_cons 38 rfl (trivial) ?_
    refine mj_all_cons 39 rfl (trivial) ?_
    refine mj_all_cons 40 rfl (Or.inl ⟨2, by decide +kernel, rfl, rfl⟩) ?_
    refine mj_all_cons 41 rfl (show _ = _ from by decide +kernel) ?_
    refine mj_all_cons 42 rfl (Or.inl ⟨0, by decide +kernel, rfl, rfl⟩) ?_
    refine mj_all_cons 43 rfl (⟨mjcM50, 52, 0, rfl, by decide, mjcd50, mw_10, Or.inl ⟨3, mjF3, 5, by decide +kernel, rfl, rfl, rfl, mw_528, mw_530, mjsel_8⟩⟩) ?_
    refine mj_all_cons 44 rfl (trivial) ?_
    refine mj_all_cons 45 rfl (trivial) ?_
    refine mj_all_cons 46 rfl (show _ = _ from by decide +kernel) ?_
    refine mj_all_cons 47 rfl (trivial) ?_
    refine mj_all_cons 48 rfl (trivial) ?_
    refine mj_all_cons 49 rfl (Or.inl ⟨3, by decide +kernel, rfl, rfl⟩) ?_
    refine mj_all_cons 50 rfl (Or.inl ⟨by decide +kernel, rfl⟩) ?_
    refine mj_all_cons 51 rfl (show _ = _ from by decide +kernel) ?_
    refine mj_all_cons 52 rfl (trivial) ?_
    refine mj_all_cons 53 rfl (trivial) ?_
    refine mj_all_cons 54 rfl (Or.inl ⟨by decide +kernel, rfl⟩) ?_
    refine mj_all_cons 55 rfl (show _ = _ from by decide +kernel) ?_
    refine mj_all_cons 56 rfl (trivial) ?_
    refine mj_all_cons 57 rfl (trivial) ?_
    refine mj_all_cons 58 rfl (Or.inl ⟨0, by decide +kernel, rfl, rfl⟩) ?_
    refine mj_all_cons 59 rfl (Or.inl ⟨2, by decide +kernel, rfl, rfl⟩) ?_
    refine mj_all_cons 60 rfl (Or.inl ⟨3, by decide +kernel, rfl, rfl⟩) ?_
    refine mj_all_cons 61 rfl (Or.inl ⟨1, by decide +kernel, rfl, rfl⟩) ?_
    refine mj_all_cons 62 rfl (⟨mjcM42, 56, 3, rfl, by decide, mjcd42, mw_10, Or.inl ⟨3, mjF3, 5, by decide +kernel, rfl, rfl, rfl, mw_539, mw_541, mjsel_10⟩⟩) ?_
    refine mj_all_cons 63 rfl (trivial) ?_
    refine mj_all_cons 64 rfl (trivial) ?_
    refine mj_all_cons 65 rfl (show _ = _ from by decide +kernel) ?_
    refine mj_all_cons 66 rfl (Or.inl ⟨0, by decide +kernel, rfl, rfl⟩) ?_
    refine mj_all_cons 67 rfl (Or.inl ⟨1, by decide +kernel, rfl, rfl⟩) ?_
    refine mj_all_cons 68 rfl (⟨mjcM41, 60, 1, rfl, by decide, mjcd41, mw_10, Or.inl ⟨3, mjF3, 5, by decide +kernel, rfl, rfl, rfl, mw_548, mw_550, mjsel_11⟩⟩) ?_
    refine mj_all_cons 69 rfl (trivial) ?_
    refine mj_all_cons 70 rfl (trivial) ?_
    refine mj_all_cons 71 rfl (Or.inr ⟨by decide +kernel, rfl⟩) ?_
    refine mj_all_cons 72 rfl (trivial) ?_
    refine mj_all_cons 73 rfl (Or.inr ⟨by decide +kernel, rfl⟩) ?_
    refine mj_all_cons 74 rfl (trivial) ?_
    refine mj_all_cons 75 rfl (show _ = _ from by decide +kernel) ?_
    refine mj_all_cons 76 rfl (trivial) ?_
    refine mj_all_cons 77 rfl (trivial) ?_
    refine mj_all_cons 78 rfl (Or.inr ⟨by decide +kernel, rfl⟩) ?_
    refine mj_all_cons 79 rfl (trivial) ?_
    refine mj_all_cons 80 rfl (show _ = _ from by decide +kernel) ?_
    refine mj_all_cons 81 rfl (Or.inl ⟨3, by decide +kernel, rfl, rfl⟩) ?_
    refine mj_all_cons 82 rfl (Or.inl ⟨by decide +kernel, rfl⟩) ?_
    refine mj_all_cons 83 rfl (show _ = _ from by decide +kernel) ?_
    refine mj_all_cons 84 rfl (trivial) ?_
    refine mj_all_cons 85 rfl (trivial) ?_
    refine mj_all_cons 86 rfl (Or.inr ⟨by decide +kernel, rfl⟩) ?_
    refine mj_all_cons 87 rfl (trivial) ?_
    refine mj_all_cons 88 rfl (Or.inl ⟨2, by decide +kernel, rfl, rfl⟩) ?_
    refine mj_all_cons 89 rfl (Or.inl ⟨0, by decide +kernel, rfl, rfl⟩) ?_
    refine mj_all_cons 90 rfl (⟨19, "ListSpeaker$Reader", mjF3, 5, by decide +kernel, rfl, by decide, mw_168, mjw3⟩) ?_
    refine mj_all_cons 91 rfl (trivial) ?_
    refine mj_all_cons 92 rfl (trivial) ?_
    refine mj_all_cons 93 rfl (Or.inl ⟨3, by decide +kernel, rfl, rfl⟩) ?_
    refine mj_all_cons 94 rfl (Or.inr ⟨by decide +kernel, rfl⟩) ?_
    refine mj_all_cons 95 rfl (trivial) ?_
    refine mj_all_cons 96 rfl (⟨mjcM25, 63, 2, rfl, by decide, mjcd25, mw_8, Or.inl ⟨2, mjF2, 12, by decide +kernel, rfl, rfl, rfl, mw_543, mw_544, mw_545⟩⟩) ?_
    refine mj_all_cons 97 rfl (trivial) ?_
    refine mj_all_cons 98 rfl (trivial) ?_
    refine mj_all_cons 99 rfl (Or.inr ⟨by decide +kernel, rfl⟩) ?_
    refine mj_all_cons 100 rfl (trivial) ?_
    refine mj_all_cons 101 rfl (Or.inl ⟨3, by decide +kernel, rfl, rfl⟩) ?_
    refine mj_all_cons 102 rfl (show _ = _ from by decide +kernel) ?_
    refine mj_all_cons 103 rfl (trivial) ?_
    refine mj_all_cons 104 rfl (trivial) ?_
    refine mj_all_cons 105 rfl (show _ = _ from by decide +kernel) ?_
    refine mj_all_cons 106 rfl (trivial) ?_
    refine mj_all_cons 107 rfl (trivial) ?_
    refine mj_all_cons 108 rfl (Or.inl ⟨by decide +kernel, rfl⟩) ?_
    refine mj_all_cons 109 rfl (show _ = _ from by decide +kernel) ?_
    exact trivial
  intro pc o ho
  have := mj_all_get _ 0 h pc o ho
  rw [Nat.zero_add] at this
  exact this
set_option maxRecDepth 100000 in
theorem mjci41 : ∀ (pc : Nat) (o : mj_O), mjco41[pc]? = some o → mj_is mj_kl mjcM41.1.cls mj_WS mj_NWs mjc_Ms mjcM41.2.1 pc o := by
  have h : mj_all (mj_is mj_kl mjcM41.1.cls mj_WS mj_NWs mjc_Ms mjcM41.2.1) 0 mjco41 := by
    unfold mjco41
    refine mj_all_cons 1 rfl (Or.inl ⟨0, by decide +kernel, rfl, rfl⟩) ?_
    refine mj_all_cons 2 rfl (Or.inl ⟨1, by decide +kernel, rfl, rfl⟩) ?_
    refine mj_all_cons 3 rfl (⟨mjcM39, 33, 1, rfl, by decide, mjcd39, mw_10, Or.inl ⟨3, mjF3, 5, by decide +kernel, rfl, rfl, rfl, mw_515, mw_517, mjsel_5⟩⟩) ?_
    refine mj_all_cons 4 rfl (trivial) ?_
    refine mj_all_cons 5 rfl (trivial) ?_
    refine mj_all_cons 6 rfl (Or.inl ⟨2, by decide +kernel, rfl, rfl⟩) ?_
    refine mj_all_cons 7 rfl (Or.inl ⟨2, by decide +kernel, rfl, rfl⟩) ?_
    refine mj_all_cons 8 rfl (show _ = _ from by decide +kernel) ?_
    refine mj_all_cons 9 rfl (trivial) ?_
    refine mj_all_cons 10 rfl (trivial) ?_
    refine mj_all_cons 11 rfl (Or.inl ⟨2, by decide +kernel, rfl, rfl⟩) ?_
    refine mj_all_cons 12 rfl (show _ = _ from by decide +kernel) ?_
    refine mj_all_cons 13 rfl (trivial) ?_
    refine mj_all_cons 14 rfl (trivial) ?_
    refine mj_all_cons 15 rfl (Or.inl ⟨0, by decide +kernel, rfl, rfl⟩) ?_
    refine mj_all_cons 16 rfl (⟨19, "ListSpeaker$Reader", mjF3, 5, by decide +kernel, rfl, by decide, mw_168, mjw3⟩) ?_
    refine mj_all_cons 17 rfl (trivial) ?_
    refine mj_all_cons 18 rfl (trivial) ?_
    refine mj_all_cons 19 rfl (Or.inl ⟨2, by decide +kernel, rfl, rfl⟩) ?_
    refine mj_all_cons 20 rfl (Or.inr (Or.inr (Or.inr (Or.inl ⟨51, by decide +kernel, rfl, mw_527⟩)))) ?_
    refine mj_all_cons 21 rfl (trivial) ?_
    refine mj_all_cons 22 rfl (⟨mjcM24, 69, 2, rfl, by decide, mjcd24, mw_8, Or.inl ⟨2, mjF2, 12, by decide +kernel, rfl, rfl, rfl, mw_552, mw_553, mw_554⟩⟩) ?_
    refine mj_all_cons 23 rfl (trivial) ?_
    refine mj_all_cons 24 rfl (trivial) ?_
    refine mj_all_cons 25 rfl (show _ = _ from by decide +kernel) ?_
    exact trivial
  intro pc o ho
  have := mj_all_get _ 0 h pc o ho
  rw [Nat.zero_add] at this
  exact this
set_option maxRecDepth 100000 in
theorem mjci42 : ∀ (pc : Nat) (o : mj_O), mjco42[pc]? = some o → mj_is mj_kl mjcM42.1.cls mj_WS mj_NWs mjc_Ms mjcM42.2.1 pc o := by
  have h : mj_all (mj_is mj_kl mjcM42.1.cls mj_WS mj_NWs mjc_Ms mjcM42.2.1) 0 mjco42 := by
    unfold mjco42
    refine mj_all_cons 1 rfl (Or.inl ⟨0, by decide +kernel, rfl, rfl⟩) ?_
    refine mj_all_cons 2 rfl (show _ = _ from by decide +kernel) ?_
    refine mj_all_cons 3 rfl (⟨27, "ListSpeaker$Reader", mjF3, 5, by decide +kernel, rfl, by decide, mw_171, mjw3⟩) ?_
    refine mj_all_cons 4 rfl (trivial) ?_
    refine mj_all_cons 5 rfl (trivial) ?_
    refine mj_all_cons 6 rfl (Or.inl ⟨by decide +kernel, rfl⟩) ?_
    refine mj_all_cons 7 rfl (show _ = _ from by decide +kernel) ?_
    refine mj_all_cons 8 rfl (⟨27, "ListSpeaker$Reader", mjF3, 5, mjt3, by decide +kernel, rfl, by decide, mw_171, mjw3, mjk3, mjn3, rfl, by decide +kernel⟩) ?_
    refine mj_all_cons 9 rfl (trivial) ?_
    refine mj_all_cons 10 rfl (trivial) ?_
    refine mj_all_cons 11 rfl (Or.inl ⟨0, by decide +kernel, rfl, rfl⟩) ?_
    refine mj_all_cons 12 rfl (Or.inl ⟨3, by decide +kernel, rfl, rfl⟩) ?_
    refine mj_all_cons 13 rfl (⟨mjcM39, 33, 1, rfl, by decide, mjcd39, mw_10, Or.inl ⟨3, mjF3, 5, by decide +kernel, rfl, rfl, rfl, mw_515, mw_517, mjsel_5⟩⟩) ?_
    refine mj_all_cons 14 rfl (trivial) ?_
    refine mj_all_cons 15 rfl (trivial) ?_
    refine mj_all_cons 16 rfl (Or.inr ⟨by decide +kernel, rfl⟩) ?_
    refine mj_all_cons 17 rfl (trivial) ?_
    refine mj_all_cons 18 rfl (Or.inr ⟨by decide +kernel, rfl⟩) ?_
    refine mj_all_cons 19 rfl (trivial) ?_
    refine mj_all_cons 20 rfl (show _ = _ from by decide +kernel) ?_
    refine mj_all_cons 21 rfl (trivial) ?_
    refine mj_all_cons 22 rfl (trivial) ?_
    refine mj_all_cons 23 rfl (Or.inr ⟨by decide +kernel, rfl⟩) ?_
    refine mj_all_cons 24 rfl (trivial) ?_
    refine mj_all_cons 25 rfl (show _ = _ from by decide +kernel) ?_
    refine mj_all_cons 26 rfl (Or.inl ⟨0, by decide +kernel, rfl, rfl⟩) ?_
    refine mj_all_cons 27 rfl (⟨mjcM48, 30, 0, rfl, by decide, mjcd48, mw_10, Or.inl ⟨3, mjF3, 5, by decide +kernel, rfl, rfl, rfl, mw_503, mw_505, mjsel_4⟩⟩) ?_
    refine mj_all_cons 28 rfl (trivial) ?_
    refine mj_all_cons 29 rfl (trivial) ?_
    refine mj_all_cons 30 rfl (Or.inl ⟨0, by decide +kernel, rfl, rfl⟩) ?_
    refine mj_all_cons 31 rfl (Or.inr (Or.inl ⟨by decide +kernel, rfl, by decide⟩)) ?_
    refine mj_all_cons 32 rfl (trivial) ?_
    refine mj_all_cons 33 rfl (⟨mjcM49, 37, 1, rfl, by decide, mjcd49, mw_10, Or.inl ⟨3, mjF3, 5, by decide +kernel, rfl, rfl, rfl, mw_519, mw_521, mjsel_6⟩⟩) ?_
    refine mj_all_cons 34 rfl (trivial) ?_
    refine mj_all_cons 35 rfl (trivial) ?_
    refine mj_all_cons 36 rfl (show _ = _ from by decide +kernel) ?_
    refine mj_all_cons 37 rfl (trivial) ?_
    refine mj_all_cons 38 rfl (trivial) ?_
    refine mj_all_cons 39 rfl (Or.inl ⟨by decide +kernel, rfl⟩) ?_
    refine mj_all_cons 40 rfl (show _ = _ from by decide +kernel) ?_
    refine mj_all_cons 41 rfl (Or.inl ⟨0, by decide +kernel, rfl, rfl⟩) ?_
    refine mj_all_cons 42 rfl (show _ = _ from by decide +kernel) ?_
    refine mj_all_cons 43 rfl (⟨27, "ListSpeaker$Reader", mjF3, 5, by decide +kernel, rfl, by decide, mw_171, mjw3⟩) ?_
    refine mj_all_cons 44 rfl (trivial) ?_
    refine mj_all_cons 45 rfl (trivial) ?_
    refine mj_all_cons 46 rfl (Or.inl ⟨by decide +kernel, rfl⟩) ?_
    refine mj_all_cons 47 rfl (show _ = _ from by decide +kernel) ?_
    refine mj_all_cons 48 rfl (⟨27, "ListSpeaker$Reader", mjF3, 5, mjt3, by decide +kernel, rfl, by decide, mw_171, mjw3, mjk3, mjn3, rfl, by decide +kernel⟩) ?_
    refine mj_all_cons 49 rfl (trivial) ?_
    refine mj_all_cons 50 rfl (trivial) ?_
    refine mj_all_cons 51 rfl (Or.inl ⟨0, by decide +kernel, rfl, rfl⟩) ?_
    refine mj_all_cons 52 rfl (⟨19, "ListSpeaker$Reader", mjF3, 5, by decide +kernel, rfl, by decide, mw_168, mjw3⟩) ?_
    refine mj_all_cons 53 rfl (trivial) ?_
    refine mj_all_cons 54 rfl (trivial) ?_
    refine mj_all_cons 55 rfl (Or.inl ⟨2, by decide +kernel, rfl, rfl⟩) ?_
    refine mj_all_cons 56 rfl (Or.inr ⟨by decide +kernel, rfl⟩) ?_
    refine mj_all_cons 57 rfl (trivial) ?_
    refine mj_all_cons 58 rfl (⟨mjcM25, 63, 2, rfl, by decide, mjcd25, mw_8, Or.inl ⟨2, mjF2, 12, by decide +kernel, rfl, rfl, rfl, mw_543, mw_544, mw_545⟩⟩) ?_
    refine mj_all_cons 59 rfl (trivial) ?_
    refine mj_all_cons 60 rfl (trivial) ?_
    refine mj_all_cons 61 rfl (Or.inl ⟨1, by decide +kernel, rfl, rfl⟩) ?_
    refine mj_all_cons 62 rfl (show _ = _ from by decide +kernel) ?_
    exact trivial
  intro pc o ho
  have := mj_all_get _ 0 h pc o ho
  rw [Nat.zero_add] at this
  exact this
set_option maxRecDepth 100000 in
theorem mjci43 : ∀ (pc : Nat) (o : mj_O), mjco43[pc]? = some o → mj_is mj_kl mjcM43.1.cls mj_WS mj_NWs mjc_Ms mjcM43.2.1 pc o := by
  have h : mj_all (mj_is mj_kl mjcM43.1.cls mj_WS mj_NWs mjc_Ms mjcM43.2.1) 0 mjco43 := by
    unfold mjco43
    refine mj_all_cons 1 rfl (Or.inl ⟨0, by decide +kernel, rfl, rfl⟩) ?_
    refine mj_all_cons 2 rfl (Or.inl ⟨1, by decide +kernel, rfl, rfl⟩) ?_
    refine mj_all_cons 3 rfl (⟨mjcM41, 60, 1, rfl, by decide, mjcd41, mw_10, Or.inl ⟨3, mjF3, 5, by decide +kernel, rfl, rfl, rfl, mw_548, mw_550, mjsel_11⟩⟩) ?_
    refine mj_all_cons 4 rfl (trivial) ?_
    refine mj_all_cons 5 rfl (trivial) ?_
    refine mj_all_cons 6 rfl (Or.inl ⟨2, by decide +kernel, rfl, rfl⟩) ?_
    refine mj_all_cons 7 rfl (Or.inl ⟨2, by decide +kernel, rfl, rfl⟩) ?_
    refine mj_all_cons 8 rfl (show _ = _ from by decide +kernel) ?_
    refine mj_all_cons 9 rfl (trivial) ?_
    refine mj_all_cons 10 rfl (trivial) ?_
    refine mj_all_cons 11 rfl (Or.inl ⟨2, by decide +kernel, rfl, rfl⟩) ?_
    refine mj_all_cons 12 rfl (show _ = _ from by decide +kernel) ?_
    refine mj_all_cons 13 rfl (trivial) ?_
    refine mj_all_cons 14 rfl (trivial) ?_
    refine mj_all_cons 15 rfl (Or.inl ⟨0, by decide +kernel, rfl, rfl⟩) ?_
    refine mj_all_cons 16 rfl (⟨19, "ListSpeaker$Reader", mjF3, 5, by decide +kernel, rfl, by decide, mw_168, mjw3⟩) ?_
    refine mj_all_cons 17 rfl (trivial) ?_
    refine mj_all_cons 18 rfl (trivial) ?_
    refine mj_all_cons 19 rfl (Or.inr (Or.inr (Or.inr (Or.inl ⟨73, by decide +kernel, rfl, mw_560⟩)))) ?_
    refine mj_all_cons 20 rfl (trivial) ?_
    refine mj_all_cons 21 rfl (Or.inl ⟨2, by decide +kernel, rfl, rfl⟩) ?_
    refine mj_all_cons 22 rfl (⟨mjcM24, 69, 2, rfl, by decide, mjcd24, mw_8, Or.inl ⟨2, mjF2, 12, by decide +kernel, rfl, rfl, rfl, mw_552, mw_553, mw_554⟩⟩) ?_
    refine mj_all_cons 23 rfl (trivial) ?_
    refine mj_all_cons 24 rfl (trivial) ?_
    refine mj_all_cons 25 rfl (show _ = _ from by decide +kernel) ?_
    exact trivial
  intro pc o ho
  have := mj_all_get _ 0 h pc o ho
  rw [Nat.zero_add] at this
  exact this
set_option maxRecDepth 100000 in
theorem mjci44 : ∀ (pc : Nat) (o : mj_O), mjco44[pc]? = some o → mj_is mj_kl mjcM44.1.cls mj_WS mj_NWs mjc_Ms mjcM44.2.1 pc o := by
  have h : mj_all (mj_is mj_kl mjcM44.1.cls mj_WS mj_NWs mjc_Ms mjcM44.2.1) 0 mjco44 := by
    unfold mjco44
    refine mj_all_cons 1 rfl (Or.inl ⟨0, by decide +kernel, rfl, rfl⟩) ?_
    refine mj_all_cons 2 rfl (⟨27, "ListSpeaker$Reader", mjF3, 5, by decide +kernel, rfl, by decide, mw_171, mjw3⟩) ?_
    refine mj_all_cons 3 rfl (trivial) ?_
    refine mj_all_cons 4 rfl (trivial) ?_
    refine mj_all_cons 5 rfl (Or.inl ⟨1, by decide +kernel, rfl, rfl⟩) ?_
    refine mj_all_cons 6 rfl (Or.inl ⟨0, by decide +kernel, rfl, rfl⟩) ?_
    refine mj_all_cons 7 rfl (⟨mjcM47, 74, 0, rfl, by decide, mjcd47, mw_10, Or.inl ⟨3, mjF3, 5, by decide +kernel, rfl, rfl, rfl, mw_532, mw_534, mjsel_9⟩⟩) ?_
    refine mj_all_cons 8 rfl (trivial) ?_
    refine mj_all_cons 9 rfl (trivial) ?_
    refine mj_all_cons 10 rfl (Or.inl ⟨2, by decide +kernel, rfl, rfl⟩) ?_
    refine mj_all_cons 11 rfl (Or.inl ⟨2, by decide +kernel, rfl, rfl⟩) ?_
    refine mj_all_cons 12 rfl (Or.inl ⟨1, by decide +kernel, rfl, rfl⟩) ?_
    refine mj_all_cons 13 rfl (show _ = _ from by decide +kernel) ?_
    refine mj_all_cons 14 rfl (trivial) ?_
    refine mj_all_cons 15 rfl (trivial) ?_
    refine mj_all_cons 16 rfl (Or.inl ⟨by decide +kernel, rfl⟩) ?_
    refine mj_all_cons 17 rfl (show _ = _ from by decide +kernel) ?_
    refine mj_all_cons 18 rfl (Or.inl ⟨0, by decide +kernel, rfl, rfl⟩) ?_
    refine mj_all_cons 19 rfl (Or.inl ⟨2, by decide +kernel, rfl, rfl⟩) ?_
    refine mj_all_cons 20 rfl (⟨27, "ListSpeaker$Reader", mjF3, 5, mjt3, by decide +kernel, rfl, by decide, mw_171, mjw3, mjk3, mjn3, rfl, by decide +kernel⟩) ?_
    refine mj_all_cons 21 rfl (trivial) ?_
    refine mj_all_cons 22 rfl (trivial) ?_
    refine mj_all_cons 23 rfl (Or.inl ⟨0, by decide +kernel, rfl, rfl⟩) ?_
    refine mj_all_cons 24 rfl (⟨9, "ListSpeaker$Reader", mjF3, 5, by decide +kernel, rfl, by decide, mw_169, mjw3⟩) ?_
    refine mj_all_cons 25 rfl (trivial) ?_
    refine mj_all_cons 26 rfl (trivial) ?_
    refine mj_all_cons 27 rfl (Or.inl ⟨1, by decide +kernel, rfl, rfl⟩) ?_
    refine mj_all_cons 28 rfl (show _ = _ from by decide +kernel) ?_
    refine mj_all_cons 29 rfl (⟨mjcM52, 77, 1, rfl, by decide, mjcd52, mw_10, Or.inr (Or.inl ⟨by decide +kernel, rfl, rfl, mw_565, mw_566⟩)⟩) ?_
    refine mj_all_cons 30 rfl (trivial) ?_
    refine mj_all_cons 31 rfl (trivial) ?_
    refine mj_all_cons 32 rfl (show _ = _ from by decide +kernel) ?_
    refine mj_all_cons 33 rfl (trivial) ?_
    refine mj_all_cons 34 rfl (trivial) ?_
    refine mj_all_cons 35 rfl (Or.inl ⟨0, by decide +kernel, rfl, rfl⟩) ?_
    refine mj_all_cons 36 rfl (Or.inl ⟨1, by decide +kernel, rfl, rfl⟩) ?_
    refine mj_all_cons 37 rfl (Or.inl ⟨2, by decide +kernel, rfl, rfl⟩) ?_
    refine mj_all_cons 38 rfl (⟨mjcM45, 80, 2, rfl, by decide, mjcd45, mw_10, Or.inl ⟨3, mjF3, 5, by decide +kernel, rfl, rfl, rfl, mw_568, mw_570, mjsel_14⟩⟩) ?_
    refine mj_all_cons 39 rfl (trivial) ?_
    refine mj_all_cons 40 rfl (trivial) ?_
    refine mj_all_cons 41 rfl (show _ = _ from by decide +kernel) ?_
    refine mj_all_cons 42 rfl (trivial) ?_
    refine mj_all_cons 43 rfl (trivial) ?_
    refine mj_all_cons 44 rfl (Or.inl ⟨0, by decide +kernel, rfl, rfl⟩) ?_
    refine mj_all_cons 45 rfl (Or.inl ⟨1, by decide +kernel, rfl, rfl⟩) ?_
    refine mj_all_cons 46 rfl (Or.inl ⟨2, by decide +kernel, rfl, rfl⟩) ?_
    refine mj_all_cons 47 rfl (⟨mjcM46, 83, 2, rfl, by decide, mjcd46, mw_10, Or.inl ⟨3, mjF3, 5, by decide +kernel, rfl, rfl, rfl, mw_575, mw_577, mjsel_15⟩⟩) ?_
    refine mj_all_cons 48 rfl (trivial) ?_
    refine mj_all_cons 49 rfl (trivial) ?_
    refine mj_all_cons 50 rfl (show _ = _ from by decide +kernel) ?_
    exact trivial
  intro pc o ho
  have := mj_all_get _ 0 h pc o ho
  rw [Nat.zero_add] at this
  exact this
set_option maxRecDepth 100000 in
theorem mjci45 : ∀ (pc : Nat) (o : mj_O), mjco45[pc]? = some o → mj_is mj_kl mjcM45.1.cls mj_WS mj_NWs mjc_Ms mjcM45.2.1 pc o := by
  have h : mj_all (mj_is mj_kl mjcM45.1.cls mj_WS mj_NWs mjc_Ms mjcM45.2.1) 0 mjco45 := by
    unfold mjco45
    refine mj_all_cons 1 rfl (Or.inl ⟨0, by decide +kernel, rfl, rfl⟩) ?_
    refine mj_all_cons 2 rfl (Or.inl ⟨3, by decide +kernel, rfl, rfl⟩) ?_
    refine mj_all_cons 3 rfl (Or.inl ⟨1, by decide +kernel, rfl, rfl⟩) ?_
    refine mj_all_cons 4 rfl (Or.inr ⟨by decide +kernel, rfl⟩) ?_
    refine mj_all_cons 5 rfl (trivial) ?_
    refine mj_all_cons 6 rfl (Or.inr ⟨by decide +kernel, rfl⟩) ?_
    refine mj_all_cons 7 rfl (trivial) ?_
    refine mj_all_cons 8 rfl (Or.inl ⟨2, by decide +kernel, rfl, rfl⟩) ?_
    refine mj_all_cons 9 rfl (show _ = _ from by decide +kernel) ?_
    refine mj_all_cons 10 rfl (trivial) ?_
    refine mj_all_cons 11 rfl (trivial) ?_
    refine mj_all_cons 12 rfl (Or.inl ⟨0, by decide +kernel, rfl, rfl⟩) ?_
    refine mj_all_cons 13 rfl (⟨9, "ListSpeaker$Reader", mjF3, 5, by decide +kernel, rfl, by decide, mw_169, mjw3⟩) ?_
    refine mj_all_cons 14 rfl (trivial) ?_
    refine mj_all_cons 15 rfl (trivial) ?_
    refine mj_all_cons 16 rfl (Or.inr ⟨by decide +kernel, rfl⟩) ?_
    refine mj_all_cons 17 rfl (trivial) ?_
    refine mj_all_cons 18 rfl (show _ = _ from by decide +kernel) ?_
    refine mj_all_cons 19 rfl (⟨mjcM52, 77, 1, rfl, by decide, mjcd52, mw_10, Or.inr (Or.inl ⟨by decide +kernel, rfl, rfl, mw_565, mw_566⟩)⟩) ?_
    refine mj_all_cons 20 rfl (trivial) ?_
    refine mj_all_cons 21 rfl (trivial) ?_
    refine mj_all_cons 22 rfl (show _ = _ from by decide +kernel) ?_
    refine mj_all_cons 23 rfl (trivial) ?_
    refine mj_all_cons 24 rfl (trivial) ?_
    refine mj_all_cons 25 rfl (Or.inl ⟨by decide +kernel, rfl⟩) ?_
    refine mj_all_cons 26 rfl (show _ = _ from by decide +kernel) ?_
    refine mj_all_cons 27 rfl (Or.inl ⟨3, by decide +kernel, rfl, rfl⟩) ?_
    refine mj_all_cons 28 rfl (Or.inr ⟨86, by decide +kernel, rfl, mw_572⟩) ?_
    refine mj_all_cons 29 rfl (trivial) ?_
    refine mj_all_cons 30 rfl (trivial) ?_
    refine mj_all_cons 31 rfl (show _ = _ from by decide +kernel) ?_
    refine mj_all_cons 32 rfl (Or.inl ⟨0, by decide +kernel, rfl, rfl⟩) ?_
    refine mj_all_cons 33 rfl (⟨9, "ListSpeaker$Reader", mjF3, 5, by decide +kernel, rfl, by decide, mw_169, mjw3⟩) ?_
    refine mj_all_cons 34 rfl (trivial) ?_
    refine mj_all_cons 35 rfl (trivial) ?_
    refine mj_all_cons 36 rfl (Or.inr ⟨by decide +kernel, rfl⟩) ?_
    refine mj_all_cons 37 rfl (trivial) ?_
    refine mj_all_cons 38 rfl (show _ = _ from by decide +kernel) ?_
    refine mj_all_cons 39 rfl (show _ = _ from by decide +kernel) ?_
    refine mj_all_cons 40 rfl (show _ = _ from by decide +kernel) ?_
    refine mj_all_cons 41 rfl (Or.inr ⟨88, by decide +kernel, rfl, mw_573⟩) ?_
    refine mj_all_cons 42 rfl (trivial) ?_
    refine mj_all_cons 43 rfl (trivial) ?_
    refine mj_all_cons 44 rfl (show _ = _ from by decide +kernel) ?_
    refine mj_all_cons 45 rfl (Or.inl ⟨3, by decide +kernel, rfl, rfl⟩) ?_
    refine mj_all_cons 46 rfl (Or.inl ⟨3, by decide +kernel, rfl, rfl⟩) ?_
    refine mj_all_cons 47 rfl (Or.inr ⟨90, by decide +kernel, rfl, mw_574⟩) ?_
    refine mj_all_cons 48 rfl (trivial) ?_
    refine mj_all_cons 49 rfl (trivial) ?_
    refine mj_all_cons 50 rfl (show _ = _ from by decide +kernel) ?_
    refine mj_all_cons 51 rfl (show _ = _ from by decide +kernel) ?_
    refine mj_all_cons 52 rfl (trivial) ?_
    refine mj_all_cons 53 rfl (trivial) ?_
    refine mj_all_cons 54 rfl (Or.inl ⟨by decide +kernel, rfl⟩) ?_
    refine mj_all_cons 55 rfl (show _ = _ from by decide +kernel) ?_
    refine mj_all_cons 56 rfl (show _ = _ from by decide +kernel) ?_
    refine mj_all_cons 57 rfl (trivial) ?_
    refine mj_all_cons 58 rfl (trivial) ?_
    refine mj_all_cons 59 rfl (show _ = _ from by decide +kernel) ?_
    refine mj_all_cons 60 rfl (trivial) ?_
    refine mj_all_cons 61 rfl (trivial) ?_
    refine mj_all_cons 62 rfl (Or.inl ⟨3, by decide +kernel, rfl, rfl⟩) ?_
    refine mj_all_cons 63 rfl (show _ = _ from by decide +kernel) ?_
    refine mj_all_cons 64 rfl (show _ = _ from by decide +kernel) ?_
    exact trivial
  intro pc o ho
  have := mj_all_get _ 0 h pc o ho
  rw [Nat.zero_add] at this
  exact this
set_option maxRecDepth 100000 in
theorem mjci46 : ∀ (pc : Nat) (o : mj_O), mjco46[pc]? = some o → mj_is mj_kl mjcM46.1.cls mj_WS mj_NWs mjc_Ms mjcM46.2.1 pc o := by
  have h : mj_all (mj_is mj_kl mjcM46.1.cls mj_WS mj_NWs mjc_Ms mjcM46.2.1) 0 mjco46 := by
    unfold mjco46
    refine mj_all_cons 1 rfl (Or.inl ⟨2, by decide +kernel, rfl, rfl⟩) ?_
    refine mj_all_cons 2 rfl (Or.inl ⟨1, by decide +kernel, rfl, rfl⟩) ?_
    refine mj_all_cons 3 rfl (show _ = _ from by decide +kernel) ?_
    refine mj_all_cons 4 rfl (Or.inr (Or.inl ⟨by decide +kernel, rfl, by decide⟩)) ?_
    refine mj_all_cons 5 rfl (trivial) ?_
    refine mj_all_cons 6 rfl (show _ = _ from by decide +kernel) ?_
    refine mj_all_cons 7 rfl (trivial) ?_
    refine mj_all_cons 8 rfl (trivial) ?_
    refine mj_all_cons 9 rfl (Or.inl ⟨by decide +kernel, rfl⟩) ?_
    refine mj_all_cons 10 rfl (show _ = _ from by decide +kernel) ?_
    refine mj_all_cons 11 rfl (Or.inl ⟨1, by decide +kernel, rfl, rfl⟩) ?_
    refine mj_all_cons 12 rfl (Or.inl ⟨3, by decide +kernel, rfl, rfl⟩) ?_
    refine mj_all_cons 13 rfl (Or.inl ⟨3, by decide +kernel, rfl, rfl⟩) ?_
    refine mj_all_cons 14 rfl (Or.inl ⟨2, by decide +kernel, rfl, rfl⟩) ?_
    refine mj_all_cons 15 rfl (show _ = _ from by decide +kernel) ?_
    refine mj_all_cons 16 rfl (trivial) ?_
    refine mj_all_cons 17 rfl (trivial) ?_
    refine mj_all_cons 18 rfl (Or.inl ⟨0, by decide +kernel, rfl, rfl⟩) ?_
    refine mj_all_cons 19 rfl (⟨9, "ListSpeaker$Reader", mjF3, 5, by decide +kernel, rfl, by decide, mw_169, mjw3⟩) ?_
    refine mj_all_cons 20 rfl (trivial) ?_
    refine mj_all_cons 21 rfl (trivial) ?_
    refine mj_all_cons 22 rfl (Or.inl ⟨3, by decide +kernel, rfl, rfl⟩) ?_
    refine mj_all_cons 23 rfl (show _ = _ from by decide +kernel) ?_
    refine mj_all_cons 24 rfl (⟨mjcM53, 92, 1, rfl, by decide, mjcd53, mw_10, Or.inr (Or.inl ⟨by decide +kernel, rfl, rfl, mw_579, mw_580⟩)⟩) ?_
    refine mj_all_cons 25 rfl (trivial) ?_
    refine mj_all_cons 26 rfl (trivial) ?_
    refine mj_all_cons 27 rfl (show _ = _ from by decide +kernel) ?_
    refine mj_all_cons 28 rfl (trivial) ?_
    refine mj_all_cons 29 rfl (trivial) ?_
    refine mj_all_cons 30 rfl (Or.inl ⟨0, by decide +kernel, rfl, rfl⟩) ?_
    refine mj_all_cons 31 rfl (⟨9, "ListSpeaker$Reader", mjF3, 5, by decide +kernel, rfl, by decide, mw_169, mjw3⟩) ?_
    refine mj_all_cons 32 rfl (trivial) ?_
    refine mj_all_cons 33 rfl (trivial) ?_
    refine mj_all_cons 34 rfl (Or.inl ⟨3, by decide +kernel, rfl, rfl⟩) ?_
    refine mj_all_cons 35 rfl (show _ = _ from by decide +kernel) ?_
    refine mj_all_cons 36 rfl (⟨mjcM52, 77, 1, rfl, by decide, mjcd52, mw_10, Or.inr (Or.inl ⟨by decide +kernel, rfl, rfl, mw_565, mw_566⟩)⟩) ?_
    refine mj_all_cons 37 rfl (trivial) ?_
    refine mj_all_cons 38 rfl (trivial) ?_
    refine mj_all_cons 39 rfl (show _ = _ from by decide +kernel) ?_
    refine mj_all_cons 40 rfl (trivial) ?_
    refine mj_all_cons 41 rfl (trivial) ?_
    refine mj_all_cons 42 rfl (Or.inl ⟨by decide +kernel, rfl⟩) ?_
    refine mj_all_cons 43 rfl (show _ = _ from by decide +kernel) ?_
    refine mj_all_cons 44 rfl (show _ = _ from by decide +kernel) ?_
    refine mj_all_cons 45 rfl (trivial) ?_
    refine mj_all_cons 46 rfl (trivial) ?_
    refine mj_all_cons 47 rfl (show _ = _ from by decide +kernel) ?_
    refine mj_all_cons 48 rfl (trivial) ?_
    refine mj_all_cons 49 rfl (trivial) ?_
    refine mj_all_cons 50 rfl (Or.inl ⟨0, by decide +kernel, rfl, rfl⟩) ?_
    refine mj_all_cons 51 rfl (⟨15, "ListSpeaker$Reader", mjF3, 5, by decide +kernel, rfl, by decide, mw_167, mjw3⟩) ?_
    refine mj_all_cons 52 rfl (trivial) ?_
    refine mj_all_cons 53 rfl (trivial) ?_
    refine mj_all_cons 54 rfl (Or.inl ⟨0, by decide +kernel, rfl, rfl⟩) ?_
    refine mj_all_cons 55 rfl (⟨9, "ListSpeaker$Reader", mjF3, 5, by decide +kernel, rfl, by decide, mw_169, mjw3⟩) ?_
    refine mj_all_cons 56 rfl (trivial) ?_
    refine mj_all_cons 57 rfl (trivial) ?_
    refine mj_all_cons 58 rfl (Or.inl ⟨1, by decide +kernel, rfl, rfl⟩) ?_
    refine mj_all_cons 59 rfl (Or.inl ⟨2, by decide +kernel, rfl, rfl⟩) ?_
    refine mj_all_cons 60 rfl (Or.inl ⟨1, by decide +kernel, rfl, rfl⟩) ?_
    refine mj_all_cons 61 rfl (show _ = _ from by decide +kernel) ?_
    refine mj_all_cons 62 rfl (⟨mjcM13, 95, 3, rfl, by decide, mjcd13, mw_2, Or.inl ⟨1, mjF1, 3, by decide +kernel, rfl, rfl, rfl, mw_582, mw_83, mw_84⟩⟩) ?_
    refine mj_all_cons 63 rfl (trivial) ?_
    refine mj_all_cons 64 rfl (trivial) ?_
    refine mj_all_cons 65 rfl (show _ = _ from by decide +kernel) ?_
    exact trivial
  intro pc o ho
  have := mj_all_get _ 0 h pc o ho
  rw [Nat.zero_add] at this
  exact this
set_option maxRecDepth 100000 in
theorem mjci47 : ∀ (pc : Nat) (o : mj_O), mjco47[pc]? = some o → mj_is mj_kl mjcM47.1.cls mj_WS mj_NWs mjc_Ms mjcM47.2.1 pc o := by
  have h : mj_all (mj_is mj_kl mjcM47.1.cls mj_WS mj_NWs mjc_Ms mjcM47.2.1) 0 mjco47 := by
    unfold mjco47
    refine mj_all_cons 1 rfl (Or.inl ⟨0, by decide +kernel, rfl, rfl⟩) ?_
    refine mj_all_cons 2 rfl (⟨27, "ListSpeaker$Reader", mjF3, 5, by decide +kernel, rfl, by decide, mw_171, mjw3⟩) ?_
    refine mj_all_cons 3 rfl (trivial) ?_
    refine mj_all_cons 4 rfl (trivial) ?_
    refine mj_all_cons 5 rfl (Or.inl ⟨1, by decide +kernel, rfl, rfl⟩) ?_
    refine mj_all_cons 6 rfl (Or.inl ⟨1, by decide +kernel, rfl, rfl⟩) ?_
    refine mj_all_cons 7 rfl (Or.inl ⟨0, by decide +kernel, rfl, rfl⟩) ?_
    refine mj_all_cons 8 rfl (⟨23, "ListSpeaker$Reader", mjF3, 5, by decide +kernel, rfl, by decide, mw_170, mjw3⟩) ?_
    refine mj_all_cons 9 rfl (trivial) ?_
    refine mj_all_cons 10 rfl (trivial) ?_
    refine mj_all_cons 11 rfl (show _ = _ from by decide +kernel) ?_
    refine mj_all_cons 12 rfl (trivial) ?_
    refine mj_all_cons 13 rfl (trivial) ?_
    refine mj_all_cons 14 rfl (Or.inl ⟨0, by decide +kernel, rfl, rfl⟩) ?_
    refine mj_all_cons 15 rfl (⟨9, "ListSpeaker$Reader", mjF3, 5, by decide +kernel, rfl, by decide, mw_169, mjw3⟩) ?_
    refine mj_all_cons 16 rfl (trivial) ?_
    refine mj_all_cons 17 rfl (trivial) ?_
    refine mj_all_cons 18 rfl (Or.inl ⟨1, by decide +kernel, rfl, rfl⟩) ?_
    refine mj_all_cons 19 rfl (show _ = _ from by decide +kernel) ?_
    refine mj_all_cons 20 rfl (⟨mjcM51, 101, 1, rfl, by decide, mjcd51, mw_10, Or.inr (Or.inl ⟨by decide +kernel, rfl, rfl, mw_536, mw_537⟩)⟩) ?_
    refine mj_all_cons 21 rfl (trivial) ?_
    refine mj_all_cons 22 rfl (trivial) ?_
    refine mj_all_cons 23 rfl (show _ = _ from by decide +kernel) ?_
    refine mj_all_cons 24 rfl (trivial) ?_
    refine mj_all_cons 25 rfl (trivial) ?_
    refine mj_all_cons 26 rfl (show _ = _ from by decide +kernel) ?_
    refine mj_all_cons 27 rfl (trivial) ?_
    refine mj_all_cons 28 rfl (trivial) ?_
    refine mj_all_cons 29 rfl (show _ = _ from by decide +kernel) ?_
    refine mj_all_cons 30 rfl (trivial) ?_
    refine mj_all_cons 31 rfl (trivial) ?_
    refine mj_all_cons 32 rfl (Or.inl ⟨1, by decide +kernel, rfl, rfl⟩) ?_
    refine mj_all_cons 33 rfl (show _ = _ from by decide +kernel) ?_
    exact trivial
  intro pc o ho
  have := mj_all_get _ 0 h pc o ho
  rw [Nat.zero_add] at this
  exact this
set_option maxRecDepth 100000 in
theorem mjci48 : ∀ (pc : Nat) (o : mj_O), mjco48[pc]? = some o → mj_is mj_kl mjcM48.1.cls mj_WS mj_NWs mjc_Ms mjcM48.2.1 pc o := by
  have h : mj_all (mj_is mj_kl mjcM48.1.cls mj_WS mj_NWs mjc_Ms mjcM48.2.1) 0 mjco48 := by
    unfold mjco48
    refine mj_all_cons 1 rfl (Or.inl ⟨by decide +kernel, rfl⟩) ?_
    refine mj_all_cons 2 rfl (Or.inl ⟨1, by decide +kernel, rfl, rfl⟩) ?_
    refine mj_all_cons 3 rfl (Or.inl ⟨0, by decide +kernel, rfl, rfl⟩) ?_
    refine mj_all_cons 4 rfl (⟨27, "ListSpeaker$Reader", mjF3, 5, by decide +kernel, rfl, by decide, mw_171, mjw3⟩) ?_
    refine mj_all_cons 5 rfl (trivial) ?_
    refine mj_all_cons 6 rfl (trivial) ?_
    refine mj_all_cons 7 rfl (Or.inl ⟨0, by decide +kernel, rfl, rfl⟩) ?_
    refine mj_all_cons 8 rfl (⟨23, "ListSpeaker$Reader", mjF3, 5, by decide +kernel, rfl, by decide, mw_170, mjw3⟩) ?_
    refine mj_all_cons 9 rfl (trivial) ?_
    refine mj_all_cons 10 rfl (trivial) ?_
    refine mj_all_cons 11 rfl (show _ = _ from by decide +kernel) ?_
    refine mj_all_cons 12 rfl (trivial) ?_
    refine mj_all_cons 13 rfl (trivial) ?_
    refine mj_all_cons 14 rfl (Or.inl ⟨0, by decide +kernel, rfl, rfl⟩) ?_
    refine mj_all_cons 15 rfl (⟨9, "ListSpeaker$Reader", mjF3, 5, by decide +kernel, rfl, by decide, mw_169, mjw3⟩) ?_
    refine mj_all_cons 16 rfl (trivial) ?_
    refine mj_all_cons 17 rfl (trivial) ?_
    refine mj_all_cons 18 rfl (Or.inl ⟨0, by decide +kernel, rfl, rfl⟩) ?_
    refine mj_all_cons 19 rfl (⟨27, "ListSpeaker$Reader", mjF3, 5, by decide +kernel, rfl, by decide, mw_171, mjw3⟩) ?_
    refine mj_all_cons 20 rfl (trivial) ?_
    refine mj_all_cons 21 rfl (trivial) ?_
    refine mj_all_cons 22 rfl (show _ = _ from by decide +kernel) ?_
    refine mj_all_cons 23 rfl (Or.inl ⟨2, by decide +kernel, rfl, rfl⟩) ?_
    refine mj_all_cons 24 rfl (Or.inl ⟨1, by decide +kernel, rfl, rfl⟩) ?_
    refine mj_all_cons 25 rfl (show _ = _ from by decide +kernel) ?_
    refine mj_all_cons 26 rfl (trivial) ?_
    refine mj_all_cons 27 rfl (trivial) ?_
    refine mj_all_cons 28 rfl (Or.inl ⟨2, by decide +kernel, rfl, rfl⟩) ?_
    refine mj_all_cons 29 rfl (Or.inr (Or.inl ⟨by decide +kernel, rfl, by decide⟩)) ?_
    refine mj_all_cons 30 rfl (trivial) ?_
    refine mj_all_cons 31 rfl (show _ = _ from by decide +kernel) ?_
    refine mj_all_cons 32 rfl (trivial) ?_
    refine mj_all_cons 33 rfl (trivial) ?_
    refine mj_all_cons 34 rfl (Or.inl ⟨by decide +kernel, rfl⟩) ?_
    refine mj_all_cons 35 rfl (show _ = _ from by decide +kernel) ?_
    refine mj_all_cons 36 rfl (trivial) ?_
    refine mj_all_cons 37 rfl (trivial) ?_
    refine mj_all_cons 38 rfl (Or.inl ⟨by decide +kernel, rfl⟩) ?_
    refine mj_all_cons 39 rfl (Or.inl ⟨1, by decide +kernel, rfl, rfl⟩) ?_
    refine mj_all_cons 40 rfl (show _ = _ from by decide +kernel) ?_
    refine mj_all_cons 41 rfl (trivial) ?_
    refine mj_all_cons 42 rfl (trivial) ?_
    refine mj_all_cons 43 rfl (Or.inl ⟨2, by decide +kernel, rfl, rfl⟩) ?_
    refine mj_all_cons 44 rfl (Or.inr (Or.inl ⟨by decide +kernel, rfl, by decide⟩)) ?_
    refine mj_all_cons 45 rfl (trivial) ?_
    refine mj_all_cons 46 rfl (show _ = _ from by decide +kernel) ?_
    refine mj_all_cons 47 rfl (trivial) ?_
    refine mj_all_cons 48 rfl (trivial) ?_
    refine mj_all_cons 49 rfl (Or.inl ⟨by decide +kernel, rfl⟩) ?_
    refine mj_all_cons 50 rfl (Or.inl ⟨1, by decide +kernel, rfl, rfl⟩) ?_
    refine mj_all_cons 51 rfl (show _ = _ from by decide +kernel) ?_
    refine mj_all_cons 52 rfl (trivial) ?_
    refine mj_all_cons 53 rfl (trivial) ?_
    refine mj_all_cons 54 rfl (Or.inl ⟨2, by decide +kernel, rfl, rfl⟩) ?_
    refine mj_all_cons 55 rfl (Or.inr (Or.inl ⟨by decide +kernel, rfl, by decide⟩)) ?_
    refine mj_all_cons 56 rfl (trivial) ?_
    refine mj_all_cons 57 rfl (show _ = _ from by decide +kernel) ?_
    refine mj_all_cons 58 rfl (trivial) ?_
    refine mj_all_cons 59 rfl (trivial) ?_
    refine mj_all_cons 60 rfl (Or.inl ⟨2, by decide +kernel, rfl, rfl⟩) ?_
    refine mj_all_cons 61 rfl (Or.inr (Or.inl ⟨by decide +kernel, rfl, by decide⟩)) ?_
    refine mj_all_cons 62 rfl (trivial) ?_
    refine mj_all_cons 63 rfl (show _ = _ from by decide +kernel) ?_
    refine mj_all_cons 64 rfl (trivial) ?_
    refine mj_all_cons 65 rfl (trivial) ?_
    refine mj_all_cons 66 rfl (show _ = _ from by decide +kernel) ?_
    refine mj_all_cons 67 rfl (Or.inl ⟨0, by decide +kernel, rfl, rfl⟩) ?_
    refine mj_all_cons 68 rfl (show _ = _ from by decide +kernel) ?_
    refine mj_all_cons 69 rfl (⟨27, "ListSpeaker$Reader", mjF3, 5, by decide +kernel, rfl, by decide, mw_171, mjw3⟩) ?_
    refine mj_all_cons 70 rfl (trivial) ?_
    refine mj_all_cons 71 rfl (trivial) ?_
    refine mj_all_cons 72 rfl (Or.inl ⟨by decide +kernel, rfl⟩) ?_
    refine mj_all_cons 73 rfl (show _ = _ from by decide +kernel) ?_
    refine mj_all_cons 74 rfl (⟨27, "ListSpeaker$Reader", mjF3, 5, mjt3, by decide +kernel, rfl, by decide, mw_171, mjw3, mjk3, mjn3, rfl, by decide +kernel⟩) ?_
    refine mj_all_cons 75 rfl (trivial) ?_
    refine mj_all_cons 76 rfl (trivial) ?_
    refine mj_all_cons 77 rfl (show _ = _ from by decide +kernel) ?_
    refine mj_all_cons 78 rfl (trivial) ?_
    refine mj_all_cons 79 rfl (trivial) ?_
    refine mj_all_cons 80 rfl (show _ = _ from by decide +kernel) ?_
    exact trivial
  intro pc o ho
  have := mj_all_get _ 0 h pc o ho
  rw [Nat.zero_add] at this
  exact this
set_option maxRecDepth 100000 in
theorem mjci49 : ∀ (pc : Nat) (o : mj_O), mjco49[pc]? = some o → mj_is mj_kl mjcM49.1.cls mj_WS mj_NWs mjc_Ms mjcM49.2.1 pc o := by
  have h : mj_all (mj_is mj_kl mjcM49.1.cls mj_WS mj_NWs mjc_Ms mjcM49.2.1) 0 mjco49 := by
    unfold mjco49
    refine mj_all_cons 1 rfl (Or.inl ⟨0, by decide +kernel, rfl, rfl⟩) ?_
    refine mj_all_cons 2 rfl (⟨27, "ListSpeaker$Reader", mjF3, 5, by decide +kernel, rfl, by decide, mw_171, mjw3⟩) ?_
    refine mj_all_cons 3 rfl (trivial) ?_
    refine mj_all_cons 4 rfl (trivial) ?_
    refine mj_all_cons 5 rfl (Or.inl ⟨0, by decide +kernel, rfl, rfl⟩) ?_
    refine mj_all_cons 6 rfl (⟨23, "ListSpeaker$Reader", mjF3, 5, by decide +kernel, rfl, by decide, mw_170, mjw3⟩) ?_
    refine mj_all_cons 7 rfl (trivial) ?_
    refine mj_all_cons 8 rfl (trivial) ?_
    refine mj_all_cons 9 rfl (show _ = _ from by decide +kernel) ?_
    refine mj_all_cons 10 rfl (trivial) ?_
    refine mj_all_cons 11 rfl (trivial) ?_
    refine mj_all_cons 12 rfl (Or.inl ⟨0, by decide +kernel, rfl, rfl⟩) ?_
    refine mj_all_cons 13 rfl (⟨9, "ListSpeaker$Reader", mjF3, 5, by decide +kernel, rfl, by decide, mw_169, mjw3⟩) ?_
    refine mj_all_cons 14 rfl (trivial) ?_
    refine mj_all_cons 15 rfl (trivial) ?_
    refine mj_all_cons 16 rfl (Or.inl ⟨0, by decide +kernel, rfl, rfl⟩) ?_
    refine mj_all_cons 17 rfl (⟨27, "ListSpeaker$Reader", mjF3, 5, by decide +kernel, rfl, by decide, mw_171, mjw3⟩) ?_
    refine mj_all_cons 18 rfl (trivial) ?_
    refine mj_all_cons 19 rfl (trivial) ?_
    refine mj_all_cons 20 rfl (show _ = _ from by decide +kernel) ?_
    refine mj_all_cons 21 rfl (Or.inl ⟨1, by decide +kernel, rfl, rfl⟩) ?_
    refine mj_all_cons 22 rfl (show _ = _ from by decide +kernel) ?_
    refine mj_all_cons 23 rfl (trivial) ?_
    refine mj_all_cons 24 rfl (trivial) ?_
    refine mj_all_cons 25 rfl (Or.inl ⟨by decide +kernel, rfl⟩) ?_
    refine mj_all_cons 26 rfl (show _ = _ from by decide +kernel) ?_
    refine mj_all_cons 27 rfl (trivial) ?_
    refine mj_all_cons 28 rfl (trivial) ?_
    refine mj_all_cons 29 rfl (Or.inl ⟨by decide +kernel, rfl⟩) ?_
    refine mj_all_cons 30 rfl (show _ = _ from by decide +kernel) ?_
    exact trivial
  intro pc o ho
  have := mj_all_get _ 0 h pc o ho
  rw [Nat.zero_add] at this
  exact this
set_option maxRecDepth 100000 in
theorem mjci50 : ∀ (pc : Nat) (o : mj_O), mjco50[pc]? = some o → mj_is mj_kl mjcM50.1.cls mj_WS mj_NWs mjc_Ms mjcM50.2.1 pc o := by
  have h : mj_all (mj_is mj_kl mjcM50.1.cls mj_WS mj_NWs mjc_Ms mjcM50.2.1) 0 mjco50 := by
    unfold mjco50
    refine mj_all_cons 1 rfl (Or.inl ⟨0, by decide +kernel, rfl, rfl⟩) ?_
    refine mj_all_cons 2 rfl (Or.inr (Or.inl ⟨by decide +kernel, rfl, by decide⟩)) ?_
    refine mj_all_cons 3 rfl (trivial) ?_
    refine mj_all_cons 4 rfl (⟨mjcM49, 37, 1, rfl, by decide, mjcd49, mw_10, Or.inl ⟨3, mjF3, 5, by decide +kernel, rfl, rfl, rfl, mw_519, mw_521, mjsel_6⟩⟩) ?_
    refine mj_all_cons 5 rfl (trivial) ?_
    refine mj_all_cons 6 rfl (trivial) ?_
    refine mj_all_cons 7 rfl (show _ = _ from by decide +kernel) ?_
    refine mj_all_cons 8 rfl (trivial) ?_
    refine mj_all_cons 9 rfl (trivial) ?_
    refine mj_all_cons 10 rfl (Or.inl ⟨0, by decide +kernel, rfl, rfl⟩) ?_
    refine mj_all_cons 11 rfl (⟨mjcM47, 74, 0, rfl, by decide, mjcd47, mw_10, Or.inl ⟨3, mjF3, 5, by decide +kernel, rfl, rfl, rfl, mw_532, mw_534, mjsel_9⟩⟩) ?_
    refine mj_all_cons 12 rfl (trivial) ?_
    refine mj_all_cons 13 rfl (trivial) ?_
    refine mj_all_cons 14 rfl (Or.inl ⟨0, by decide +kernel, rfl, rfl⟩) ?_
    refine mj_all_cons 15 rfl (⟨27, "ListSpeaker$Reader", mjF3, 5, by decide +kernel, rfl, by decide, mw_171, mjw3⟩) ?_
    refine mj_all_cons 16 rfl (trivial) ?_
    refine mj_all_cons 17 rfl (trivial) ?_
    refine mj_all_cons 18 rfl (Or.inl ⟨by decide +kernel, rfl⟩) ?_
    refine mj_all_cons 19 rfl (show _ = _ from by decide +kernel) ?_
    refine mj_all_cons 20 rfl (show _ = _ from by decide +kernel) ?_
    refine mj_all_cons 21 rfl (trivial) ?_
    refine mj_all_cons 22 rfl (trivial) ?_
    refine mj_all_cons 23 rfl (Or.inl ⟨by decide +kernel, rfl⟩) ?_
    refine mj_all_cons 24 rfl (show _ = _ from by decide +kernel) ?_
    refine mj_all_cons 25 rfl (trivial) ?_
    refine mj_all_cons 26 rfl (trivial) ?_
    refine mj_all_cons 27 rfl (Or.inl ⟨by decide +kernel, rfl⟩) ?_
    refine mj_all_cons 28 rfl (show _ = _ from by decide +kernel) ?_
    exact trivial
  intro pc o ho
  have := mj_all_get _ 0 h pc o ho
  rw [Nat.zero_add] at this
  exact this
set_option maxRecDepth 100000 in
theorem mjci51 : ∀ (pc : Nat) (o : mj_O), mjco51[pc]? = some o → mj_is mj_kl mjcM51.1.cls mj_WS mj_NWs mjc_Ms mjcM51.2.1 pc o := by
  have h : mj_all (mj_is mj_kl mjcM51.1.cls mj_WS mj_NWs mjc_Ms mjcM51.2.1) 0 mjco51 := by
    unfold mjco51
    refine mj_all_cons 1 rfl (Or.inl ⟨0, by decide +kernel, rfl, rfl⟩) ?_
    refine mj_all_cons 2 rfl (Or.inr (Or.inl ⟨by decide +kernel, rfl, by decide⟩)) ?_
    refine mj_all_cons 3 rfl (trivial) ?_
    refine mj_all_cons 4 rfl (show _ = _ from by decide +kernel) ?_
    refine mj_all_cons 5 rfl (trivial) ?_
    refine mj_all_cons 6 rfl (trivial) ?_
    refine mj_all_cons 7 rfl (Or.inl ⟨0, by decide +kernel, rfl, rfl⟩) ?_
    refine mj_all_cons 8 rfl (Or.inr (Or.inl ⟨by decide +kernel, rfl, by decide⟩)) ?_
    refine mj_all_cons 9 rfl (trivial) ?_
    refine mj_all_cons 10 rfl (show _ = _ from by decide +kernel) ?_
    refine mj_all_cons 11 rfl (trivial) ?_
    refine mj_all_cons 12 rfl (trivial) ?_
    refine mj_all_cons 13 rfl (Or.inl ⟨0, by decide +kernel, rfl, rfl⟩) ?_
    refine mj_all_cons 14 rfl (Or.inr (Or.inl ⟨by decide +kernel, rfl, by decide⟩)) ?_
    refine mj_all_cons 15 rfl (trivial) ?_
    refine mj_all_cons 16 rfl (show _ = _ from by decide +kernel) ?_
    refine mj_all_cons 17 rfl (trivial) ?_
    refine mj_all_cons 18 rfl (trivial) ?_
    refine mj_all_cons 19 rfl (Or.inl ⟨0, by decide +kernel, rfl, rfl⟩) ?_
    refine mj_all_cons 20 rfl (Or.inr (Or.inl ⟨by decide +kernel, rfl, by decide⟩)) ?_
    refine mj_all_cons 21 rfl (trivial) ?_
    refine mj_all_cons 22 rfl (show _ = _ from by decide +kernel) ?_
    refine mj_all_cons 23 rfl (trivial) ?_
    refine mj_all_cons 24 rfl (trivial) ?_
    refine mj_all_cons 25 rfl (Or.inl ⟨0, by decide +kernel, rfl, rfl⟩) ?_
    refine mj_all_cons 26 rfl (Or.inr (Or.inl ⟨by decide +kernel, rfl, by decide⟩)) ?_
    refine mj_all_cons 27 rfl (trivial) ?_
    refine mj_all_cons 28 rfl (show _ = _ from by decide +kernel) ?_
    refine mj_all_cons 29 rfl (trivial) ?_
    refine mj_all_cons 30 rfl (trivial) ?_
    refine mj_all_cons 31 rfl (Or.inl ⟨0, by decide +kernel, rfl, rfl⟩) ?_
    refine mj_all_cons 32 rfl (Or.inr (Or.inl ⟨by decide +kernel, rfl, by decide⟩)) ?_
    refine mj_all_cons 33 rfl (trivial) ?_
    refine mj_all_cons 34 rfl (show _ = _ from by decide +kernel) ?_
    refine mj_all_cons 35 rfl (trivial) ?_
    refine mj_all_cons 36 rfl (trivial) ?_
    refine mj_all_cons 37 rfl (Or.inl ⟨by decide +kernel, rfl⟩) ?_
    refine mj_all_cons 38 rfl (show _ = _ from by decide +kernel) ?_
    refine mj_all_cons 39 rfl (trivial) ?_
    refine mj_all_cons 40 rfl (trivial) ?_
    refine mj_all_cons 41 rfl (Or.inl ⟨by decide +kernel, rfl⟩) ?_
    refine mj_all_cons 42 rfl (show _ = _ from by decide +kernel) ?_
    exact trivial
  intro pc o ho
  have := mj_all_get _ 0 h pc o ho
  rw [Nat.zero_add] at this
  exact this
set_option maxRecDepth 100000 in
theorem mjci52 : ∀ (pc : Nat) (o : mj_O), mjco52[pc]? = some o → mj_is mj_kl mjcM52.1.cls mj_WS mj_NWs mjc_Ms mjcM52.2.1 pc o := by
  have h : mj_all (mj_is mj_kl mjcM52.1.cls mj_WS mj_NWs mjc_Ms mjcM52.2.1) 0 mjco52 := by
    unfold mjco52
    refine mj_all_cons 1 rfl (Or.inl ⟨0, by decide +kernel, rfl, rfl⟩) ?_
    refine mj_all_cons 2 rfl (Or.inr (Or.inl ⟨by decide +kernel, rfl, by decide⟩)) ?_
    refine mj_all_cons 3 rfl (trivial) ?_
    refine mj_all_cons 4 rfl (show _ = _ from by decide +kernel) ?_
    refine mj_all_cons 5 rfl (trivial) ?_
    refine mj_all_cons 6 rfl (trivial) ?_
    refine mj_all_cons 7 rfl (Or.inl ⟨0, by decide +kernel, rfl, rfl⟩) ?_
    refine mj_all_cons 8 rfl (Or.inr (Or.inl ⟨by decide +kernel, rfl, by decide⟩)) ?_
    refine mj_all_cons 9 rfl (trivial) ?_
    refine mj_all_cons 10 rfl (show _ = _ from by decide +kernel) ?_
    refine mj_all_cons 11 rfl (trivial) ?_
    refine mj_all_cons 12 rfl (trivial) ?_
    refine mj_all_cons 13 rfl (Or.inl ⟨by decide +kernel, rfl⟩) ?_
    refine mj_all_cons 14 rfl (show _ = _ from by decide +kernel) ?_
    refine mj_all_cons 15 rfl (trivial) ?_
    refine mj_all_cons 16 rfl (trivial) ?_
    refine mj_all_cons 17 rfl (Or.inl ⟨by decide +kernel, rfl⟩) ?_
    refine mj_all_cons 18 rfl (show _ = _ from by decide +kernel) ?_
    exact trivial
  intro pc o ho
  have := mj_all_get _ 0 h pc o ho
  rw [Nat.zero_add] at this
  exact this
set_option maxRecDepth 100000 in
theorem mjci53 : ∀ (pc : Nat) (o : mj_O), mjco53[pc]? = some o → mj_is mj_kl mjcM53.1.cls mj_WS mj_NWs mjc_Ms mjcM53.2.1 pc o := by
  have h : mj_all (mj_is mj_kl mjcM53.1.cls mj_WS mj_NWs mjc_Ms mjcM53.2.1) 0 mjco53 := by
    unfold mjco53
    refine mj_all_cons 1 rfl (Or.inl ⟨0, by decide +kernel, rfl, rfl⟩) ?_
    refine mj_all_cons 2 rfl (Or.inr (Or.inl ⟨by decide +kernel, rfl, by decide⟩)) ?_
    refine mj_all_cons 3 rfl (trivial) ?_
    refine mj_all_cons 4 rfl (show _ = _ from by decide +kernel) ?_
    refine mj_all_cons 5 rfl (trivial) ?_
    refine mj_all_cons 6 rfl (trivial) ?_
    refine mj_all_cons 7 rfl (Or.inl ⟨0, by decide +kernel, rfl, rfl⟩) ?_
    refine mj_all_cons 8 rfl (Or.inr (Or.inl ⟨by decide +kernel, rfl, by decide⟩)) ?_
    refine mj_all_cons 9 rfl (trivial) ?_
    refine mj_all_cons 10 rfl (show _ = _ from by decide +kernel) ?_
    refine mj_all_cons 11 rfl (trivial) ?_
    refine mj_all_cons 12 rfl (trivial) ?_
    refine mj_all_cons 13 rfl (Or.inl ⟨0, by decide +kernel, rfl, rfl⟩) ?_
    refine mj_all_cons 14 rfl (Or.inr (Or.inl ⟨by decide +kernel, rfl, by decide⟩)) ?_
    refine mj_all_cons 15 rfl (trivial) ?_
    refine mj_all_cons 16 rfl (show _ = _ from by decide +kernel) ?_
    refine mj_all_cons 17 rfl (trivial) ?_
    refine mj_all_cons 18 rfl (trivial) ?_
    refine mj_all_cons 19 rfl (Or.inl ⟨0, by decide +kernel, rfl, rfl⟩) ?_
    refine mj_all_cons 20 rfl (Or.inr (Or.inl ⟨by decide +kernel, rfl, by decide⟩)) ?_
    refine mj_all_cons 21 rfl (trivial) ?_
    refine mj_all_cons 22 rfl (show _ = _ from by decide +kernel) ?_
    refine mj_all_cons 23 rfl (trivial) ?_
    refine mj_all_cons 24 rfl (trivial) ?_
    refine mj_all_cons 25 rfl (Or.inl ⟨0, by decide +kernel, rfl, rfl⟩) ?_
    refine mj_all_cons 26 rfl (Or.inr (Or.inl ⟨by decide +kernel, rfl, by decide⟩)) ?_
    refine mj_all_cons 27 rfl (trivial) ?_
    refine mj_all_cons 28 rfl (show _ = _ from by decide +kernel) ?_
    refine mj_all_cons 29 rfl (trivial) ?_
    refine mj_all_cons 30 rfl (trivial) ?_
    refine mj_all_cons 31 rfl (Or.inl ⟨0, by decide +kernel, rfl, rfl⟩) ?_
    refine mj_all_cons 32 rfl (Or.inr (Or.inl ⟨by decide +kernel, rfl, by decide⟩)) ?_
    refine mj_all_cons 33 rfl (trivial) ?_
    refine mj_all_cons 34 rfl (show _ = _ from by decide +kernel) ?_
    refine mj_all_cons 35 rfl (trivial) ?_
    refine mj_all_cons 36 rfl (trivial) ?_
    refine mj_all_cons 37 rfl (Or.inl ⟨0, by decide +kernel, rfl, rfl⟩) ?_
    refine mj_all_cons 38 rfl (Or.inr (Or.inl ⟨by decide +kernel, rfl, by decide⟩)) ?_
    refine mj_all_cons 39 rfl (trivial) ?_
    refine mj_all_cons 40 rfl (show _ = _ from by decide +kernel) ?_
    refine mj_all_cons 41 rfl (trivial) ?_
    refine mj_all_cons 42 rfl (trivial) ?_
    refine mj_all_cons 43 rfl (Or.inl ⟨0, by decide +kernel, rfl, rfl⟩) ?_
    refine mj_all_cons 44 rfl (Or.inr (Or.inl ⟨by decide +kernel, rfl, by decide⟩)) ?_
    refine mj_all_cons 45 rfl (trivial) ?_
    refine mj_all_cons 46 rfl (show _ = _ from by decide +kernel) ?_
    refine mj_all_cons 47 rfl (trivial) ?_
    refine mj_all_cons 48 rfl (trivial) ?_
    refine mj_all_cons 49 rfl (Or.inl ⟨by decide +kernel, rfl⟩) ?_
    refine mj_all_cons 50 rfl (show _ = _ from by decide +kernel) ?_
    refine mj_all_cons 51 rfl (trivial) ?_
    refine mj_all_cons 52 rfl (trivial) ?_
    refine mj_all_cons 53 rfl (Or.inl ⟨by decide +kernel, rfl⟩) ?_
    refine mj_all_cons 54 rfl (show _ = _ from by decide +kernel) ?_
    exact trivial
  intro pc o ho
  have := mj_all_get _ 0 h pc o ho
  rw [Nat.zero_add] at this
  exact this
set_option maxRecDepth 100000 in
theorem mjci54 : ∀ (pc : Nat) (o : mj_O), mjco54[pc]? = some o → mj_is mj_kl mjcM54.1.cls mj_WS mj_NWs mjc_Ms mjcM54.2.1 pc o := by
  have h : mj_all (mj_is mj_kl mjcM54.1.cls mj_WS mj_NWs mjc_Ms mjcM54.2.1) 0 mjco54 := by
    unfold mjco54
    refine mj_all_cons 1 rfl (Or.inl ⟨0, by decide +kernel, rfl, rfl⟩) ?_
    refine mj_all_cons 2 rfl (⟨21, "ListSpeaker$Code", mjF4, 4, by decide +kernel, rfl, by decide, mw_192, mjw4⟩) ?_
    refine mj_all_cons 3 rfl (trivial) ?_
    refine mj_all_cons 4 rfl (trivial) ?_
    refine mj_all_cons 5 rfl (show _ = _ from by decide +kernel) ?_
    exact trivial
  intro pc o ho
  have := mj_all_get _ 0 h pc o ho
  rw [Nat.zero_add] at this
  exact this
set_option maxRecDepth 100000 in
theorem mjci55 : ∀ (pc : Nat) (o : mj_O), mjco55[pc]? = some o → mj_is mj_kl mjcM55.1.cls mj_WS mj_NWs mjc_Ms mjcM55.2.1 pc o := by
  have h : mj_all (mj_is mj_kl mjcM55.1.cls mj_WS mj_NWs mjc_Ms mjcM55.2.1) 0 mjco55 := by
    unfold mjco55
    refine mj_all_cons 1 rfl (Or.inl ⟨1, by decide +kernel, rfl, rfl⟩) ?_
    refine mj_all_cons 2 rfl (show _ = _ from by decide +kernel) ?_
    refine mj_all_cons 3 rfl (trivial) ?_
    refine mj_all_cons 4 rfl (trivial) ?_
    refine mj_all_cons 5 rfl (Or.inl ⟨1, by decide +kernel, rfl, rfl⟩) ?_
    refine mj_all_cons 6 rfl (Or.inl ⟨0, by decide +kernel, rfl, rfl⟩) ?_
    refine mj_all_cons 7 rfl (⟨21, "ListSpeaker$Code", mjF4, 4, by decide +kernel, rfl, by decide, mw_192, mjw4⟩) ?_
    refine mj_all_cons 8 rfl (trivial) ?_
    refine mj_all_cons 9 rfl (trivial) ?_
    refine mj_all_cons 10 rfl (show _ = _ from by decide +kernel) ?_
    refine mj_all_cons 11 rfl (trivial) ?_
    refine mj_all_cons 12 rfl (trivial) ?_
    refine mj_all_cons 13 rfl (Or.inl ⟨0, by decide +kernel, rfl, rfl⟩) ?_
    refine mj_all_cons 14 rfl (Or.inl ⟨1, by decide +kernel, rfl, rfl⟩) ?_
    refine mj_all_cons 15 rfl (⟨21, "ListSpeaker$Code", mjF4, 4, mjt4, by decide +kernel, rfl, by decide, mw_192, mjw4, mjk4, mjn4, rfl, by decide +kernel⟩) ?_
    refine mj_all_cons 16 rfl (trivial) ?_
    refine mj_all_cons 17 rfl (trivial) ?_
    refine mj_all_cons 18 rfl (show _ = _ from by decide +kernel) ?_
    exact trivial
  intro pc o ho
  have := mj_all_get _ 0 h pc o ho
  rw [Nat.zero_add] at this
  exact this
set_option maxRecDepth 100000 in
theorem mjci56 : ∀ (pc : Nat) (o : mj_O), mjco56[pc]? = some o → mj_is mj_kl mjcM56.1.cls mj_WS mj_NWs mjc_Ms mjcM56.2.1 pc o := by
  have h : mj_all (mj_is mj_kl mjcM56.1.cls mj_WS mj_NWs mjc_Ms mjcM56.2.1) 0 mjco56 := by
    unfold mjco56
    refine mj_all_cons 1 rfl (Or.inl ⟨1, by decide +kernel, rfl, rfl⟩) ?_
    refine mj_all_cons 2 rfl (show _ = _ from by decide +kernel) ?_
    refine mj_all_cons 3 rfl (trivial) ?_
    refine mj_all_cons 4 rfl (trivial) ?_
    refine mj_all_cons 5 rfl (Or.inl ⟨1, by decide +kernel, rfl, rfl⟩) ?_
    refine mj_all_cons 6 rfl (Or.inl ⟨0, by decide +kernel, rfl, rfl⟩) ?_
    refine mj_all_cons 7 rfl (⟨21, "ListSpeaker$Code", mjF4, 4, by decide +kernel, rfl, by decide, mw_192, mjw4⟩) ?_
    refine mj_all_cons 8 rfl (trivial) ?_
    refine mj_all_cons 9 rfl (trivial) ?_
    refine mj_all_cons 10 rfl (show _ = _ from by decide +kernel) ?_
    refine mj_all_cons 11 rfl (trivial) ?_
    refine mj_all_cons 12 rfl (trivial) ?_
    refine mj_all_cons 13 rfl (Or.inl ⟨0, by decide +kernel, rfl, rfl⟩) ?_
    refine mj_all_cons 14 rfl (⟨9, "ListSpeaker$Code", mjF4, 4, by decide +kernel, rfl, by decide, mw_189, mjw4⟩) ?_
    refine mj_all_cons 15 rfl (trivial) ?_
    refine mj_all_cons 16 rfl (trivial) ?_
    refine mj_all_cons 17 rfl (Or.inl ⟨1, by decide +kernel, rfl, rfl⟩) ?_
    refine mj_all_cons 18 rfl (show _ = _ from by decide +kernel) ?_
    refine mj_all_cons 19 rfl (show _ = _ from by decide +kernel) ?_
    refine mj_all_cons 20 rfl (trivial) ?_
    refine mj_all_cons 21 rfl (trivial) ?_
    refine mj_all_cons 22 rfl (Or.inl ⟨by decide +kernel, rfl⟩) ?_
    refine mj_all_cons 23 rfl (show _ = _ from by decide +kernel) ?_
    exact trivial
  intro pc o ho
  have := mj_all_get _ 0 h pc o ho
  rw [Nat.zero_add] at this
  exact this
set_option maxRecDepth 100000 in
theorem mjci57 : ∀ (pc : Nat) (o : mj_O), mjco57[pc]? = some o → mj_is mj_kl mjcM57.1.cls mj_WS mj_NWs mjc_Ms mjcM57.2.1 pc o := by
  have h : mj_all (mj_is mj_kl mjcM57.1.cls mj_WS mj_NWs mjc_Ms mjcM57.2.1) 0 mjco57 := by
    unfold mjco57
    refine mj_all_cons 1 rfl (Or.inl ⟨1, by decide +kernel, rfl, rfl⟩) ?_
    refine mj_all_cons 2 rfl (show _ = _ from by decide +kernel) ?_
    refine mj_all_cons 3 rfl (trivial) ?_
    refine mj_all_cons 4 rfl (trivial) ?_
    refine mj_all_cons 5 rfl (Or.inl ⟨1, by decide +kernel, rfl, rfl⟩) ?_
    refine mj_all_cons 6 rfl (Or.inl ⟨0, by decide +kernel, rfl, rfl⟩) ?_
    refine mj_all_cons 7 rfl (⟨21, "ListSpeaker$Code", mjF4, 4, by decide +kernel, rfl, by decide, mw_192, mjw4⟩) ?_
    refine mj_all_cons 8 rfl (trivial) ?_
    refine mj_all_cons 9 rfl (trivial) ?_
    refine mj_all_cons 10 rfl (show _ = _ from by decide +kernel) ?_
    refine mj_all_cons 11 rfl (trivial) ?_
    refine mj_all_cons 12 rfl (trivial) ?_
    refine mj_all_cons 13 rfl (Or.inl ⟨0, by decide +kernel, rfl, rfl⟩) ?_
    refine mj_all_cons 14 rfl (⟨15, "ListSpeaker$Code", mjF4, 4, by decide +kernel, rfl, by decide, mw_190, mjw4⟩) ?_
    refine mj_all_cons 15 rfl (trivial) ?_
    refine mj_all_cons 16 rfl (trivial) ?_
    refine mj_all_cons 17 rfl (Or.inl ⟨1, by decide +kernel, rfl, rfl⟩) ?_
    refine mj_all_cons 18 rfl (show _ = _ from by decide +kernel) ?_
    refine mj_all_cons 19 rfl (show _ = _ from by decide +kernel) ?_
    refine mj_all_cons 20 rfl (trivial) ?_
    refine mj_all_cons 21 rfl (trivial) ?_
    refine mj_all_cons 22 rfl (Or.inl ⟨by decide +kernel, rfl⟩) ?_
    refine mj_all_cons 23 rfl (show _ = _ from by decide +kernel) ?_
    exact trivial
  intro pc o ho
  have := mj_all_get _ 0 h pc o ho
  rw [Nat.zero_add] at this
  exact this
set_option maxRecDepth 100000 in
theorem mjci58 : ∀ (pc : Nat) (o : mj_O), mjco58[pc]? = some o → mj_is mj_kl mjcM58.1.cls mj_WS mj_NWs mjc_Ms mjcM58.2.1 pc o := by
  have h : mj_all (mj_is mj_kl mjcM58.1.cls mj_WS mj_NWs mjc_Ms mjcM58.2.1) 0 mjco58 := by
    unfold mjco58
    refine mj_all_cons 1 rfl (Or.inl ⟨1, by decide +kernel, rfl, rfl⟩) ?_
    refine mj_all_cons 2 rfl (show _ = _ from by decide +kernel) ?_
    refine mj_all_cons 3 rfl (trivial) ?_
    refine mj_all_cons 4 rfl (trivial) ?_
    refine mj_all_cons 5 rfl (Or.inl ⟨1, by decide +kernel, rfl, rfl⟩) ?_
    refine mj_all_cons 6 rfl (Or.inl ⟨0, by decide +kernel, rfl, rfl⟩) ?_
    refine mj_all_cons 7 rfl (⟨21, "ListSpeaker$Code", mjF4, 4, by decide +kernel, rfl, by decide, mw_192, mjw4⟩) ?_
    refine mj_all_cons 8 rfl (trivial) ?_
    refine mj_all_cons 9 rfl (trivial) ?_
    refine mj_all_cons 10 rfl (show _ = _ from by decide +kernel) ?_
    refine mj_all_cons 11 rfl (trivial) ?_
    refine mj_all_cons 12 rfl (trivial) ?_
    refine mj_all_cons 13 rfl (Or.inl ⟨0, by decide +kernel, rfl, rfl⟩) ?_
    refine mj_all_cons 14 rfl (⟨18, "ListSpeaker$Code", mjF4, 4, by decide +kernel, rfl, by decide, mw_191, mjw4⟩) ?_
    refine mj_all_cons 15 rfl (trivial) ?_
    refine mj_all_cons 16 rfl (trivial) ?_
    refine mj_all_cons 17 rfl (Or.inl ⟨1, by decide +kernel, rfl, rfl⟩) ?_
    refine mj_all_cons 18 rfl (show _ = _ from by decide +kernel) ?_
    refine mj_all_cons 19 rfl (show _ = _ from by decide +kernel) ?_
    refine mj_all_cons 20 rfl (trivial) ?_
    refine mj_all_cons 21 rfl (trivial) ?_
    refine mj_all_cons 22 rfl (Or.inl ⟨by decide +kernel, rfl⟩) ?_
    refine mj_all_cons 23 rfl (show _ = _ from by decide +kernel) ?_
    exact trivial
  intro pc o ho
  have := mj_all_get _ 0 h pc o ho
  rw [Nat.zero_add] at this
  exact this
set_option maxRecDepth 100000 in
theorem mjci59 : ∀ (pc : Nat) (o : mj_O), mjco59[pc]? = some o → mj_is mj_kl mjcM59.1.cls mj_WS mj_NWs mjc_Ms mjcM59.2.1 pc o := by
  have h : mj_all (mj_is mj_kl mjcM59.1.cls mj_WS mj_NWs mjc_Ms mjcM59.2.1) 0 mjco59 := by
    unfold mjco59
    refine mj_all_cons 1 rfl (Or.inl ⟨0, by decide +kernel, rfl, rfl⟩) ?_
    refine mj_all_cons 2 rfl (Or.inl ⟨1, by decide +kernel, rfl, rfl⟩) ?_
    refine mj_all_cons 3 rfl (Or.inl ⟨2, by decide +kernel, rfl, rfl⟩) ?_
    refine mj_all_cons 4 rfl (Or.inl ⟨by decide +kernel, rfl⟩) ?_
    refine mj_all_cons 5 rfl (⟨mjcM60, 25, 3, rfl, by decide, mjcd60, mw_11, Or.inl ⟨4, mjF4, 4, by decide +kernel, rfl, rfl, rfl, mw_648, mw_649, mw_650⟩⟩) ?_
    refine mj_all_cons 6 rfl (trivial) ?_
    refine mj_all_cons 7 rfl (trivial) ?_
    refine mj_all_cons 8 rfl (show _ = _ from by decide +kernel) ?_
    exact trivial
  intro pc o ho
  have := mj_all_get _ 0 h pc o ho
  rw [Nat.zero_add] at this
  exact this
set_option maxRecDepth 100000 in
theorem mjci60 : ∀ (pc : Nat) (o : mj_O), mjco60[pc]? = some o → mj_is mj_kl mjcM60.1.cls mj_WS mj_NWs mjc_Ms mjcM60.2.1 pc o := by
  have h : mj_all (mj_is mj_kl mjcM60.1.cls mj_WS mj_NWs mjc_Ms mjcM60.2.1) 0 mjco60 := by
    unfold mjco60
    refine mj_all_cons 1 rfl (Or.inl ⟨0, by decide +kernel, rfl, rfl⟩) ?_
    refine mj_all_cons 2 rfl (⟨21, "ListSpeaker$Code", mjF4, 4, by decide +kernel, rfl, by decide, mw_192, mjw4⟩) ?_
    refine mj_all_cons 3 rfl (trivial) ?_
    refine mj_all_cons 4 rfl (trivial) ?_
    refine mj_all_cons 5 rfl (Or.inr (Or.inr (Or.inl ⟨by decide +kernel, rfl, by decide⟩))) ?_
    refine mj_all_cons 6 rfl (trivial) ?_
    refine mj_all_cons 7 rfl (trivial) ?_
    refine mj_all_cons 8 rfl (show _ = _ from by decide +kernel) ?_
    refine mj_all_cons 9 rfl (trivial) ?_
    refine mj_all_cons 10 rfl (trivial) ?_
    refine mj_all_cons 11 rfl (Or.inl ⟨by decide +kernel, rfl⟩) ?_
    refine mj_all_cons 12 rfl (show _ = _ from by decide +kernel) ?_
    refine mj_all_cons 13 rfl (Or.inl ⟨0, by decide +kernel, rfl, rfl⟩) ?_
    refine mj_all_cons 14 rfl (⟨9, "ListSpeaker$Code", mjF4, 4, by decide +kernel, rfl, by decide, mw_189, mjw4⟩) ?_
    refine mj_all_cons 15 rfl (trivial) ?_
    refine mj_all_cons 16 rfl (trivial) ?_
    refine mj_all_cons 17 rfl (Or.inl ⟨0, by decide +kernel, rfl, rfl⟩) ?_
    refine mj_all_cons 18 rfl (⟨21, "ListSpeaker$Code", mjF4, 4, by decide +kernel, rfl, by decide, mw_192, mjw4⟩) ?_
    refine mj_all_cons 19 rfl (trivial) ?_
    refine mj_all_cons 20 rfl (trivial) ?_
    refine mj_all_cons 21 rfl (Or.inl ⟨1, by decide +kernel, rfl, rfl⟩) ?_
    refine mj_all_cons 22 rfl (show _ = _ from by decide +kernel) ?_
    refine mj_all_cons 23 rfl (Or.inl ⟨0, by decide +kernel, rfl, rfl⟩) ?_
    refine mj_all_cons 24 rfl (⟨15, "ListSpeaker$Code", mjF4, 4, by decide +kernel, rfl, by decide, mw_190, mjw4⟩) ?_
    refine mj_all_cons 25 rfl (trivial) ?_
    refine mj_all_cons 26 rfl (trivial) ?_
    refine mj_all_cons 27 rfl (Or.inl ⟨0, by decide +kernel, rfl, rfl⟩) ?_
    refine mj_all_cons 28 rfl (⟨21, "ListSpeaker$Code", mjF4, 4, by decide +kernel, rfl, by decide, mw_192, mjw4⟩) ?_
    refine mj_all_cons 29 rfl (trivial) ?_
    refine mj_all_cons 30 rfl (trivial) ?_
    refine mj_all_cons 31 rfl (Or.inl ⟨2, by decide +kernel, rfl, rfl⟩) ?_
    refine mj_all_cons 32 rfl (show _ = _ from by decide +kernel) ?_
    refine mj_all_cons 33 rfl (Or.inl ⟨0, by decide +kernel, rfl, rfl⟩) ?_
    refine mj_all_cons 34 rfl (⟨18, "ListSpeaker$Code", mjF4, 4, by decide +kernel, rfl, by decide, mw_191, mjw4⟩) ?_
    refine mj_all_cons 35 rfl (trivial) ?_
    refine mj_all_cons 36 rfl (trivial) ?_
    refine mj_all_cons 37 rfl (Or.inl ⟨0, by decide +kernel, rfl, rfl⟩) ?_
    refine mj_all_cons 38 rfl (⟨21, "ListSpeaker$Code", mjF4, 4, by decide +kernel, rfl, by decide, mw_192, mjw4⟩) ?_
    refine mj_all_cons 39 rfl (trivial) ?_
    refine mj_all_cons 40 rfl (trivial) ?_
    refine mj_all_cons 41 rfl (Or.inl ⟨3, by decide +kernel, rfl, rfl⟩) ?_
    refine mj_all_cons 42 rfl (show _ = _ from by decide +kernel) ?_
    refine mj_all_cons 43 rfl (Or.inl ⟨0, by decide +kernel, rfl, rfl⟩) ?_
    refine mj_all_cons 44 rfl (show _ = _ from by decide +kernel) ?_
    refine mj_all_cons 45 rfl (⟨21, "ListSpeaker$Code", mjF4, 4, by decide +kernel, rfl, by decide, mw_192, mjw4⟩) ?_
    refine mj_all_cons 46 rfl (trivial) ?_
    refine mj_all_cons 47 rfl (trivial) ?_
    refine mj_all_cons 48 rfl (Or.inl ⟨by decide +kernel, rfl⟩) ?_
    refine mj_all_cons 49 rfl (show _ = _ from by decide +kernel) ?_
    refine mj_all_cons 50 rfl (⟨21, "ListSpeaker$Code", mjF4, 4, mjt4, by decide +kernel, rfl, by decide, mw_192, mjw4, mjk4, mjn4, rfl, by decide +kernel⟩) ?_
    refine mj_all_cons 51 rfl (trivial) ?_
    refine mj_all_cons 52 rfl (trivial) ?_
    refine mj_all_cons 53 rfl (Or.inl ⟨0, by decide +kernel, rfl, rfl⟩) ?_
    refine mj_all_cons 54 rfl (⟨21, "ListSpeaker$Code", mjF4, 4, by decide +kernel, rfl, by decide, mw_192, mjw4⟩) ?_
    refine mj_all_cons 55 rfl (trivial) ?_
    refine mj_all_cons 56 rfl (trivial) ?_
    refine mj_all_cons 57 rfl (Or.inl ⟨by decide +kernel, rfl⟩) ?_
    refine mj_all_cons 58 rfl (show _ = _ from by decide +kernel) ?_
    refine mj_all_cons 59 rfl (show _ = _ from by decide +kernel) ?_
    exact trivial
  intro pc o ho
  have := mj_all_get _ 0 h pc o ho
  rw [Nat.zero_add] at this
  exact this
