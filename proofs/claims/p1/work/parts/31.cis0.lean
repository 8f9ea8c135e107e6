set_option maxRecDepth 100000 in
theorem mjci0 : ∀ (pc : Nat) (o : mj_O), mjco0[pc]? = some o → mj_is mj_kl mjcM0.1.cls mj_WS mj_NWs mjc_Ms mjcM0.2.1 pc o := by
  have h : mj_all (mj_is mj_kl mjcM0.1.cls mj_WS mj_NWs mjc_Ms mjcM0.2.1) 0 mjco0 := by
    unfold mjco0
    refine mj_all_cons 1 rfl (Or.inl ⟨0, by decide +kernel, rfl, rfl⟩) ?_
    refine mj_all_cons 2 rfl (⟨39, "ListSpeaker", mjF0, 9, by decide +kernel, rfl, by decide, mw_328, mjw0⟩) ?_
    refine mj_all_cons 3 rfl (trivial) ?_
    refine mj_all_cons 4 rfl (trivial) ?_
    refine mj_all_cons 5 rfl (Or.inl ⟨1, by decide +kernel, rfl, rfl⟩) ?_
    refine mj_all_cons 6 rfl (⟨mjcM34, 84, 1, rfl, by decide, mjcd34, mw_10, Or.inl ⟨3, mjF3, 5, by decide +kernel, rfl, rfl, rfl, mw_358, mw_359, mw_360⟩⟩) ?_
    refine mj_all_cons 7 rfl (trivial) ?_
    refine mj_all_cons 8 rfl (trivial) ?_
    refine mj_all_cons 9 rfl (show _ = _ from by decide +kernel) ?_
    exact trivial
  intro pc o ho
  have := mj_all_get _ 0 h pc o ho
  rw [Nat.zero_add] at this
  exact this
set_option maxRecDepth 100000 in
theorem mjci1 : ∀ (pc : Nat) (o : mj_O), mjco1[pc]? = some o → mj_is mj_kl mjcM1.1.cls mj_WS mj_NWs mjc_Ms mjcM1.2.1 pc o := by
  have h : mj_all (mj_is mj_kl mjcM1.1.cls mj_WS mj_NWs mjc_Ms mjcM1.2.1) 0 mjco1 := by
    unfold mjco1
    refine mj_all_cons 1 rfl (Or.inl ⟨0, by decide +kernel, rfl, rfl⟩) ?_
    refine mj_all_cons 2 rfl (⟨39, "ListSpeaker", mjF0, 9, by decide +kernel, rfl, by decide, mw_328, mjw0⟩) ?_
    refine mj_all_cons 3 rfl (trivial) ?_
    refine mj_all_cons 4 rfl (trivial) ?_
    refine mj_all_cons 5 rfl (⟨mjcM35, 88, 0, rfl, by decide, mjcd35, mw_10, Or.inl ⟨3, mjF3, 5, by decide +kernel, rfl, rfl, rfl, mw_366, mw_367, mw_368⟩⟩) ?_
    refine mj_all_cons 6 rfl (trivial) ?_
    refine mj_all_cons 7 rfl (trivial) ?_
    refine mj_all_cons 8 rfl (show _ = _ from by decide +kernel) ?_
    exact trivial
  intro pc o ho
  have := mj_all_get _ 0 h pc o ho
  rw [Nat.zero_add] at this
  exact this
set_option maxRecDepth 100000 in
theorem mjci2 : ∀ (pc : Nat) (o : mj_O), mjco2[pc]? = some o → mj_is mj_kl mjcM2.1.cls mj_WS mj_NWs mjc_Ms mjcM2.2.1 pc o := by
  have h : mj_all (mj_is mj_kl mjcM2.1.cls mj_WS mj_NWs mjc_Ms mjcM2.2.1) 0 mjco2 := by
    unfold mjco2
    refine mj_all_cons 1 rfl (Or.inl ⟨1, by decide +kernel, rfl, rfl⟩) ?_
    refine mj_all_cons 2 rfl (show _ = _ from by decide +kernel) ?_
    refine mj_all_cons 3 rfl (trivial) ?_
    refine mj_all_cons 4 rfl (trivial) ?_
    refine mj_all_cons 5 rfl (Or.inl ⟨1, by decide +kernel, rfl, rfl⟩) ?_
    refine mj_all_cons 6 rfl (Or.inr (Or.inr (Or.inl ⟨by decide +kernel, rfl, by decide⟩))) ?_
    refine mj_all_cons 7 rfl (trivial) ?_
    refine mj_all_cons 8 rfl (trivial) ?_
    refine mj_all_cons 9 rfl (show _ = _ from by decide +kernel) ?_
    refine mj_all_cons 10 rfl (trivial) ?_
    refine mj_all_cons 11 rfl (trivial) ?_
    refine mj_all_cons 12 rfl (trivial) ?_
    refine mj_all_cons 13 rfl (trivial) ?_
    refine mj_all_cons 14 rfl (trivial) ?_
    refine mj_all_cons 15 rfl (show _ = _ from by decide +kernel) ?_
    refine mj_all_cons 16 rfl (trivial) ?_
    refine mj_all_cons 17 rfl (trivial) ?_
    refine mj_all_cons 18 rfl (trivial) ?_
    refine mj_all_cons 19 rfl (trivial) ?_
    refine mj_all_cons 20 rfl (trivial) ?_
    refine mj_all_cons 21 rfl (trivial) ?_
    refine mj_all_cons 22 rfl (Or.inl ⟨0, by decide +kernel, rfl, rfl⟩) ?_
    refine mj_all_cons 23 rfl (⟨80, "ListSpeaker", mjF0, 9, by decide +kernel, rfl, by decide, mw_333, mjw0⟩) ?_
    refine mj_all_cons 24 rfl (trivial) ?_
    refine mj_all_cons 25 rfl (trivial) ?_
    refine mj_all_cons 26 rfl (⟨mjcM113, 99, 0, rfl, by decide, mjcd113, mw_15, Or.inl ⟨8, mjF8, 6, by decide +kernel, rfl, rfl, rfl, mw_483, mw_484, mw_485⟩⟩) ?_
    refine mj_all_cons 27 rfl (trivial) ?_
    refine mj_all_cons 28 rfl (trivial) ?_
    refine mj_all_cons 29 rfl (Or.inl ⟨0, by decide +kernel, rfl, rfl⟩) ?_
    refine mj_all_cons 30 rfl (⟨73, "ListSpeaker", mjF0, 9, by decide +kernel, rfl, by decide, mw_332, mjw0⟩) ?_
    refine mj_all_cons 31 rfl (trivial) ?_
    refine mj_all_cons 32 rfl (trivial) ?_
    refine mj_all_cons 33 rfl (Or.inl ⟨1, by decide +kernel, rfl, rfl⟩) ?_
    refine mj_all_cons 34 rfl (⟨mjcM89, 102, 1, rfl, by decide, mjcd89, mw_14, Or.inl ⟨7, mjF7, 14, by decide +kernel, rfl, rfl, rfl, mw_487, mw_488, mw_489⟩⟩) ?_
    refine mj_all_cons 35 rfl (trivial) ?_
    refine mj_all_cons 36 rfl (trivial) ?_
    refine mj_all_cons 37 rfl (Or.inl ⟨0, by decide +kernel, rfl, rfl⟩) ?_
    refine mj_all_cons 38 rfl (⟨39, "ListSpeaker", mjF0, 9, by decide +kernel, rfl, by decide, mw_328, mjw0⟩) ?_
    refine mj_all_cons 39 rfl (trivial) ?_
    refine mj_all_cons 40 rfl (trivial) ?_
    refine mj_all_cons 41 rfl (⟨mjcM36, 104, 0, rfl, by decide, mjcd36, mw_10, Or.inl ⟨3, mjF3, 5, by decide +kernel, rfl, rfl, rfl, mw_491, mw_492, mw_493⟩⟩) ?_
    refine mj_all_cons 42 rfl (trivial) ?_
    refine mj_all_cons 43 rfl (trivial) ?_
    refine mj_all_cons 44 rfl (Or.inl ⟨0, by decide +kernel, rfl, rfl⟩) ?_
    refine mj_all_cons 45 rfl (Or.inl ⟨by decide +kernel, rfl⟩) ?_
    refine mj_all_cons 46 rfl (⟨105, "ListSpeaker", mjF0, 9, mjt0, by decide +kernel, rfl, by decide, mw_334, mjw0, mjk0, mjn0, rfl, by decide +kernel⟩) ?_
    refine mj_all_cons 47 rfl (trivial) ?_
    refine mj_all_cons 48 rfl (trivial) ?_
    refine mj_all_cons 49 rfl (Or.inl ⟨0, by decide +kernel, rfl, rfl⟩) ?_
    refine mj_all_cons 50 rfl (⟨mjcM5, 109, 0, rfl, by decide, mjcd5, mw_1, Or.inl ⟨0, mjF0, 9, by decide +kernel, rfl, rfl, rfl, mw_495, mw_497, mjsel_3⟩⟩) ?_
    refine mj_all_cons 51 rfl (trivial) ?_
    refine mj_all_cons 52 rfl (trivial) ?_
    refine mj_all_cons 53 rfl (Or.inl ⟨2, by decide +kernel, rfl, rfl⟩) ?_
    refine mj_all_cons 54 rfl (Or.inl ⟨0, by decide +kernel, rfl, rfl⟩) ?_
    refine mj_all_cons 55 rfl (⟨39, "ListSpeaker", mjF0, 9, by decide +kernel, rfl, by decide, mw_328, mjw0⟩) ?_
    refine mj_all_cons 56 rfl (trivial) ?_
    refine mj_all_cons 57 rfl (trivial) ?_
    refine mj_all_cons 58 rfl (⟨mjcM35, 88, 0, rfl, by decide, mjcd35, mw_10, Or.inl ⟨3, mjF3, 5, by decide +kernel, rfl, rfl, rfl, mw_366, mw_367, mw_368⟩⟩) ?_
    refine mj_all_cons 59 rfl (trivial) ?_
    refine mj_all_cons 60 rfl (trivial) ?_
    refine mj_all_cons 61 rfl (show _ = _ from by decide +kernel) ?_
    refine mj_all_cons 62 rfl (Or.inl ⟨2, by decide +kernel, rfl, rfl⟩) ?_
    refine mj_all_cons 63 rfl (show _ = _ from by decide +kernel) ?_
    refine mj_all_cons 64 rfl (trivial) ?_
    refine mj_all_cons 65 rfl (trivial) ?_
    refine mj_all_cons 66 rfl (Or.inl ⟨0, by decide +kernel, rfl, rfl⟩) ?_
    refine mj_all_cons 67 rfl (⟨80, "ListSpeaker", mjF0, 9, by decide +kernel, rfl, by decide, mw_333, mjw0⟩) ?_
    refine mj_all_cons 68 rfl (trivial) ?_
    refine mj_all_cons 69 rfl (trivial) ?_
    refine mj_all_cons 70 rfl (Or.inl ⟨2, by decide +kernel, rfl, rfl⟩) ?_
    refine mj_all_cons 71 rfl (⟨mjcM114, 112, 1, rfl, by decide, mjcd114, mw_15, Or.inl ⟨8, mjF8, 6, by decide +kernel, rfl, rfl, rfl, mw_933, mw_934, mw_935⟩⟩) ?_
    refine mj_all_cons 72 rfl (trivial) ?_
    refine mj_all_cons 73 rfl (trivial) ?_
    refine mj_all_cons 74 rfl (Or.inl ⟨2, by decide +kernel, rfl, rfl⟩) ?_
    refine mj_all_cons 75 rfl (show _ = _ from by decide +kernel) ?_
    exact trivial
  intro pc o ho
  have := mj_all_get _ 0 h pc o ho
  rw [Nat.zero_add] at this
  exact this
set_option maxRecDepth 100000 in
theorem mjci3 : ∀ (pc : Nat) (o : mj_O), mjco3[pc]? = some o → mj_is mj_kl mjcM3.1.cls mj_WS mj_NWs mjc_Ms mjcM3.2.1 pc o := by
  have h : mj_all (mj_is mj_kl mjcM3.1.cls mj_WS mj_NWs mjc_Ms mjcM3.2.1) 0 mjco3 := by
    unfold mjco3
    refine mj_all_cons 1 rfl (Or.inl ⟨1, by decide +kernel, rfl, rfl⟩) ?_
    refine mj_all_cons 2 rfl (show _ = _ from by decide +kernel) ?_
    refine mj_all_cons 3 rfl (trivial) ?_
    refine mj_all_cons 4 rfl (trivial) ?_
    refine mj_all_cons 5 rfl (Or.inl ⟨1, by decide +kernel, rfl, rfl⟩) ?_
    refine mj_all_cons 6 rfl (Or.inl ⟨0, by decide +kernel, rfl, rfl⟩) ?_
    refine mj_all_cons 7 rfl (⟨80, "ListSpeaker", mjF0, 9, by decide +kernel, rfl, by decide, mw_333, mjw0⟩) ?_
    refine mj_all_cons 8 rfl (trivial) ?_
    refine mj_all_cons 9 rfl (trivial) ?_
    refine mj_all_cons 10 rfl (⟨mjcM111, 115, 0, rfl, by decide, mjcd111, mw_15, Or.inl ⟨8, mjF8, 6, by decide +kernel, rfl, rfl, rfl, mw_374, mw_375, mw_376⟩⟩) ?_
    refine mj_all_cons 11 rfl (trivial) ?_
    refine mj_all_cons 12 rfl (trivial) ?_
    refine mj_all_cons 13 rfl (show _ = _ from by decide +kernel) ?_
    refine mj_all_cons 14 rfl (trivial) ?_
    refine mj_all_cons 15 rfl (trivial) ?_
    refine mj_all_cons 16 rfl (trivial) ?_
    refine mj_all_cons 17 rfl (trivial) ?_
    refine mj_all_cons 18 rfl (trivial) ?_
    refine mj_all_cons 19 rfl (show _ = _ from by decide +kernel) ?_
    refine mj_all_cons 20 rfl (trivial) ?_
    refine mj_all_cons 21 rfl (trivial) ?_
    refine mj_all_cons 22 rfl (trivial) ?_
    refine mj_all_cons 23 rfl (trivial) ?_
    refine mj_all_cons 24 rfl (trivial) ?_
    refine mj_all_cons 25 rfl (trivial) ?_
    refine mj_all_cons 26 rfl (Or.inl ⟨0, by decide +kernel, rfl, rfl⟩) ?_
    refine mj_all_cons 27 rfl (⟨80, "ListSpeaker", mjF0, 9, by decide +kernel, rfl, by decide, mw_333, mjw0⟩) ?_
    refine mj_all_cons 28 rfl (trivial) ?_
    refine mj_all_cons 29 rfl (trivial) ?_
    refine mj_all_cons 30 rfl (Or.inl ⟨1, by decide +kernel, rfl, rfl⟩) ?_
    refine mj_all_cons 31 rfl (⟨mjcM112, 123, 1, rfl, by decide, mjcd112, mw_15, Or.inl ⟨8, mjF8, 6, by decide +kernel, rfl, rfl, rfl, mw_961, mw_962, mw_963⟩⟩) ?_
    refine mj_all_cons 32 rfl (trivial) ?_
    refine mj_all_cons 33 rfl (trivial) ?_
    refine mj_all_cons 34 rfl (show _ = _ from by decide +kernel) ?_
    exact trivial
  intro pc o ho
  have := mj_all_get _ 0 h pc o ho
  rw [Nat.zero_add] at this
  exact this
set_option maxRecDepth 100000 in
theorem mjci4 : ∀ (pc : Nat) (o : mj_O), mjco4[pc]? = some o → mj_is mj_kl mjcM4.1.cls mj_WS mj_NWs mjc_Ms mjcM4.2.1 pc o := by
  have h : mj_all (mj_is mj_kl mjcM4.1.cls mj_WS mj_NWs mjc_Ms mjcM4.2.1) 0 mjco4 := by
    unfold mjco4
    refine mj_all_cons 1 rfl (Or.inl ⟨1, by decide +kernel, rfl, rfl⟩) ?_
    refine mj_all_cons 2 rfl (⟨120, 8, #[51, 59, 67, 75, 83, 91, 99, 107, 112], 51, by decide +kernel, by decide, by decide, by decide⟩) ?_
    refine mj_all_cons 3 rfl (trivial) ?_
    refine mj_all_cons 4 rfl (trivial) ?_
    refine mj_all_cons 5 rfl (trivial) ?_
    refine mj_all_cons 6 rfl (trivial) ?_
    refine mj_all_cons 7 rfl (trivial) ?_
    refine mj_all_cons 8 rfl (trivial) ?_
    refine mj_all_cons 9 rfl (trivial) ?_
    refine mj_all_cons 10 rfl (trivial) ?_
    refine mj_all_cons 11 rfl (trivial) ?_
    refine mj_all_cons 12 rfl (trivial) ?_
    refine mj_all_cons 13 rfl (trivial) ?_
    refine mj_all_cons 14 rfl (trivial) ?_
    refine mj_all_cons 15 rfl (trivial) ?_
    refine mj_all_cons 16 rfl (trivial) ?_
    refine mj_all_cons 17 rfl (trivial) ?_
    refine mj_all_cons 18 rfl (trivial) ?_
    refine mj_all_cons 19 rfl (trivial) ?_
    refine mj_all_cons 20 rfl (trivial) ?_
    refine mj_all_cons 21 rfl (trivial) ?_
    refine mj_all_cons 22 rfl (trivial) ?_
    refine mj_all_cons 23 rfl (trivial) ?_
    refine mj_all_cons 24 rfl (trivial) ?_
    refine mj_all_cons 25 rfl (trivial) ?_
    refine mj_all_cons 26 rfl (trivial) ?_
    refine mj_all_cons 27 rfl (trivial) ?_
    refine mj_all_cons 28 rfl (trivial) ?_
    refine mj_all_cons 29 rfl (trivial) ?_
    refine mj_all_cons 30 rfl (trivial) ?_
    refine mj_all_cons 31 rfl (trivial) ?_
    refine mj_all_cons 32 rfl (trivial) ?_
    refine mj_all_cons 33 rfl (trivial) ?_
    refine mj_all_cons 34 rfl (trivial) ?_
    refine mj_all_cons 35 rfl (trivial) ?_
    refine mj_all_cons 36 rfl (trivial) ?_
    refine mj_all_cons 37 rfl (trivial) ?_
    refine mj_all_cons 38 rfl (trivial) ?_
    refine mj_all_cons 39 rfl (trivial) ?_
    refine mj_all_cons 40 rfl (trivial) ?_
    refine mj_all_cons 41 rfl (trivial) ?_
    refine mj_all_cons 42 rfl (trivial) ?_
    refine mj_all_cons 43 rfl (trivial) ?_
    refine mj_all_cons 44 rfl (trivial) ?_
    refine mj_all_cons 45 rfl (trivial) ?_
    refine mj_all_cons 46 rfl (trivial) ?_
    refine mj_all_cons 47 rfl (trivial) ?_
    refine mj_all_cons 48 rfl (trivial) ?_
    refine mj_all_cons 49 rfl (trivial) ?_
    refine mj_all_cons 50 rfl (trivial) ?_
    refine mj_all_cons 51 rfl (trivial) ?_
    refine mj_all_cons 52 rfl (trivial) ?_
    refine mj_all_cons 53 rfl (Or.inl ⟨0, by decide +kernel, rfl, rfl⟩) ?_
    refine mj_all_cons 54 rfl (⟨80, "ListSpeaker", mjF0, 9, by decide +kernel, rfl, by decide, mw_333, mjw0⟩) ?_
    refine mj_all_cons 55 rfl (trivial) ?_
    refine mj_all_cons 56 rfl (trivial) ?_
    refine mj_all_cons 57 rfl (⟨mjcM111, 115, 0, rfl, by decide, mjcd111, mw_15, Or.inl ⟨8, mjF8, 6, by decide +kernel, rfl, rfl, rfl, mw_374, mw_375, mw_376⟩⟩) ?_
    refine mj_all_cons 58 rfl (trivial) ?_
    refine mj_all_cons 59 rfl (trivial) ?_
    refine mj_all_cons 60 rfl (show _ = _ from by decide +kernel) ?_
    refine mj_all_cons 61 rfl (Or.inl ⟨0, by decide +kernel, rfl, rfl⟩) ?_
    refine mj_all_cons 62 rfl (⟨64, "ListSpeaker", mjF0, 9, by decide +kernel, rfl, by decide, mw_331, mjw0⟩) ?_
    refine mj_all_cons 63 rfl (trivial) ?_
    refine mj_all_cons 64 rfl (trivial) ?_
    refine mj_all_cons 65 rfl (⟨mjcM81, 127, 0, rfl, by decide, mjcd81, mw_13, Or.inl ⟨6, mjF6, 7, by decide +kernel, rfl, rfl, rfl, mw_378, mw_379, mw_380⟩⟩) ?_
    refine mj_all_cons 66 rfl (trivial) ?_
    refine mj_all_cons 67 rfl (trivial) ?_
    refine mj_all_cons 68 rfl (show _ = _ from by decide +kernel) ?_
    refine mj_all_cons 69 rfl (Or.inl ⟨0, by decide +kernel, rfl, rfl⟩) ?_
    refine mj_all_cons 70 rfl (⟨12, "ListSpeaker", mjF0, 9, by decide +kernel, rfl, by decide, mw_326, mjw0⟩) ?_
    refine mj_all_cons 71 rfl (trivial) ?_
    refine mj_all_cons 72 rfl (trivial) ?_
    refine mj_all_cons 73 rfl (⟨mjcM10, 130, 0, rfl, by decide, mjcd10, mw_2, Or.inl ⟨1, mjF1, 3, by decide +kernel, rfl, rfl, rfl, mw_382, mw_383, mw_384⟩⟩) ?_
    refine mj_all_cons 74 rfl (trivial) ?_
    refine mj_all_cons 75 rfl (trivial) ?_
    refine mj_all_cons 76 rfl (show _ = _ from by decide +kernel) ?_
    refine mj_all_cons 77 rfl (Or.inl ⟨0, by decide +kernel, rfl, rfl⟩) ?_
    refine mj_all_cons 78 rfl (⟨30, "ListSpeaker", mjF0, 9, by decide +kernel, rfl, by decide, mw_327, mjw0⟩) ?_
    refine mj_all_cons 79 rfl (trivial) ?_
    refine mj_all_cons 80 rfl (trivial) ?_
    refine mj_all_cons 81 rfl (⟨mjcM16, 131, 0, rfl, by decide, mjcd16, mw_8, Or.inl ⟨2, mjF2, 12, by decide +kernel, rfl, rfl, rfl, mw_386, mw_387, mw_388⟩⟩) ?_
    refine mj_all_cons 82 rfl (trivial) ?_
    refine mj_all_cons 83 rfl (trivial) ?_
    refine mj_all_cons 84 rfl (show _ = _ from by decide +kernel) ?_
    refine mj_all_cons 85 rfl (Or.inl ⟨0, by decide +kernel, rfl, rfl⟩) ?_
    refine mj_all_cons 86 rfl (⟨30, "ListSpeaker", mjF0, 9, by decide +kernel, rfl, by decide, mw_327, mjw0⟩) ?_
    refine mj_all_cons 87 rfl (trivial) ?_
    refine mj_all_cons 88 rfl (trivial) ?_
    refine mj_all_cons 89 rfl (⟨mjcM17, 134, 0, rfl, by decide, mjcd17, mw_8, Or.inl ⟨2, mjF2, 12, by decide +kernel, rfl, rfl, rfl, mw_390, mw_391, mw_392⟩⟩) ?_
    refine mj_all_cons 90 rfl (trivial) ?_
    refine mj_all_cons 91 rfl (trivial) ?_
    refine mj_all_cons 92 rfl (show _ = _ from by decide +kernel) ?_
    refine mj_all_cons 93 rfl (Or.inl ⟨0, by decide +kernel, rfl, rfl⟩) ?_
    refine mj_all_cons 94 rfl (⟨30, "ListSpeaker", mjF0, 9, by decide +kernel, rfl, by decide, mw_327, mjw0⟩) ?_
    refine mj_all_cons 95 rfl (trivial) ?_
    refine mj_all_cons 96 rfl (trivial) ?_
    refine mj_all_cons 97 rfl (⟨mjcM18, 137, 0, rfl, by decide, mjcd18, mw_8, Or.inl ⟨2, mjF2, 12, by decide +kernel, rfl, rfl, rfl, mw_394, mw_395, mw_396⟩⟩) ?_
    refine mj_all_cons 98 rfl (trivial) ?_
    refine mj_all_cons 99 rfl (trivial) ?_
    refine mj_all_cons 100 rfl (show _ = _ from by decide +kernel) ?_
    refine mj_all_cons 101 rfl (Or.inl ⟨0, by decide +kernel, rfl, rfl⟩) ?_
    refine mj_all_cons 102 rfl (⟨73, "ListSpeaker", mjF0, 9, by decide +kernel, rfl, by decide, mw_332, mjw0⟩) ?_
    refine mj_all_cons 103 rfl (trivial) ?_
    refine mj_all_cons 104 rfl (trivial) ?_
    refine mj_all_cons 105 rfl (⟨mjcM86, 140, 0, rfl, by decide, mjcd86, mw_14, Or.inl ⟨7, mjF7, 14, by decide +kernel, rfl, rfl, rfl, mw_398, mw_399, mw_400⟩⟩) ?_
    refine mj_all_cons 106 rfl (trivial) ?_
    refine mj_all_cons 107 rfl (trivial) ?_
    refine mj_all_cons 108 rfl (show _ = _ from by decide +kernel) ?_
    refine mj_all_cons 109 rfl (Or.inl ⟨0, by decide +kernel, rfl, rfl⟩) ?_
    refine mj_all_cons 110 rfl (⟨105, "ListSpeaker", mjF0, 9, by decide +kernel, rfl, by decide, mw_334, mjw0⟩) ?_
    refine mj_all_cons 111 rfl (trivial) ?_
    refine mj_all_cons 112 rfl (trivial) ?_
    refine mj_all_cons 113 rfl (show _ = _ from by decide +kernel) ?_
    refine mj_all_cons 114 rfl (Or.inl ⟨0, by decide +kernel, rfl, rfl⟩) ?_
    refine mj_all_cons 115 rfl (⟨73, "ListSpeaker", mjF0, 9, by decide +kernel, rfl, by decide, mw_332, mjw0⟩) ?_
    refine mj_all_cons 116 rfl (trivial) ?_
    refine mj_all_cons 117 rfl (trivial) ?_
    refine mj_all_cons 118 rfl (⟨mjcM87, 143, 0, rfl, by decide, mjcd87, mw_14, Or.inl ⟨7, mjF7, 14, by decide +kernel, rfl, rfl, rfl, mw_402, mw_403, mw_404⟩⟩) ?_
    refine mj_all_cons 119 rfl (trivial) ?_
    refine mj_all_cons 120 rfl (trivial) ?_
    refine mj_all_cons 121 rfl (show _ = _ from by decide +kernel) ?_
    refine mj_all_cons 122 rfl (Or.inl ⟨by decide +kernel, rfl⟩) ?_
    refine mj_all_cons 123 rfl (show _ = _ from by decide +kernel) ?_
    exact trivial
  intro pc o ho
  have := mj_all_get _ 0 h pc o ho
  rw [Nat.zero_add] at this
  exact this
set_option maxRecDepth 100000 in
theorem mjci5 : ∀ (pc : Nat) (o : mj_O), mjco5[pc]? = some o → mj_is mj_kl mjcM5.1.cls mj_WS mj_NWs mjc_Ms mjcM5.2.1 pc o := by
  have h : mj_all (mj_is mj_kl mjcM5.1.cls mj_WS mj_NWs mjc_Ms mjcM5.2.1) 0 mjco5 := by
    unfold mjco5
    refine mj_all_cons 1 rfl (Or.inl ⟨by decide +kernel, rfl⟩) ?_
    refine mj_all_cons 2 rfl (Or.inl ⟨1, by decide +kernel, rfl, rfl⟩) ?_
    refine mj_all_cons 3 rfl (Or.inl ⟨1, by decide +kernel, rfl, rfl⟩) ?_
    refine mj_all_cons 4 rfl (Or.inr (Or.inr (Or.inl ⟨by decide +kernel, rfl, by decide⟩))) ?_
    refine mj_all_cons 5 rfl (trivial) ?_
    refine mj_all_cons 6 rfl (trivial) ?_
    refine mj_all_cons 7 rfl (show _ = _ from by decide +kernel) ?_
    refine mj_all_cons 8 rfl (trivial) ?_
    refine mj_all_cons 9 rfl (trivial) ?_
    refine mj_all_cons 10 rfl (Or.inl ⟨0, by decide +kernel, rfl, rfl⟩) ?_
    refine mj_all_cons 11 rfl (⟨39, "ListSpeaker", mjF0, 9, by decide +kernel, rfl, by decide, mw_328, mjw0⟩) ?_
    refine mj_all_cons 12 rfl (trivial) ?_
    refine mj_all_cons 13 rfl (trivial) ?_
    refine mj_all_cons 14 rfl (⟨mjcM37, 146, 0, rfl, by decide, mjcd37, mw_10, Or.inl ⟨3, mjF3, 5, by decide +kernel, rfl, rfl, rfl, mw_499, mw_500, mw_501⟩⟩) ?_
    refine mj_all_cons 15 rfl (trivial) ?_
    refine mj_all_cons 16 rfl (trivial) ?_
    refine mj_all_cons 17 rfl (show _ = _ from by decide +kernel) ?_
    refine mj_all_cons 18 rfl (trivial) ?_
    refine mj_all_cons 19 rfl (trivial) ?_
    refine mj_all_cons 20 rfl (Or.inl ⟨0, by decide +kernel, rfl, rfl⟩) ?_
    refine mj_all_cons 21 rfl (⟨30, "ListSpeaker", mjF0, 9, by decide +kernel, rfl, by decide, mw_327, mjw0⟩) ?_
    refine mj_all_cons 22 rfl (trivial) ?_
    refine mj_all_cons 23 rfl (trivial) ?_
    refine mj_all_cons 24 rfl (⟨mjcM16, 131, 0, rfl, by decide, mjcd16, mw_8, Or.inl ⟨2, mjF2, 12, by decide +kernel, rfl, rfl, rfl, mw_386, mw_387, mw_388⟩⟩) ?_
    refine mj_all_cons 25 rfl (trivial) ?_
    refine mj_all_cons 26 rfl (trivial) ?_
    refine mj_all_cons 27 rfl (Or.inl ⟨2, by decide +kernel, rfl, rfl⟩) ?_
    refine mj_all_cons 28 rfl (Or.inl ⟨0, by decide +kernel, rfl, rfl⟩) ?_
    refine mj_all_cons 29 rfl (⟨46, "ListSpeaker", mjF0, 9, by decide +kernel, rfl, by decide, mw_329, mjw0⟩) ?_
    refine mj_all_cons 30 rfl (trivial) ?_
    refine mj_all_cons 31 rfl (trivial) ?_
    refine mj_all_cons 32 rfl (⟨mjcM54, 150, 0, rfl, by decide, mjcd54, mw_11, Or.inl ⟨4, mjF4, 4, by decide +kernel, rfl, rfl, rfl, mw_507, mw_508, mw_509⟩⟩) ?_
    refine mj_all_cons 33 rfl (trivial) ?_
    refine mj_all_cons 34 rfl (trivial) ?_
    refine mj_all_cons 35 rfl (Or.inl ⟨3, by decide +kernel, rfl, rfl⟩) ?_
    refine mj_all_cons 36 rfl (Or.inl ⟨0, by decide +kernel, rfl, rfl⟩) ?_
    refine mj_all_cons 37 rfl (⟨64, "ListSpeaker", mjF0, 9, by decide +kernel, rfl, by decide, mw_331, mjw0⟩) ?_
    refine mj_all_cons 38 rfl (trivial) ?_
    refine mj_all_cons 39 rfl (trivial) ?_
    refine mj_all_cons 40 rfl (⟨mjcM81, 127, 0, rfl, by decide, mjcd81, mw_13, Or.inl ⟨6, mjF6, 7, by decide +kernel, rfl, rfl, rfl, mw_378, mw_379, mw_380⟩⟩) ?_
    refine mj_all_cons 41 rfl (trivial) ?_
    refine mj_all_cons 42 rfl (trivial) ?_
    refine mj_all_cons 43 rfl (Or.inr ⟨by decide +kernel, rfl⟩) ?_
    refine mj_all_cons 44 rfl (trivial) ?_
    refine mj_all_cons 45 rfl (Or.inl ⟨0, by decide +kernel, rfl, rfl⟩) ?_
    refine mj_all_cons 46 rfl (⟨39, "ListSpeaker", mjF0, 9, by decide +kernel, rfl, by decide, mw_328, mjw0⟩) ?_
    refine mj_all_cons 47 rfl (trivial) ?_
    refine mj_all_cons 48 rfl (trivial) ?_
    refine mj_all_cons 49 rfl (⟨mjcM38, 151, 0, rfl, by decide, mjcd38, mw_10, Or.inl ⟨3, mjF3, 5, by decide +kernel, rfl, rfl, rfl, mw_511, mw_512, mw_513⟩⟩) ?_
    refine mj_all_cons 50 rfl (trivial) ?_
    refine mj_all_cons 51 rfl (trivial) ?_
    refine mj_all_cons 52 rfl (Or.inr ⟨by decide +kernel, rfl⟩) ?_
    refine mj_all_cons 53 rfl (trivial) ?_
    refine mj_all_cons 54 rfl (Or.inr ⟨by decide +kernel, rfl⟩) ?_
    refine mj_all_cons 55 rfl (trivial) ?_
    refine mj_all_cons 56 rfl (show _ = _ from by decide +kernel) ?_
    refine mj_all_cons 57 rfl (trivial) ?_
    refine mj_all_cons 58 rfl (trivial) ?_
    refine mj_all_cons 59 rfl (Or.inr ⟨by decide +kernel, rfl⟩) ?_
    refine mj_all_cons 60 rfl (trivial) ?_
    refine mj_all_cons 61 rfl (show _ = _ from by decide +kernel) ?_
    refine mj_all_cons 62 rfl (show _ = _ from by decide +kernel) ?_
    refine mj_all_cons 63 rfl (trivial) ?_
    refine mj_all_cons 64 rfl (trivial) ?_
    refine mj_all_cons 65 rfl (Or.inl ⟨0, by decide +kernel, rfl, rfl⟩) ?_
    refine mj_all_cons 66 rfl (Or.inr ⟨by decide +kernel, rfl⟩) ?_
    refine mj_all_cons 67 rfl (trivial) ?_
    refine mj_all_cons 68 rfl (⟨mjcM6, 154, 1, rfl, by decide, mjcd6, mw_1, Or.inl ⟨0, mjF0, 9, by decide +kernel, rfl, rfl, rfl, mw_583, mw_585, mjsel_16⟩⟩) ?_
    refine mj_all_cons 69 rfl (trivial) ?_
    refine mj_all_cons 70 rfl (trivial) ?_
    refine mj_all_cons 71 rfl (Or.inr ⟨by decide +kernel, rfl⟩) ?_
    refine mj_all_cons 72 rfl (trivial) ?_
    refine mj_all_cons 73 rfl (Or.inl ⟨0, by decide +kernel, rfl, rfl⟩) ?_
    refine mj_all_cons 74 rfl (⟨64, "ListSpeaker", mjF0, 9, by decide +kernel, rfl, by decide, mw_331, mjw0⟩) ?_
    refine mj_all_cons 75 rfl (trivial) ?_
    refine mj_all_cons 76 rfl (trivial) ?_
    refine mj_all_cons 77 rfl (⟨mjcM81, 127, 0, rfl, by decide, mjcd81, mw_13, Or.inl ⟨6, mjF6, 7, by decide +kernel, rfl, rfl, rfl, mw_378, mw_379, mw_380⟩⟩) ?_
    refine mj_all_cons 78 rfl (trivial) ?_
    refine mj_all_cons 79 rfl (trivial) ?_
    refine mj_all_cons 80 rfl (Or.inr ⟨by decide +kernel, rfl⟩) ?_
    refine mj_all_cons 81 rfl (trivial) ?_
    refine mj_all_cons 82 rfl (show _ = _ from by decide +kernel) ?_
    refine mj_all_cons 83 rfl (trivial) ?_
    refine mj_all_cons 84 rfl (trivial) ?_
    refine mj_all_cons 85 rfl (Or.inl ⟨0, by decide +kernel, rfl, rfl⟩) ?_
    refine mj_all_cons 86 rfl (⟨30, "ListSpeaker", mjF0, 9, by decide +kernel, rfl, by decide, mw_327, mjw0⟩) ?_
    refine mj_all_cons 87 rfl (trivial) ?_
    refine mj_all_cons 88 rfl (trivial) ?_
    refine mj_all_cons 89 rfl (Or.inl ⟨2, by decide +kernel, rfl, rfl⟩) ?_
    refine mj_all_cons 90 rfl (⟨mjcM26, 158, 1, rfl, by decide, mjcd26, mw_8, Or.inl ⟨2, mjF2, 12, by decide +kernel, rfl, rfl, rfl, mw_925, mw_926, mw_927⟩⟩) ?_
    refine mj_all_cons 91 rfl (trivial) ?_
    refine mj_all_cons 92 rfl (trivial) ?_
    refine mj_all_cons 93 rfl (Or.inl ⟨0, by decide +kernel, rfl, rfl⟩) ?_
    refine mj_all_cons 94 rfl (⟨46, "ListSpeaker", mjF0, 9, by decide +kernel, rfl, by decide, mw_329, mjw0⟩) ?_
    refine mj_all_cons 95 rfl (trivial) ?_
    refine mj_all_cons 96 rfl (trivial) ?_
    refine mj_all_cons 97 rfl (Or.inl ⟨3, by decide +kernel, rfl, rfl⟩) ?_
    refine mj_all_cons 98 rfl (⟨mjcM55, 161, 1, rfl, by decide, mjcd55, mw_11, Or.inl ⟨4, mjF4, 4, by decide +kernel, rfl, rfl, rfl, mw_929, mw_930, mw_931⟩⟩) ?_
    refine mj_all_cons 99 rfl (trivial) ?_
    refine mj_all_cons 100 rfl (trivial) ?_
    refine mj_all_cons 101 rfl (Or.inr ⟨by decide +kernel, rfl⟩) ?_
    refine mj_all_cons 102 rfl (trivial) ?_
    refine mj_all_cons 103 rfl (show _ = _ from by decide +kernel) ?_
    refine mj_all_cons 104 rfl (trivial) ?_
    refine mj_all_cons 105 rfl (trivial) ?_
    refine mj_all_cons 106 rfl (Or.inr ⟨by decide +kernel, rfl⟩) ?_
    refine mj_all_cons 107 rfl (trivial) ?_
    refine mj_all_cons 108 rfl (show _ = _ from by decide +kernel) ?_
    refine mj_all_cons 109 rfl (Or.inl ⟨0, by decide +kernel, rfl, rfl⟩) ?_
    refine mj_all_cons 110 rfl (show _ = _ from by decide +kernel) ?_
    refine mj_all_cons 111 rfl (⟨105, "ListSpeaker", mjF0, 9, by decide +kernel, rfl, by decide, mw_334, mjw0⟩) ?_
    refine mj_all_cons 112 rfl (trivial) ?_
    refine mj_all_cons 113 rfl (trivial) ?_
    refine mj_all_cons 114 rfl (Or.inl ⟨by decide +kernel, rfl⟩) ?_
    refine mj_all_cons 115 rfl (show _ = _ from by decide +kernel) ?_
    refine mj_all_cons 116 rfl (⟨105, "ListSpeaker", mjF0, 9, mjt0, by decide +kernel, rfl, by decide, mw_334, mjw0, mjk0, mjn0, rfl, by decide +kernel⟩) ?_
    refine mj_all_cons 117 rfl (trivial) ?_
    refine mj_all_cons 118 rfl (trivial) ?_
    refine mj_all_cons 119 rfl (show _ = _ from by decide +kernel) ?_
    refine mj_all_cons 120 rfl (trivial) ?_
    refine mj_all_cons 121 rfl (trivial) ?_
    refine mj_all_cons 122 rfl (show _ = _ from by decide +kernel) ?_
    refine mj_all_cons 123 rfl (trivial) ?_
    refine mj_all_cons 124 rfl (trivial) ?_
    refine mj_all_cons 125 rfl (Or.inl ⟨by decide +kernel, rfl⟩) ?_
    refine mj_all_cons 126 rfl (show _ = _ from by decide +kernel) ?_
    exact trivial
  intro pc o ho
  have := mj_all_get _ 0 h pc o ho
  rw [Nat.zero_add] at this
  exact this
set_option maxRecDepth 100000 in
theorem mjci6 : ∀ (pc : Nat) (o : mj_O), mjco6[pc]? = some o → mj_is mj_kl mjcM6.1.cls mj_WS mj_NWs mjc_Ms mjcM6.2.1 pc o := by
  have h : mj_all (mj_is mj_kl mjcM6.1.cls mj_WS mj_NWs mjc_Ms mjcM6.2.1) 0 mjco6 := by
    unfold mjco6
    refine mj_all_cons 1 rfl (Or.inl ⟨0, by decide +kernel, rfl, rfl⟩) ?_
    refine mj_all_cons 2 rfl (⟨30, "ListSpeaker", mjF0, 9, by decide +kernel, rfl, by decide, mw_327, mjw0⟩) ?_
    refine mj_all_cons 3 rfl (trivial) ?_
    refine mj_all_cons 4 rfl (trivial) ?_
    refine mj_all_cons 5 rfl (Or.inl ⟨1, by decide +kernel, rfl, rfl⟩) ?_
    refine mj_all_cons 6 rfl (⟨mjcM20, 162, 1, rfl, by decide, mjcd20, mw_8, Or.inl ⟨2, mjF2, 12, by decide +kernel, rfl, rfl, rfl, mw_587, mw_588, mw_589⟩⟩) ?_
    refine mj_all_cons 7 rfl (trivial) ?_
    refine mj_all_cons 8 rfl (trivial) ?_
    refine mj_all_cons 9 rfl (Or.inr (Or.inr (Or.inr (Or.inl ⟨165, by decide +kernel, rfl, mw_592⟩)))) ?_
    refine mj_all_cons 10 rfl (trivial) ?_
    refine mj_all_cons 11 rfl (show _ = _ from by decide +kernel) ?_
    refine mj_all_cons 12 rfl (trivial) ?_
    refine mj_all_cons 13 rfl (trivial) ?_
    refine mj_all_cons 14 rfl (Or.inl ⟨by decide +kernel, rfl⟩) ?_
    refine mj_all_cons 15 rfl (show _ = _ from by decide +kernel) ?_
    refine mj_all_cons 16 rfl (trivial) ?_
    refine mj_all_cons 17 rfl (trivial) ?_
    refine mj_all_cons 18 rfl (Or.inl ⟨by decide +kernel, rfl⟩) ?_
    refine mj_all_cons 19 rfl (Or.inl ⟨2, by decide +kernel, rfl, rfl⟩) ?_
    refine mj_all_cons 20 rfl (Or.inl ⟨0, by decide +kernel, rfl, rfl⟩) ?_
    refine mj_all_cons 21 rfl (⟨46, "ListSpeaker", mjF0, 9, by decide +kernel, rfl, by decide, mw_329, mjw0⟩) ?_
    refine mj_all_cons 22 rfl (trivial) ?_
    refine mj_all_cons 23 rfl (trivial) ?_
    refine mj_all_cons 24 rfl (⟨mjcM54, 150, 0, rfl, by decide, mjcd54, mw_11, Or.inl ⟨4, mjF4, 4, by decide +kernel, rfl, rfl, rfl, mw_507, mw_508, mw_509⟩⟩) ?_
    refine mj_all_cons 25 rfl (trivial) ?_
    refine mj_all_cons 26 rfl (trivial) ?_
    refine mj_all_cons 27 rfl (Or.inl ⟨3, by decide +kernel, rfl, rfl⟩) ?_
    refine mj_all_cons 28 rfl (Or.inl ⟨2, by decide +kernel, rfl, rfl⟩) ?_
    refine mj_all_cons 29 rfl (show _ = _ from by decide +kernel) ?_
    refine mj_all_cons 30 rfl (trivial) ?_
    refine mj_all_cons 31 rfl (trivial) ?_
    refine mj_all_cons 32 rfl (Or.inl ⟨0, by decide +kernel, rfl, rfl⟩) ?_
    refine mj_all_cons 33 rfl (⟨55, "ListSpeaker", mjF0, 9, by decide +kernel, rfl, by decide, mw_330, mjw0⟩) ?_
    refine mj_all_cons 34 rfl (trivial) ?_
    refine mj_all_cons 35 rfl (trivial) ?_
    refine mj_all_cons 36 rfl (Or.inl ⟨1, by decide +kernel, rfl, rfl⟩) ?_
    refine mj_all_cons 37 rfl (⟨mjcM63, 166, 1, rfl, by decide, mjcd63, mw_12, Or.inl ⟨5, mjF5, 5, by decide +kernel, rfl, rfl, rfl, mw_593, mw_594, mw_595⟩⟩) ?_
    refine mj_all_cons 38 rfl (trivial) ?_
    refine mj_all_cons 39 rfl (trivial) ?_
    refine mj_all_cons 40 rfl (show _ = _ from by decide +kernel) ?_
    refine mj_all_cons 41 rfl (trivial) ?_
    refine mj_all_cons 42 rfl (trivial) ?_
    refine mj_all_cons 43 rfl (Or.inl ⟨0, by decide +kernel, rfl, rfl⟩) ?_
    refine mj_all_cons 44 rfl (⟨55, "ListSpeaker", mjF0, 9, by decide +kernel, rfl, by decide, mw_330, mjw0⟩) ?_
    refine mj_all_cons 45 rfl (trivial) ?_
    refine mj_all_cons 46 rfl (trivial) ?_
    refine mj_all_cons 47 rfl (Or.inl ⟨1, by decide +kernel, rfl, rfl⟩) ?_
    refine mj_all_cons 48 rfl (⟨mjcM62, 169, 1, rfl, by decide, mjcd62, mw_12, Or.inl ⟨5, mjF5, 5, by decide +kernel, rfl, rfl, rfl, mw_710, mw_711, mw_712⟩⟩) ?_
    refine mj_all_cons 49 rfl (trivial) ?_
    refine mj_all_cons 50 rfl (trivial) ?_
    refine mj_all_cons 51 rfl (Or.inr ⟨by decide +kernel, rfl⟩) ?_
    refine mj_all_cons 52 rfl (trivial) ?_
    refine mj_all_cons 53 rfl (Or.inr ⟨by decide +kernel, rfl⟩) ?_
    refine mj_all_cons 54 rfl (trivial) ?_
    refine mj_all_cons 55 rfl (show _ = _ from by decide +kernel) ?_
    refine mj_all_cons 56 rfl (trivial) ?_
    refine mj_all_cons 57 rfl (trivial) ?_
    refine mj_all_cons 58 rfl (Or.inl ⟨2, by decide +kernel, rfl, rfl⟩) ?_
    refine mj_all_cons 59 rfl (show _ = _ from by decide +kernel) ?_
    refine mj_all_cons 60 rfl (trivial) ?_
    refine mj_all_cons 61 rfl (trivial) ?_
    refine mj_all_cons 62 rfl (Or.inl ⟨0, by decide +kernel, rfl, rfl⟩) ?_
    refine mj_all_cons 63 rfl (⟨64, "ListSpeaker", mjF0, 9, by decide +kernel, rfl, by decide, mw_331, mjw0⟩) ?_
    refine mj_all_cons 64 rfl (trivial) ?_
    refine mj_all_cons 65 rfl (trivial) ?_
    refine mj_all_cons 66 rfl (Or.inl ⟨1, by decide +kernel, rfl, rfl⟩) ?_
    refine mj_all_cons 67 rfl (Or.inl ⟨3, by decide +kernel, rfl, rfl⟩) ?_
    refine mj_all_cons 68 rfl (⟨mjcM82, 172, 2, rfl, by decide, mjcd82, mw_13, Or.inl ⟨6, mjF6, 7, by decide +kernel, rfl, rfl, rfl, mw_714, mw_715, mw_716⟩⟩) ?_
    refine mj_all_cons 69 rfl (trivial) ?_
    refine mj_all_cons 70 rfl (trivial) ?_
    refine mj_all_cons 71 rfl (show _ = _ from by decide +kernel) ?_
    refine mj_all_cons 72 rfl (trivial) ?_
    refine mj_all_cons 73 rfl (trivial) ?_
    refine mj_all_cons 74 rfl (Or.inl ⟨0, by decide +kernel, rfl, rfl⟩) ?_
    refine mj_all_cons 75 rfl (⟨73, "ListSpeaker", mjF0, 9, by decide +kernel, rfl, by decide, mw_332, mjw0⟩) ?_
    refine mj_all_cons 76 rfl (trivial) ?_
    refine mj_all_cons 77 rfl (trivial) ?_
    refine mj_all_cons 78 rfl (Or.inl ⟨3, by decide +kernel, rfl, rfl⟩) ?_
    refine mj_all_cons 79 rfl (⟨mjcM90, 175, 1, rfl, by decide, mjcd90, mw_14, Or.inl ⟨7, mjF7, 14, by decide +kernel, rfl, rfl, rfl, mw_735, mw_736, mw_737⟩⟩) ?_
    refine mj_all_cons 80 rfl (trivial) ?_
    refine mj_all_cons 81 rfl (trivial) ?_
    refine mj_all_cons 82 rfl (Or.inr ⟨by decide +kernel, rfl⟩) ?_
    refine mj_all_cons 83 rfl (trivial) ?_
    refine mj_all_cons 84 rfl (Or.inr ⟨by decide +kernel, rfl⟩) ?_
    refine mj_all_cons 85 rfl (trivial) ?_
    refine mj_all_cons 86 rfl (show _ = _ from by decide +kernel) ?_
    refine mj_all_cons 87 rfl (trivial) ?_
    refine mj_all_cons 88 rfl (trivial) ?_
    refine mj_all_cons 89 rfl (Or.inl ⟨0, by decide +kernel, rfl, rfl⟩) ?_
    refine mj_all_cons 90 rfl (⟨80, "ListSpeaker", mjF0, 9, by decide +kernel, rfl, by decide, mw_333, mjw0⟩) ?_
    refine mj_all_cons 91 rfl (trivial) ?_
    refine mj_all_cons 92 rfl (trivial) ?_
    refine mj_all_cons 93 rfl (Or.inl ⟨2, by decide +kernel, rfl, rfl⟩) ?_
    refine mj_all_cons 94 rfl (show _ = _ from by decide +kernel) ?_
    refine mj_all_cons 95 rfl (trivial) ?_
    refine mj_all_cons 96 rfl (trivial) ?_
    refine mj_all_cons 97 rfl (Or.inl ⟨0, by decide +kernel, rfl, rfl⟩) ?_
    refine mj_all_cons 98 rfl (⟨30, "ListSpeaker", mjF0, 9, by decide +kernel, rfl, by decide, mw_327, mjw0⟩) ?_
    refine mj_all_cons 99 rfl (trivial) ?_
    refine mj_all_cons 100 rfl (trivial) ?_
    refine mj_all_cons 101 rfl (Or.inl ⟨1, by decide +kernel, rfl, rfl⟩) ?_
    refine mj_all_cons 102 rfl (Or.inl ⟨by decide +kernel, rfl⟩) ?_
    refine mj_all_cons 103 rfl (⟨mjcM22, 178, 2, rfl, by decide, mjcd22, mw_8, Or.inl ⟨2, mjF2, 12, by decide +kernel, rfl, rfl, rfl, mw_873, mw_598, mw_599⟩⟩) ?_
    refine mj_all_cons 104 rfl (trivial) ?_
    refine mj_all_cons 105 rfl (trivial) ?_
    refine mj_all_cons 106 rfl (show _ = _ from by decide +kernel) ?_
    refine mj_all_cons 107 rfl (trivial) ?_
    refine mj_all_cons 108 rfl (trivial) ?_
    refine mj_all_cons 109 rfl (Or.inl ⟨0, by decide +kernel, rfl, rfl⟩) ?_
    refine mj_all_cons 110 rfl (⟨73, "ListSpeaker", mjF0, 9, by decide +kernel, rfl, by decide, mw_332, mjw0⟩) ?_
    refine mj_all_cons 111 rfl (trivial) ?_
    refine mj_all_cons 112 rfl (trivial) ?_
    refine mj_all_cons 113 rfl (⟨mjcM88, 181, 0, rfl, by decide, mjcd88, mw_14, Or.inl ⟨7, mjF7, 14, by decide +kernel, rfl, rfl, rfl, mw_874, mw_875, mw_876⟩⟩) ?_
    refine mj_all_cons 114 rfl (trivial) ?_
    refine mj_all_cons 115 rfl (trivial) ?_
    refine mj_all_cons 116 rfl (⟨mjcM115, 184, 1, rfl, by decide, mjcd115, mw_15, Or.inl ⟨8, mjF8, 6, by decide +kernel, rfl, rfl, rfl, mw_878, mw_879, mw_880⟩⟩) ?_
    refine mj_all_cons 117 rfl (trivial) ?_
    refine mj_all_cons 118 rfl (trivial) ?_
    refine mj_all_cons 119 rfl (Or.inr ⟨by decide +kernel, rfl⟩) ?_
    refine mj_all_cons 120 rfl (trivial) ?_
    refine mj_all_cons 121 rfl (show _ = _ from by decide +kernel) ?_
    exact trivial
  intro pc o ho
  have := mj_all_get _ 0 h pc o ho
  rw [Nat.zero_add] at this
  exact this
set_option maxRecDepth 100000 in
theorem mjci7 : ∀ (pc : Nat) (o : mj_O), mjco7[pc]? = some o → mj_is mj_kl mjcM7.1.cls mj_WS mj_NWs mjc_Ms mjcM7.2.1 pc o := by
  have h : mj_all (mj_is mj_kl mjcM7.1.cls mj_WS mj_NWs mjc_Ms mjcM7.2.1) 0 mjco7 := by
    unfold mjco7
    refine mj_all_cons 1 rfl (Or.inl ⟨0, by decide +kernel, rfl, rfl⟩) ?_
    refine mj_all_cons 2 rfl (show _ = _ from by decide +kernel) ?_
    refine mj_all_cons 3 rfl (trivial) ?_
    refine mj_all_cons 4 rfl (trivial) ?_
    refine mj_all_cons 5 rfl (Or.inl ⟨0, by decide +kernel, rfl, rfl⟩) ?_
    refine mj_all_cons 6 rfl (Or.inr (Or.inr (Or.inr (Or.inl ⟨187, by decide +kernel, rfl, mw_655⟩)))) ?_
    refine mj_all_cons 7 rfl (trivial) ?_
    refine mj_all_cons 8 rfl (show _ = _ from by decide +kernel) ?_
    refine mj_all_cons 9 rfl (trivial) ?_
    refine mj_all_cons 10 rfl (trivial) ?_
    refine mj_all_cons 11 rfl (Or.inl ⟨by decide +kernel, rfl⟩) ?_
    refine mj_all_cons 12 rfl (show _ = _ from by decide +kernel) ?_
    refine mj_all_cons 13 rfl (trivial) ?_
    refine mj_all_cons 14 rfl (trivial) ?_
    refine mj_all_cons 15 rfl (Or.inl ⟨by decide +kernel, rfl⟩) ?_
    refine mj_all_cons 16 rfl (show _ = _ from by decide +kernel) ?_
    exact trivial
  intro pc o ho
  have := mj_all_get _ 0 h pc o ho
  rw [Nat.zero_add] at this
  exact this
set_option maxRecDepth 100000 in
theorem mjci8 : ∀ (pc : Nat) (o : mj_O), mjco8[pc]? = some o → mj_is mj_kl mjcM8.1.cls mj_WS mj_NWs mjc_Ms mjcM8.2.1 pc o := by
  have h : mj_all (mj_is mj_kl mjcM8.1.cls mj_WS mj_NWs mjc_Ms mjcM8.2.1) 0 mjco8 := by
    unfold mjco8
    refine mj_all_cons 1 rfl (Or.inl ⟨0, by decide +kernel, rfl, rfl⟩) ?_
    refine mj_all_cons 2 rfl (Or.inr (Or.inr (Or.inr (Or.inl ⟨188, by decide +kernel, rfl, mw_617⟩)))) ?_
    refine mj_all_cons 3 rfl (trivial) ?_
    refine mj_all_cons 4 rfl (show _ = _ from by decide +kernel) ?_
    refine mj_all_cons 5 rfl (trivial) ?_
    refine mj_all_cons 6 rfl (trivial) ?_
    refine mj_all_cons 7 rfl (Or.inl ⟨0, by decide +kernel, rfl, rfl⟩) ?_
    refine mj_all_cons 8 rfl (Or.inr (Or.inr (Or.inr (Or.inl ⟨189, by decide +kernel, rfl, mw_613⟩)))) ?_
    refine mj_all_cons 9 rfl (trivial) ?_
    refine mj_all_cons 10 rfl (show _ = _ from by decide +kernel) ?_
    refine mj_all_cons 11 rfl (trivial) ?_
    refine mj_all_cons 12 rfl (trivial) ?_
    refine mj_all_cons 13 rfl (Or.inl ⟨by decide +kernel, rfl⟩) ?_
    refine mj_all_cons 14 rfl (show _ = _ from by decide +kernel) ?_
    refine mj_all_cons 15 rfl (trivial) ?_
    refine mj_all_cons 16 rfl (trivial) ?_
    refine mj_all_cons 17 rfl (Or.inl ⟨by decide +kernel, rfl⟩) ?_
    refine mj_all_cons 18 rfl (show _ = _ from by decide +kernel) ?_
    exact trivial
  intro pc o ho
  have := mj_all_get _ 0 h pc o ho
  rw [Nat.zero_add] at this
  exact this
set_option maxRecDepth 100000 in
theorem mjci9 : ∀ (pc : Nat) (o : mj_O), mjco9[pc]? = some o → mj_is mj_kl mjcM9.1.cls mj_WS mj_NWs mjc_Ms mjcM9.2.1 pc o := by
  have h : mj_all (mj_is mj_kl mjcM9.1.cls mj_WS mj_NWs mjc_Ms mjcM9.2.1) 0 mjco9 := by
    unfold mjco9
    refine mj_all_cons 1 rfl (Or.inl ⟨0, by decide +kernel, rfl, rfl⟩) ?_
    refine mj_all_cons 2 rfl (Or.inr (Or.inr (Or.inr (Or.inl ⟨189, by decide +kernel, rfl, mw_613⟩)))) ?_
    refine mj_all_cons 3 rfl (trivial) ?_
    refine mj_all_cons 4 rfl (show _ = _ from by decide +kernel) ?_
    refine mj_all_cons 5 rfl (trivial) ?_
    refine mj_all_cons 6 rfl (trivial) ?_
    refine mj_all_cons 7 rfl (Or.inl ⟨by decide +kernel, rfl⟩) ?_
    refine mj_all_cons 8 rfl (show _ = _ from by decide +kernel) ?_
    refine mj_all_cons 9 rfl (trivial) ?_
    refine mj_all_cons 10 rfl (trivial) ?_
    refine mj_all_cons 11 rfl (Or.inl ⟨by decide +kernel, rfl⟩) ?_
    refine mj_all_cons 12 rfl (show _ = _ from by decide +kernel) ?_
    exact trivial
  intro pc o ho
  have := mj_all_get _ 0 h pc o ho
  rw [Nat.zero_add] at this
  exact this
set_option maxRecDepth 100000 in
theorem mjci10 : ∀ (pc : Nat) (o : mj_O), mjco10[pc]? = some o → mj_is mj_kl mjcM10.1.cls mj_WS mj_NWs mjc_Ms mjcM10.2.1 pc o := by
  have h : mj_all (mj_is mj_kl mjcM10.1.cls mj_WS mj_NWs mjc_Ms mjcM10.2.1) 0 mjco10 := by
    unfold mjco10
    refine mj_all_cons 1 rfl (Or.inl ⟨0, by decide +kernel, rfl, rfl⟩) ?_
    refine mj_all_cons 2 rfl (⟨31, "ListSpeaker$Symbols", mjF1, 3, by decide +kernel, rfl, by decide, mw_100, mjw1⟩) ?_
    refine mj_all_cons 3 rfl (trivial) ?_
    refine mj_all_cons 4 rfl (trivial) ?_
    refine mj_all_cons 5 rfl (show _ = _ from by decide +kernel) ?_
    exact trivial
  intro pc o ho
  have := mj_all_get _ 0 h pc o ho
  rw [Nat.zero_add] at this
  exact this
set_option maxRecDepth 100000 in
theorem mjci11 : ∀ (pc : Nat) (o : mj_O), mjco11[pc]? = some o → mj_is mj_kl mjcM11.1.cls mj_WS mj_NWs mjc_Ms mjcM11.2.1 pc o := by
  have h : mj_all (mj_is mj_kl mjcM11.1.cls mj_WS mj_NWs mjc_Ms mjcM11.2.1) 0 mjco11 := by
    unfold mjco11
    refine mj_all_cons 1 rfl (Or.inl ⟨1, by decide +kernel, rfl, rfl⟩) ?_
    refine mj_all_cons 2 rfl (Or.inr (Or.inr (Or.inr (Or.inl ⟨35, by decide +kernel, rfl, mw_90⟩)))) ?_
    refine mj_all_cons 3 rfl (trivial) ?_
    refine mj_all_cons 4 rfl (show _ = _ from by decide +kernel) ?_
    refine mj_all_cons 5 rfl (Or.inl ⟨2, by decide +kernel, rfl, rfl⟩) ?_
    refine mj_all_cons 6 rfl (Or.inl ⟨2, by decide +kernel, rfl, rfl⟩) ?_
    refine mj_all_cons 7 rfl (show _ = _ from by decide +kernel) ?_
    refine mj_all_cons 8 rfl (trivial) ?_
    refine mj_all_cons 9 rfl (trivial) ?_
    refine mj_all_cons 10 rfl (Or.inl ⟨2, by decide +kernel, rfl, rfl⟩) ?_
    refine mj_all_cons 11 rfl (Or.inl ⟨0, by decide +kernel, rfl, rfl⟩) ?_
    refine mj_all_cons 12 rfl (⟨31, "ListSpeaker$Symbols", mjF1, 3, by decide +kernel, rfl, by decide, mw_100, mjw1⟩) ?_
    refine mj_all_cons 13 rfl (trivial) ?_
    refine mj_all_cons 14 rfl (trivial) ?_
    refine mj_all_cons 15 rfl (show _ = _ from by decide +kernel) ?_
    refine mj_all_cons 16 rfl (trivial) ?_
    refine mj_all_cons 17 rfl (trivial) ?_
    refine mj_all_cons 18 rfl (Or.inl ⟨0, by decide +kernel, rfl, rfl⟩) ?_
    refine mj_all_cons 19 rfl (⟨15, "ListSpeaker$Symbols", mjF1, 3, by decide +kernel, rfl, by decide, mw_99, mjw1⟩) ?_
    refine mj_all_cons 20 rfl (trivial) ?_
    refine mj_all_cons 21 rfl (trivial) ?_
    refine mj_all_cons 22 rfl (Or.inl ⟨2, by decide +kernel, rfl, rfl⟩) ?_
    refine mj_all_cons 23 rfl (show _ = _ from by decide +kernel) ?_
    refine mj_all_cons 24 rfl (show _ = _ from by decide +kernel) ?_
    refine mj_all_cons 25 rfl (trivial) ?_
    refine mj_all_cons 26 rfl (trivial) ?_
    refine mj_all_cons 27 rfl (Or.inl ⟨by decide +kernel, rfl⟩) ?_
    refine mj_all_cons 28 rfl (show _ = _ from by decide +kernel) ?_
    exact trivial
  intro pc o ho
  have := mj_all_get _ 0 h pc o ho
  rw [Nat.zero_add] at this
  exact this
set_option maxRecDepth 100000 in
theorem mjci12 : ∀ (pc : Nat) (o : mj_O), mjco12[pc]? = some o → mj_is mj_kl mjcM12.1.cls mj_WS mj_NWs mjc_Ms mjcM12.2.1 pc o := by
  have h : mj_all (mj_is mj_kl mjcM12.1.cls mj_WS mj_NWs mjc_Ms mjcM12.2.1) 0 mjco12 := by
    unfold mjco12
    refine mj_all_cons 1 rfl (Or.inl ⟨1, by decide +kernel, rfl, rfl⟩) ?_
    refine mj_all_cons 2 rfl (Or.inr (Or.inr (Or.inr (Or.inl ⟨35, by decide +kernel, rfl, mw_90⟩)))) ?_
    refine mj_all_cons 3 rfl (trivial) ?_
    refine mj_all_cons 4 rfl (show _ = _ from by decide +kernel) ?_
    refine mj_all_cons 5 rfl (Or.inl ⟨3, by decide +kernel, rfl, rfl⟩) ?_
    refine mj_all_cons 6 rfl (Or.inl ⟨3, by decide +kernel, rfl, rfl⟩) ?_
    refine mj_all_cons 7 rfl (show _ = _ from by decide +kernel) ?_
    refine mj_all_cons 8 rfl (trivial) ?_
    refine mj_all_cons 9 rfl (trivial) ?_
    refine mj_all_cons 10 rfl (Or.inl ⟨3, by decide +kernel, rfl, rfl⟩) ?_
    refine mj_all_cons 11 rfl (Or.inl ⟨0, by decide +kernel, rfl, rfl⟩) ?_
    refine mj_all_cons 12 rfl (⟨31, "ListSpeaker$Symbols", mjF1, 3, by decide +kernel, rfl, by decide, mw_100, mjw1⟩) ?_
    refine mj_all_cons 13 rfl (trivial) ?_
    refine mj_all_cons 14 rfl (trivial) ?_
    refine mj_all_cons 15 rfl (show _ = _ from by decide +kernel) ?_
    refine mj_all_cons 16 rfl (trivial) ?_
    refine mj_all_cons 17 rfl (trivial) ?_
    refine mj_all_cons 18 rfl (Or.inl ⟨2, by decide +kernel, rfl, rfl⟩) ?_
    refine mj_all_cons 19 rfl (show _ = _ from by decide +kernel) ?_
    refine mj_all_cons 20 rfl (trivial) ?_
    refine mj_all_cons 21 rfl (trivial) ?_
    refine mj_all_cons 22 rfl (Or.inl ⟨2, by decide +kernel, rfl, rfl⟩) ?_
    refine mj_all_cons 23 rfl (Or.inr (Or.inl ⟨by decide +kernel, rfl, by decide⟩)) ?_
    refine mj_all_cons 24 rfl (trivial) ?_
    refine mj_all_cons 25 rfl (show _ = _ from by decide +kernel) ?_
    refine mj_all_cons 26 rfl (trivial) ?_
    refine mj_all_cons 27 rfl (trivial) ?_
    refine mj_all_cons 28 rfl (Or.inl ⟨by decide +kernel, rfl⟩) ?_
    refine mj_all_cons 29 rfl (show _ = _ from by decide +kernel) ?_
    refine mj_all_cons 30 rfl (trivial) ?_
    refine mj_all_cons 31 rfl (trivial) ?_
    refine mj_all_cons 32 rfl (Or.inl ⟨by decide +kernel, rfl⟩) ?_
    refine mj_all_cons 33 rfl (Or.inr ⟨by decide +kernel, rfl⟩) ?_
    refine mj_all_cons 34 rfl (trivial) ?_
    refine mj_all_cons 35 rfl (Or.inr ⟨by decide +kernel, rfl⟩) ?_
    refine mj_all_cons 36 rfl (trivial) ?_
    refine mj_all_cons 37 rfl (show _ = _ from by decide +kernel) ?_
    refine mj_all_cons 38 rfl (trivial) ?_
    refine mj_all_cons 39 rfl (trivial) ?_
    refine mj_all_cons 40 rfl (Or.inl ⟨0, by decide +kernel, rfl, rfl⟩) ?_
    refine mj_all_cons 41 rfl (⟨9, "ListSpeaker$Symbols", mjF1, 3, by decide +kernel, rfl, by decide, mw_98, mjw1⟩) ?_
    refine mj_all_cons 42 rfl (trivial) ?_
    refine mj_all_cons 43 rfl (trivial) ?_
    refine mj_all_cons 44 rfl (Or.inl ⟨3, by decide +kernel, rfl, rfl⟩) ?_
    refine mj_all_cons 45 rfl (Or.inr (Or.inl ⟨by decide +kernel, rfl, by decide⟩)) ?_
    refine mj_all_cons 46 rfl (trivial) ?_
    refine mj_all_cons 47 rfl (show _ = _ from by decide +kernel) ?_
    refine mj_all_cons 48 rfl (Or.inl ⟨2, by decide +kernel, rfl, rfl⟩) ?_
    refine mj_all_cons 49 rfl (show _ = _ from by decide +kernel) ?_
    refine mj_all_cons 50 rfl (show _ = _ from by decide +kernel) ?_
    refine mj_all_cons 51 rfl (show _ = _ from by decide +kernel) ?_
    refine mj_all_cons 52 rfl (trivial) ?_
    refine mj_all_cons 53 rfl (trivial) ?_
    refine mj_all_cons 54 rfl (Or.inr (Or.inl ⟨by decide +kernel, rfl, by decide⟩)) ?_
    refine mj_all_cons 55 rfl (trivial) ?_
    refine mj_all_cons 56 rfl (show _ = _ from by decide +kernel) ?_
    exact trivial
  intro pc o ho
  have := mj_all_get _ 0 h pc o ho
  rw [Nat.zero_add] at this
  exact this
set_option maxRecDepth 100000 in
theorem mjci13 : ∀ (pc : Nat) (o : mj_O), mjco13[pc]? = some o → mj_is mj_kl mjcM13.1.cls mj_WS mj_NWs mjc_Ms mjcM13.2.1 pc o := by
  have h : mj_all (mj_is mj_kl mjcM13.1.cls mj_WS mj_NWs mjc_Ms mjcM13.2.1) 0 mjco13 := by
    unfold mjco13
    refine mj_all_cons 1 rfl (Or.inl ⟨by decide +kernel, rfl⟩) ?_
    refine mj_all_cons 2 rfl (Or.inr ⟨by decide +kernel, rfl⟩) ?_
    refine mj_all_cons 3 rfl (trivial) ?_
    refine mj_all_cons 4 rfl (Or.inr ⟨by decide +kernel, rfl⟩) ?_
    refine mj_all_cons 5 rfl (trivial) ?_
    refine mj_all_cons 6 rfl (Or.inl ⟨0, by decide +kernel, rfl, rfl⟩) ?_
    refine mj_all_cons 7 rfl (⟨31, "ListSpeaker$Symbols", mjF1, 3, by decide +kernel, rfl, by decide, mw_100, mjw1⟩) ?_
    refine mj_all_cons 8 rfl (trivial) ?_
    refine mj_all_cons 9 rfl (trivial) ?_
    refine mj_all_cons 10 rfl (show _ = _ from by decide +kernel) ?_
    refine mj_all_cons 11 rfl (trivial) ?_
    refine mj_all_cons 12 rfl (trivial) ?_
    refine mj_all_cons 13 rfl (Or.inl ⟨0, by decide +kernel, rfl, rfl⟩) ?_
    refine mj_all_cons 14 rfl (Or.inr ⟨by decide +kernel, rfl⟩) ?_
    refine mj_all_cons 15 rfl (trivial) ?_
    refine mj_all_cons 16 rfl (Or.inl ⟨1, by decide +kernel, rfl, rfl⟩) ?_
    refine mj_all_cons 17 rfl (Or.inl ⟨2, by decide +kernel, rfl, rfl⟩) ?_
    refine mj_all_cons 18 rfl (Or.inl ⟨3, by decide +kernel, rfl, rfl⟩) ?_
    refine mj_all_cons 19 rfl (⟨mjcM14, 36, 4, rfl, by decide, mjcd14, mw_2, Or.inl ⟨1, mjF1, 3, by decide +kernel, rfl, rfl, rfl, mw_86, mw_88, mjsel_0⟩⟩) ?_
    refine mj_all_cons 20 rfl (trivial) ?_
    refine mj_all_cons 21 rfl (trivial) ?_
    refine mj_all_cons 22 rfl (show _ = _ from by decide +kernel) ?_
    refine mj_all_cons 23 rfl (trivial) ?_
    refine mj_all_cons 24 rfl (trivial) ?_
    refine mj_all_cons 25 rfl (Or.inr (Or.inr (Or.inr (Or.inl ⟨35, by decide +kernel, rfl, mw_90⟩)))) ?_
    refine mj_all_cons 26 rfl (trivial) ?_
    refine mj_all_cons 27 rfl (Or.inr ⟨by decide +kernel, rfl⟩) ?_
    refine mj_all_cons 28 rfl (trivial) ?_
    refine mj_all_cons 29 rfl (show _ = _ from by decide +kernel) ?_
    refine mj_all_cons 30 rfl (show _ = _ from by decide +kernel) ?_
    refine mj_all_cons 31 rfl (show _ = _ from by decide +kernel) ?_
    refine mj_all_cons 32 rfl (trivial) ?_
    refine mj_all_cons 33 rfl (trivial) ?_
    refine mj_all_cons 34 rfl (show _ = _ from by decide +kernel) ?_
    refine mj_all_cons 35 rfl (trivial) ?_
    refine mj_all_cons 36 rfl (trivial) ?_
    refine mj_all_cons 37 rfl (Or.inl ⟨0, by decide +kernel, rfl, rfl⟩) ?_
    refine mj_all_cons 38 rfl (Or.inl ⟨1, by decide +kernel, rfl, rfl⟩) ?_
    refine mj_all_cons 39 rfl (Or.inl ⟨2, by decide +kernel, rfl, rfl⟩) ?_
    refine mj_all_cons 40 rfl (Or.inl ⟨3, by decide +kernel, rfl, rfl⟩) ?_
    refine mj_all_cons 41 rfl (⟨mjcM15, 40, 3, rfl, by decide, mjcd15, mw_2, Or.inl ⟨1, mjF1, 3, by decide +kernel, rfl, rfl, rfl, mw_91, mw_93, mjsel_1⟩⟩) ?_
    refine mj_all_cons 42 rfl (trivial) ?_
    refine mj_all_cons 43 rfl (trivial) ?_
    refine mj_all_cons 44 rfl (show _ = _ from by decide +kernel) ?_
    exact trivial
  intro pc o ho
  have := mj_all_get _ 0 h pc o ho
  rw [Nat.zero_add] at this
  exact this
set_option maxRecDepth 100000 in
theorem mjci14 : ∀ (pc : Nat) (o : mj_O), mjco14[pc]? = some o → mj_is mj_kl mjcM14.1.cls mj_WS mj_NWs mjc_Ms mjcM14.2.1 pc o := by
  have h : mj_all (mj_is mj_kl mjcM14.1.cls mj_WS mj_NWs mjc_Ms mjcM14.2.1) 0 mjco14 := by
    unfold mjco14
    refine mj_all_cons 1 rfl (Or.inl ⟨0, by decide +kernel, rfl, rfl⟩) ?_
    refine mj_all_cons 2 rfl (⟨15, "ListSpeaker$Symbols", mjF1, 3, by decide +kernel, rfl, by decide, mw_99, mjw1⟩) ?_
    refine mj_all_cons 3 rfl (trivial) ?_
    refine mj_all_cons 4 rfl (trivial) ?_
    refine mj_all_cons 5 rfl (Or.inl ⟨1, by decide +kernel, rfl, rfl⟩) ?_
    refine mj_all_cons 6 rfl (show _ = _ from by decide +kernel) ?_
    refine mj_all_cons 7 rfl (Or.inr ⟨by decide +kernel, rfl⟩) ?_
    refine mj_all_cons 8 rfl (trivial) ?_
    refine mj_all_cons 9 rfl (show _ = _ from by decide +kernel) ?_
    refine mj_all_cons 10 rfl (trivial) ?_
    refine mj_all_cons 11 rfl (trivial) ?_
    refine mj_all_cons 12 rfl (Or.inl ⟨3, by decide +kernel, rfl, rfl⟩) ?_
    refine mj_all_cons 13 rfl (show _ = _ from by decide +kernel) ?_
    refine mj_all_cons 14 rfl (trivial) ?_
    refine mj_all_cons 15 rfl (trivial) ?_
    refine mj_all_cons 16 rfl (Or.inl ⟨3, by decide +kernel, rfl, rfl⟩) ?_
    refine mj_all_cons 17 rfl (Or.inr ⟨by decide +kernel, rfl⟩) ?_
    refine mj_all_cons 18 rfl (trivial) ?_
    refine mj_all_cons 19 rfl (show _ = _ from by decide +kernel) ?_
    refine mj_all_cons 20 rfl (Or.inl ⟨2, by decide +kernel, rfl, rfl⟩) ?_
    refine mj_all_cons 21 rfl (show _ = _ from by decide +kernel) ?_
    refine mj_all_cons 22 rfl (show _ = _ from by decide +kernel) ?_
    refine mj_all_cons 23 rfl (trivial) ?_
    refine mj_all_cons 24 rfl (trivial) ?_
    refine mj_all_cons 25 rfl (Or.inl ⟨by decide +kernel, rfl⟩) ?_
    refine mj_all_cons 26 rfl (show _ = _ from by decide +kernel) ?_
    refine mj_all_cons 27 rfl (Or.inl ⟨by decide +kernel, rfl⟩) ?_
    refine mj_all_cons 28 rfl (Or.inr ⟨by decide +kernel, rfl⟩) ?_
    refine mj_all_cons 29 rfl (trivial) ?_
    refine mj_all_cons 30 rfl (Or.inr ⟨by decide +kernel, rfl⟩) ?_
    refine mj_all_cons 31 rfl (trivial) ?_
    refine mj_all_cons 32 rfl (Or.inr ⟨by decide +kernel, rfl⟩) ?_
    refine mj_all_cons 33 rfl (trivial) ?_
    refine mj_all_cons 34 rfl (show _ = _ from by decide +kernel) ?_
    refine mj_all_cons 35 rfl (trivial) ?_
    refine mj_all_cons 36 rfl (trivial) ?_
    refine mj_all_cons 37 rfl (Or.inl ⟨0, by decide +kernel, rfl, rfl⟩) ?_
    refine mj_all_cons 38 rfl (⟨9, "ListSpeaker$Symbols", mjF1, 3, by decide +kernel, rfl, by decide, mw_98, mjw1⟩) ?_
    refine mj_all_cons 39 rfl (trivial) ?_
    refine mj_all_cons 40 rfl (trivial) ?_
    refine mj_all_cons 41 rfl (Or.inl ⟨1, by decide +kernel, rfl, rfl⟩) ?_
    refine mj_all_cons 42 rfl (Or.inr (Or.inl ⟨by decide +kernel, rfl, by decide⟩)) ?_
    refine mj_all_cons 43 rfl (trivial) ?_
    refine mj_all_cons 44 rfl (show _ = _ from by decide +kernel) ?_
    refine mj_all_cons 45 rfl (Or.inr ⟨by decide +kernel, rfl⟩) ?_
    refine mj_all_cons 46 rfl (trivial) ?_
    refine mj_all_cons 47 rfl (show _ = _ from by decide +kernel) ?_
    refine mj_all_cons 48 rfl (show _ = _ from by decide +kernel) ?_
    refine mj_all_cons 49 rfl (Or.inl ⟨2, by decide +kernel, rfl, rfl⟩) ?_
    refine mj_all_cons 50 rfl (Or.inl ⟨3, by decide +kernel, rfl, rfl⟩) ?_
    refine mj_all_cons 51 rfl (Or.inr ⟨by decide +kernel, rfl⟩) ?_
    refine mj_all_cons 52 rfl (trivial) ?_
    refine mj_all_cons 53 rfl (show _ = _ from by decide +kernel) ?_
    refine mj_all_cons 54 rfl (show _ = _ from by decide +kernel) ?_
    refine mj_all_cons 55 rfl (show _ = _ from by decide +kernel) ?_
    refine mj_all_cons 56 rfl (trivial) ?_
    refine mj_all_cons 57 rfl (trivial) ?_
    refine mj_all_cons 58 rfl (Or.inl ⟨by decide +kernel, rfl⟩) ?_
    refine mj_all_cons 59 rfl (show _ = _ from by decide +kernel) ?_
    refine mj_all_cons 60 rfl (show _ = _ from by decide +kernel) ?_
    refine mj_all_cons 61 rfl (trivial) ?_
    refine mj_all_cons 62 rfl (trivial) ?_
    refine mj_all_cons 63 rfl (show _ = _ from by decide +kernel) ?_
    refine mj_all_cons 64 rfl (trivial) ?_
    refine mj_all_cons 65 rfl (trivial) ?_
    refine mj_all_cons 66 rfl (Or.inl ⟨by decide +kernel, rfl⟩) ?_
    refine mj_all_cons 67 rfl (show _ = _ from by decide +kernel) ?_
    exact trivial
  intro pc o ho
  have := mj_all_get _ 0 h pc o ho
  rw [Nat.zero_add] at this
  exact this
set_option maxRecDepth 100000 in
theorem mjci15 : ∀ (pc : Nat) (o : mj_O), mjco15[pc]? = some o → mj_is mj_kl mjcM15.1.cls mj_WS mj_NWs mjc_Ms mjcM15.2.1 pc o := by
  have h : mj_all (mj_is mj_kl mjcM15.1.cls mj_WS mj_NWs mjc_Ms mjcM15.2.1) 0 mjco15 := by
    unfold mjco15
    refine mj_all_cons 1 rfl (Or.inl ⟨3, by decide +kernel, rfl, rfl⟩) ?_
    refine mj_all_cons 2 rfl (Or.inl ⟨by decide +kernel, rfl⟩) ?_
    refine mj_all_cons 3 rfl (show _ = _ from by decide +kernel) ?_
    refine mj_all_cons 4 rfl (trivial) ?_
    refine mj_all_cons 5 rfl (trivial) ?_
    refine mj_all_cons 6 rfl (Or.inl ⟨3, by decide +kernel, rfl, rfl⟩) ?_
    refine mj_all_cons 7 rfl (Or.inr (Or.inl ⟨by decide +kernel, rfl, by decide⟩)) ?_
    refine mj_all_cons 8 rfl (trivial) ?_
    refine mj_all_cons 9 rfl (show _ = _ from by decide +kernel) ?_
    refine mj_all_cons 10 rfl (trivial) ?_
    refine mj_all_cons 11 rfl (trivial) ?_
    refine mj_all_cons 12 rfl (Or.inl ⟨2, by decide +kernel, rfl, rfl⟩) ?_
    refine mj_all_cons 13 rfl (show _ = _ from by decide +kernel) ?_
    refine mj_all_cons 14 rfl (trivial) ?_
    refine mj_all_cons 15 rfl (trivial) ?_
    refine mj_all_cons 16 rfl (Or.inl ⟨2, by decide +kernel, rfl, rfl⟩) ?_
    refine mj_all_cons 17 rfl (Or.inl ⟨3, by decide +kernel, rfl, rfl⟩) ?_
    refine mj_all_cons 18 rfl (show _ = _ from by decide +kernel) ?_
    refine mj_all_cons 19 rfl (Or.inl ⟨1, by decide +kernel, rfl, rfl⟩) ?_
    refine mj_all_cons 20 rfl (show _ = _ from by decide +kernel) ?_
    refine mj_all_cons 21 rfl (show _ = _ from by decide +kernel) ?_
    refine mj_all_cons 22 rfl (trivial) ?_
    refine mj_all_cons 23 rfl (trivial) ?_
    refine mj_all_cons 24 rfl (Or.inl ⟨by decide +kernel, rfl⟩) ?_
    refine mj_all_cons 25 rfl (show _ = _ from by decide +kernel) ?_
    refine mj_all_cons 26 rfl (Or.inl ⟨0, by decide +kernel, rfl, rfl⟩) ?_
    refine mj_all_cons 27 rfl (⟨31, "ListSpeaker$Symbols", mjF1, 3, by decide +kernel, rfl, by decide, mw_100, mjw1⟩) ?_
    refine mj_all_cons 28 rfl (trivial) ?_
    refine mj_all_cons 29 rfl (trivial) ?_
    refine mj_all_cons 30 rfl (Or.inr (Or.inl ⟨by decide +kernel, rfl, by decide⟩)) ?_
    refine mj_all_cons 31 rfl (trivial) ?_
    refine mj_all_cons 32 rfl (show _ = _ from by decide +kernel) ?_
    refine mj_all_cons 33 rfl (trivial) ?_
    refine mj_all_cons 34 rfl (trivial) ?_
    refine mj_all_cons 35 rfl (Or.inr (Or.inl ⟨by decide +kernel, rfl, by decide⟩)) ?_
    refine mj_all_cons 36 rfl (trivial) ?_
    refine mj_all_cons 37 rfl (show _ = _ from by decide +kernel) ?_
    refine mj_all_cons 38 rfl (Or.inl ⟨1, by decide +kernel, rfl, rfl⟩) ?_
    refine mj_all_cons 39 rfl (Or.inl ⟨2, by decide +kernel, rfl, rfl⟩) ?_
    refine mj_all_cons 40 rfl (Or.inl ⟨0, by decide +kernel, rfl, rfl⟩) ?_
    refine mj_all_cons 41 rfl (⟨9, "ListSpeaker$Symbols", mjF1, 3, by decide +kernel, rfl, by decide, mw_98, mjw1⟩) ?_
    refine mj_all_cons 42 rfl (trivial) ?_
    refine mj_all_cons 43 rfl (trivial) ?_
    refine mj_all_cons 44 rfl (Or.inl ⟨0, by decide +kernel, rfl, rfl⟩) ?_
    refine mj_all_cons 45 rfl (⟨31, "ListSpeaker$Symbols", mjF1, 3, by decide +kernel, rfl, by decide, mw_100, mjw1⟩) ?_
    refine mj_all_cons 46 rfl (trivial) ?_
    refine mj_all_cons 47 rfl (trivial) ?_
    refine mj_all_cons 48 rfl (Or.inr (Or.inl ⟨by decide +kernel, rfl, by decide⟩)) ?_
    refine mj_all_cons 49 rfl (trivial) ?_
    refine mj_all_cons 50 rfl (show _ = _ from by decide +kernel) ?_
    refine mj_all_cons 51 rfl (Or.inl ⟨3, by decide +kernel, rfl, rfl⟩) ?_
    refine mj_all_cons 52 rfl (⟨43, by decide +kernel, mw_95, mw_97, mw_96, mw_7⟩) ?_
    refine mj_all_cons 53 rfl (trivial) ?_
    refine mj_all_cons 54 rfl (trivial) ?_
    refine mj_all_cons 55 rfl (Or.inl ⟨0, by decide +kernel, rfl, rfl⟩) ?_
    refine mj_all_cons 56 rfl (⟨15, "ListSpeaker$Symbols", mjF1, 3, by decide +kernel, rfl, by decide, mw_99, mjw1⟩) ?_
    refine mj_all_cons 57 rfl (trivial) ?_
    refine mj_all_cons 58 rfl (trivial) ?_
    refine mj_all_cons 59 rfl (Or.inl ⟨0, by decide +kernel, rfl, rfl⟩) ?_
    refine mj_all_cons 60 rfl (⟨31, "ListSpeaker$Symbols", mjF1, 3, by decide +kernel, rfl, by decide, mw_100, mjw1⟩) ?_
    refine mj_all_cons 61 rfl (trivial) ?_
    refine mj_all_cons 62 rfl (trivial) ?_
    refine mj_all_cons 63 rfl (Or.inl ⟨3, by decide +kernel, rfl, rfl⟩) ?_
    refine mj_all_cons 64 rfl (show _ = _ from by decide +kernel) ?_
    refine mj_all_cons 65 rfl (Or.inl ⟨0, by decide +kernel, rfl, rfl⟩) ?_
    refine mj_all_cons 66 rfl (show _ = _ from by decide +kernel) ?_
    refine mj_all_cons 67 rfl (⟨31, "ListSpeaker$Symbols", mjF1, 3, by decide +kernel, rfl, by decide, mw_100, mjw1⟩) ?_
    refine mj_all_cons 68 rfl (trivial) ?_
    refine mj_all_cons 69 rfl (trivial) ?_
    refine mj_all_cons 70 rfl (Or.inl ⟨by decide +kernel, rfl⟩) ?_
    refine mj_all_cons 71 rfl (show _ = _ from by decide +kernel) ?_
    refine mj_all_cons 72 rfl (⟨31, "ListSpeaker$Symbols", mjF1, 3, mjt1, by decide +kernel, rfl, by decide, mw_100, mjw1, mjk1, mjn1, rfl, by decide +kernel⟩) ?_
    refine mj_all_cons 73 rfl (trivial) ?_
    refine mj_all_cons 74 rfl (trivial) ?_
    refine mj_all_cons 75 rfl (Or.inr (Or.inr (Or.inr (Or.inl ⟨35, by decide +kernel, rfl, mw_90⟩)))) ?_
    refine mj_all_cons 76 rfl (trivial) ?_
    refine mj_all_cons 77 rfl (Or.inl ⟨0, by decide +kernel, rfl, rfl⟩) ?_
    refine mj_all_cons 78 rfl (⟨31, "ListSpeaker$Symbols", mjF1, 3, by decide +kernel, rfl, by decide, mw_100, mjw1⟩) ?_
    refine mj_all_cons 79 rfl (trivial) ?_
    refine mj_all_cons 80 rfl (trivial) ?_
    refine mj_all_cons 81 rfl (show _ = _ from by decide +kernel) ?_
    refine mj_all_cons 82 rfl (Or.inl ⟨by decide +kernel, rfl⟩) ?_
    refine mj_all_cons 83 rfl (show _ = _ from by decide +kernel) ?_
    refine mj_all_cons 84 rfl (show _ = _ from by decide +kernel) ?_
    exact trivial
  intro pc o ho
  have := mj_all_get _ 0 h pc o ho
  rw [Nat.zero_add] at this
  exact this
set_option maxRecDepth 100000 in
theorem mjci16 : ∀ (pc : Nat) (o : mj_O), mjco16[pc]? = some o → mj_is mj_kl mjcM16.1.cls mj_WS mj_NWs mjc_Ms mjcM16.2.1 pc o := by
  have h : mj_all (mj_is mj_kl mjcM16.1.cls mj_WS mj_NWs mjc_Ms mjcM16.2.1) 0 mjco16 := by
    unfold mjco16
    refine mj_all_cons 1 rfl (Or.inl ⟨0, by decide +kernel, rfl, rfl⟩) ?_
    refine mj_all_cons 2 rfl (⟨41, "ListSpeaker$Pairs", mjF2, 12, by decide +kernel, rfl, by decide, mw_131, mjw2⟩) ?_
    refine mj_all_cons 3 rfl (trivial) ?_
    refine mj_all_cons 4 rfl (trivial) ?_
    refine mj_all_cons 5 rfl (show _ = _ from by decide +kernel) ?_
    exact trivial
  intro pc o ho
  have := mj_all_get _ 0 h pc o ho
  rw [Nat.zero_add] at this
  exact this
set_option maxRecDepth 100000 in
theorem mjci17 : ∀ (pc : Nat) (o : mj_O), mjco17[pc]? = some o → mj_is mj_kl mjcM17.1.cls mj_WS mj_NWs mjc_Ms mjcM17.2.1 pc o := by
  have h : mj_all (mj_is mj_kl mjcM17.1.cls mj_WS mj_NWs mjc_Ms mjcM17.2.1) 0 mjco17 := by
    unfold mjco17
    refine mj_all_cons 1 rfl (Or.inl ⟨0, by decide +kernel, rfl, rfl⟩) ?_
    refine mj_all_cons 2 rfl (⟨34, "ListSpeaker$Pairs", mjF2, 12, by decide +kernel, rfl, by decide, mw_123, mjw2⟩) ?_
    refine mj_all_cons 3 rfl (trivial) ?_
    refine mj_all_cons 4 rfl (trivial) ?_
    refine mj_all_cons 5 rfl (Or.inl ⟨0, by decide +kernel, rfl, rfl⟩) ?_
    refine mj_all_cons 6 rfl (⟨38, "ListSpeaker$Pairs", mjF2, 12, by decide +kernel, rfl, by decide, mw_132, mjw2⟩) ?_
    refine mj_all_cons 7 rfl (trivial) ?_
    refine mj_all_cons 8 rfl (trivial) ?_
    refine mj_all_cons 9 rfl (show _ = _ from by decide +kernel) ?_
    refine mj_all_cons 10 rfl (show _ = _ from by decide +kernel) ?_
    exact trivial
  intro pc o ho
  have := mj_all_get _ 0 h pc o ho
  rw [Nat.zero_add] at this
  exact this
set_option maxRecDepth 100000 in
theorem mjci18 : ∀ (pc : Nat) (o : mj_O), mjco18[pc]? = some o → mj_is mj_kl mjcM18.1.cls mj_WS mj_NWs mjc_Ms mjcM18.2.1 pc o := by
  have h : mj_all (mj_is mj_kl mjcM18.1.cls mj_WS mj_NWs mjc_Ms mjcM18.2.1) 0 mjco18 := by
    unfold mjco18
    refine mj_all_cons 1 rfl (Or.inl ⟨0, by decide +kernel, rfl, rfl⟩) ?_
    refine mj_all_cons 2 rfl (⟨44, "ListSpeaker$Pairs", mjF2, 12, by decide +kernel, rfl, by decide, mw_133, mjw2⟩) ?_
    refine mj_all_cons 3 rfl (trivial) ?_
    refine mj_all_cons 4 rfl (trivial) ?_
    refine mj_all_cons 5 rfl (show _ = _ from by decide +kernel) ?_
    exact trivial
  intro pc o ho
  have := mj_all_get _ 0 h pc o ho
  rw [Nat.zero_add] at this
  exact this
set_option maxRecDepth 100000 in
theorem mjci19 : ∀ (pc : Nat) (o : mj_O), mjco19[pc]? = some o → mj_is mj_kl mjcM19.1.cls mj_WS mj_NWs mjc_Ms mjcM19.2.1 pc o := by
  have h : mj_all (mj_is mj_kl mjcM19.1.cls mj_WS mj_NWs mjc_Ms mjcM19.2.1) 0 mjco19 := by
    unfold mjco19
    refine mj_all_cons 1 rfl (Or.inl ⟨0, by decide +kernel, rfl, rfl⟩) ?_
    refine mj_all_cons 2 rfl (⟨47, "ListSpeaker$Pairs", mjF2, 12, by decide +kernel, rfl, by decide, mw_134, mjw2⟩) ?_
    refine mj_all_cons 3 rfl (trivial) ?_
    refine mj_all_cons 4 rfl (trivial) ?_
    refine mj_all_cons 5 rfl (show _ = _ from by decide +kernel) ?_
    exact trivial
  intro pc o ho
  have := mj_all_get _ 0 h pc o ho
  rw [Nat.zero_add] at this
  exact this
set_option maxRecDepth 100000 in
theorem mjci20 : ∀ (pc : Nat) (o : mj_O), mjco20[pc]? = some o → mj_is mj_kl mjcM20.1.cls mj_WS mj_NWs mjc_Ms mjcM20.2.1 pc o := by
  have h : mj_all (mj_is mj_kl mjcM20.1.cls mj_WS mj_NWs mjc_Ms mjcM20.2.1) 0 mjco20 := by
    unfold mjco20
    refine mj_all_cons 1 rfl (Or.inl ⟨1, by decide +kernel, rfl, rfl⟩) ?_
    refine mj_all_cons 2 rfl (Or.inr (Or.inr (Or.inr (Or.inl ⟨50, by decide +kernel, rfl, mw_547⟩)))) ?_
    refine mj_all_cons 3 rfl (trivial) ?_
    refine mj_all_cons 4 rfl (show _ = _ from by decide +kernel) ?_
    refine mj_all_cons 5 rfl (Or.inl ⟨2, by decide +kernel, rfl, rfl⟩) ?_
    refine mj_all_cons 6 rfl (Or.inl ⟨2, by decide +kernel, rfl, rfl⟩) ?_
    refine mj_all_cons 7 rfl (show _ = _ from by decide +kernel) ?_
    refine mj_all_cons 8 rfl (trivial) ?_
    refine mj_all_cons 9 rfl (trivial) ?_
    refine mj_all_cons 10 rfl (Or.inl ⟨2, by decide +kernel, rfl, rfl⟩) ?_
    refine mj_all_cons 11 rfl (Or.inl ⟨0, by decide +kernel, rfl, rfl⟩) ?_
    refine mj_all_cons 12 rfl (⟨9, "ListSpeaker$Pairs", mjF2, 12, by decide +kernel, rfl, by decide, mw_124, mjw2⟩) ?_
    refine mj_all_cons 13 rfl (trivial) ?_
    refine mj_all_cons 14 rfl (trivial) ?_
    refine mj_all_cons 15 rfl (show _ = _ from by decide +kernel) ?_
    refine mj_all_cons 16 rfl (show _ = _ from by decide +kernel) ?_
    refine mj_all_cons 17 rfl (trivial) ?_
    refine mj_all_cons 18 rfl (trivial) ?_
    refine mj_all_cons 19 rfl (Or.inl ⟨0, by decide +kernel, rfl, rfl⟩) ?_
    refine mj_all_cons 20 rfl (⟨9, "ListSpeaker$Pairs", mjF2, 12, by decide +kernel, rfl, by decide, mw_124, mjw2⟩) ?_
    refine mj_all_cons 21 rfl (trivial) ?_
    refine mj_all_cons 22 rfl (trivial) ?_
    refine mj_all_cons 23 rfl (Or.inl ⟨2, by decide +kernel, rfl, rfl⟩) ?_
    refine mj_all_cons 24 rfl (show _ = _ from by decide +kernel) ?_
    refine mj_all_cons 25 rfl (show _ = _ from by decide +kernel) ?_
    refine mj_all_cons 26 rfl (trivial) ?_
    refine mj_all_cons 27 rfl (trivial) ?_
    refine mj_all_cons 28 rfl (Or.inr (Or.inr (Or.inr (Or.inl ⟨51, by decide +kernel, rfl, mw_591⟩)))) ?_
    refine mj_all_cons 29 rfl (trivial) ?_
    refine mj_all_cons 30 rfl (show _ = _ from by decide +kernel) ?_
    exact trivial
  intro pc o ho
  have := mj_all_get _ 0 h pc o ho
  rw [Nat.zero_add] at this
  exact this
set_option maxRecDepth 100000 in
theorem mjci21 : ∀ (pc : Nat) (o : mj_O), mjco21[pc]? = some o → mj_is mj_kl mjcM21.1.cls mj_WS mj_NWs mjc_Ms mjcM21.2.1 pc o := by
  have h : mj_all (mj_is mj_kl mjcM21.1.cls mj_WS mj_NWs mjc_Ms mjcM21.2.1) 0 mjco21 := by
    unfold mjco21
    refine mj_all_cons 1 rfl (Or.inl ⟨1, by decide +kernel, rfl, rfl⟩) ?_
    refine mj_all_cons 2 rfl (Or.inr (Or.inr (Or.inr (Or.inl ⟨50, by decide +kernel, rfl, mw_547⟩)))) ?_
    refine mj_all_cons 3 rfl (trivial) ?_
    refine mj_all_cons 4 rfl (show _ = _ from by decide +kernel) ?_
    refine mj_all_cons 5 rfl (Or.inl ⟨2, by decide +kernel, rfl, rfl⟩) ?_
    refine mj_all_cons 6 rfl (Or.inl ⟨2, by decide +kernel, rfl, rfl⟩) ?_
    refine mj_all_cons 7 rfl (show _ = _ from by decide +kernel) ?_
    refine mj_all_cons 8 rfl (trivial) ?_
    refine mj_all_cons 9 rfl (trivial) ?_
    refine mj_all_cons 10 rfl (Or.inl ⟨2, by decide +kernel, rfl, rfl⟩) ?_
    refine mj_all_cons 11 rfl (Or.inl ⟨0, by decide +kernel, rfl, rfl⟩) ?_
    refine mj_all_cons 12 rfl (⟨15, "ListSpeaker$Pairs", mjF2, 12, by decide +kernel, rfl, by decide, mw_125, mjw2⟩) ?_
    refine mj_all_cons 13 rfl (trivial) ?_
    refine mj_all_cons 14 rfl (trivial) ?_
    refine mj_all_cons 15 rfl (show _ = _ from by decide +kernel) ?_
    refine mj_all_cons 16 rfl (show _ = _ from by decide +kernel) ?_
    refine mj_all_cons 17 rfl (trivial) ?_
    refine mj_all_cons 18 rfl (trivial) ?_
    refine mj_all_cons 19 rfl (Or.inl ⟨0, by decide +kernel, rfl, rfl⟩) ?_
    refine mj_all_cons 20 rfl (⟨15, "ListSpeaker$Pairs", mjF2, 12, by decide +kernel, rfl, by decide, mw_125, mjw2⟩) ?_
    refine mj_all_cons 21 rfl (trivial) ?_
    refine mj_all_cons 22 rfl (trivial) ?_
    refine mj_all_cons 23 rfl (Or.inl ⟨2, by decide +kernel, rfl, rfl⟩) ?_
    refine mj_all_cons 24 rfl (show _ = _ from by decide +kernel) ?_
    refine mj_all_cons 25 rfl (show _ = _ from by decide +kernel) ?_
    refine mj_all_cons 26 rfl (trivial) ?_
    refine mj_all_cons 27 rfl (trivial) ?_
    refine mj_all_cons 28 rfl (Or.inr (Or.inr (Or.inr (Or.inl ⟨51, by decide +kernel, rfl, mw_591⟩)))) ?_
    refine mj_all_cons 29 rfl (trivial) ?_
    refine mj_all_cons 30 rfl (show _ = _ from by decide +kernel) ?_
    exact trivial
  intro pc o ho
  have := mj_all_get _ 0 h pc o ho
  rw [Nat.zero_add] at this
  exact this
