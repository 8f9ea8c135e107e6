set_option maxRecDepth 100000 in
theorem mjpi0 : ∀ (pc : Nat) (o : mj_O), mjpo0[pc]? = some o → mj_is mj_kl mjpM0.1.cls mj_WS mj_NWs mjp_Ms mjpM0.2.1 pc o := by
  have h : mj_all (mj_is mj_kl mjpM0.1.cls mj_WS mj_NWs mjp_Ms mjpM0.2.1) 0 mjpo0 := by
    unfold mjpo0
    refine mj_all_cons 1 rfl (trivial) ?_
    refine mj_all_cons 2 rfl (trivial) ?_
    refine mj_all_cons 3 rfl (trivial) ?_
    refine mj_all_cons 4 rfl (trivial) ?_
    refine mj_all_cons 5 rfl (trivial) ?_
    refine mj_all_cons 6 rfl (trivial) ?_
    refine mj_all_cons 7 rfl (trivial) ?_
    refine mj_all_cons 8 rfl (trivial) ?_
    refine mj_all_cons 9 rfl (trivial) ?_
    refine mj_all_cons 10 rfl (trivial) ?_
    refine mj_all_cons 11 rfl (trivial) ?_
    refine mj_all_cons 12 rfl (trivial) ?_
    refine mj_all_cons 13 rfl (trivial) ?_
    refine mj_all_cons 14 rfl (trivial) ?_
    refine mj_all_cons 15 rfl (trivial) ?_
    refine mj_all_cons 16 rfl (trivial) ?_
    refine mj_all_cons 17 rfl (trivial) ?_
    refine mj_all_cons 18 rfl (trivial) ?_
    refine mj_all_cons 19 rfl (trivial) ?_
    refine mj_all_cons 20 rfl (trivial) ?_
    refine mj_all_cons 21 rfl (trivial) ?_
    refine mj_all_cons 22 rfl (trivial) ?_
    refine mj_all_cons 23 rfl (trivial) ?_
    refine mj_all_cons 24 rfl (trivial) ?_
    refine mj_all_cons 25 rfl (trivial) ?_
    refine mj_all_cons 26 rfl (trivial) ?_
    refine mj_all_cons 27 rfl (trivial) ?_
    refine mj_all_cons 28 rfl (trivial) ?_
    refine mj_all_cons 29 rfl (trivial) ?_
    refine mj_all_cons 30 rfl (trivial) ?_
    refine mj_all_cons 31 rfl (trivial) ?_
    refine mj_all_cons 32 rfl (trivial) ?_
    refine mj_all_cons 33 rfl (trivial) ?_
    refine mj_all_cons 34 rfl (trivial) ?_
    refine mj_all_cons 35 rfl (trivial) ?_
    refine mj_all_cons 36 rfl (trivial) ?_
    refine mj_all_cons 37 rfl (trivial) ?_
    refine mj_all_cons 38 rfl (trivial) ?_
    refine mj_all_cons 39 rfl (trivial) ?_
    refine mj_all_cons 40 rfl (trivial) ?_
    refine mj_all_cons 41 rfl (trivial) ?_
    refine mj_all_cons 42 rfl (trivial) ?_
    refine mj_all_cons 43 rfl (trivial) ?_
    refine mj_all_cons 44 rfl (trivial) ?_
    refine mj_all_cons 45 rfl (trivial) ?_
    refine mj_all_cons 46 rfl (trivial) ?_
    refine mj_all_cons 47 rfl (trivial) ?_
    refine mj_all_cons 48 rfl (trivial) ?_
    refine mj_all_cons 49 rfl (trivial) ?_
    refine mj_all_cons 50 rfl (trivial) ?_
    refine mj_all_cons 51 rfl (trivial) ?_
    refine mj_all_cons 52 rfl (trivial) ?_
    refine mj_all_cons 53 rfl (trivial) ?_
    refine mj_all_cons 54 rfl (trivial) ?_
    refine mj_all_cons 55 rfl (trivial) ?_
    refine mj_all_cons 56 rfl (trivial) ?_
    refine mj_all_cons 57 rfl (trivial) ?_
    refine mj_all_cons 58 rfl (trivial) ?_
    refine mj_all_cons 59 rfl (trivial) ?_
    refine mj_all_cons 60 rfl (trivial) ?_
    refine mj_all_cons 61 rfl (trivial) ?_
    refine mj_all_cons 62 rfl (trivial) ?_
    refine mj_all_cons 63 rfl (trivial) ?_
    refine mj_all_cons 64 rfl (trivial) ?_
    refine mj_all_cons 65 rfl (trivial) ?_
    refine mj_all_cons 66 rfl (trivial) ?_
    refine mj_all_cons 67 rfl (trivial) ?_
    refine mj_all_cons 68 rfl (trivial) ?_
    refine mj_all_cons 69 rfl (trivial) ?_
    refine mj_all_cons 70 rfl (trivial) ?_
    refine mj_all_cons 71 rfl (trivial) ?_
    refine mj_all_cons 72 rfl (trivial) ?_
    refine mj_all_cons 73 rfl (Or.inl ⟨by decide +kernel, rfl⟩) ?_
    refine mj_all_cons 74 rfl (Or.inl ⟨2, by decide +kernel, rfl, rfl⟩) ?_
    refine mj_all_cons 75 rfl (Or.inl ⟨2, by decide +kernel, rfl, rfl⟩) ?_
    refine mj_all_cons 76 rfl (Or.inl ⟨1, by decide +kernel, rfl, rfl⟩) ?_
    refine mj_all_cons 77 rfl (show _ = _ from by decide +kernel) ?_
    refine mj_all_cons 78 rfl (trivial) ?_
    refine mj_all_cons 79 rfl (trivial) ?_
    refine mj_all_cons 80 rfl (Or.inl ⟨2, by decide +kernel, rfl, rfl⟩) ?_
    refine mj_all_cons 81 rfl (Or.inr (Or.inr (Or.inl ⟨by decide +kernel, rfl, by decide⟩))) ?_
    refine mj_all_cons 82 rfl (trivial) ?_
    refine mj_all_cons 83 rfl (trivial) ?_
    refine mj_all_cons 84 rfl (show _ = _ from by decide +kernel) ?_
    refine mj_all_cons 85 rfl (trivial) ?_
    refine mj_all_cons 86 rfl (trivial) ?_
    refine mj_all_cons 87 rfl (Or.inl ⟨0, by decide +kernel, rfl, rfl⟩) ?_
    refine mj_all_cons 88 rfl (⟨18, "ListSpeaker$Pairs", mjF2, 12, by decide +kernel, rfl, by decide, mw_126, mjw2⟩) ?_
    refine mj_all_cons 89 rfl (trivial) ?_
    refine mj_all_cons 90 rfl (trivial) ?_
    refine mj_all_cons 91 rfl (Or.inl ⟨2, by decide +kernel, rfl, rfl⟩) ?_
    refine mj_all_cons 92 rfl (Or.inl ⟨2, by decide +kernel, rfl, rfl⟩) ?_
    refine mj_all_cons 93 rfl (show _ = _ from by decide +kernel) ?_
    refine mj_all_cons 94 rfl (Or.inl ⟨0, by decide +kernel, rfl, rfl⟩) ?_
    refine mj_all_cons 95 rfl (show _ = _ from by decide +kernel) ?_
    refine mj_all_cons 96 rfl (⟨38, "ListSpeaker$Pairs", mjF2, 12, by decide +kernel, rfl, by decide, mw_132, mjw2⟩) ?_
    refine mj_all_cons 97 rfl (trivial) ?_
    refine mj_all_cons 98 rfl (trivial) ?_
    refine mj_all_cons 99 rfl (Or.inl ⟨by decide +kernel, rfl⟩) ?_
    refine mj_all_cons 100 rfl (show _ = _ from by decide +kernel) ?_
    refine mj_all_cons 101 rfl (⟨38, "ListSpeaker$Pairs", mjF2, 12, mjt2, by decide +kernel, rfl, by decide, mw_132, mjw2, mjk2, mjn2, rfl, by decide +kernel⟩) ?_
    refine mj_all_cons 102 rfl (trivial) ?_
    refine mj_all_cons 103 rfl (trivial) ?_
    refine mj_all_cons 104 rfl (show _ = _ from by decide +kernel) ?_
    refine mj_all_cons 105 rfl (trivial) ?_
    refine mj_all_cons 106 rfl (trivial) ?_
    refine mj_all_cons 107 rfl (show _ = _ from by decide +kernel) ?_
    refine mj_all_cons 108 rfl (trivial) ?_
    refine mj_all_cons 109 rfl (trivial) ?_
    refine mj_all_cons 110 rfl (show _ = _ from by decide +kernel) ?_
    exact trivial
  intro pc o ho
  have := mj_all_get _ 0 h pc o ho
  rw [Nat.zero_add] at this
  exact this
