set_option maxRecDepth 100000 in
theorem mjmi28 : ∀ (pc : Nat) (o : mj_O), mjmo28[pc]? = some o → mj_is mj_kl mjmM28.1.cls mj_WS mj_NWs mjm_Ms mjmM28.2.1 pc o := by
  have h : mj_all (mj_is mj_kl mjmM28.1.cls mj_WS mj_NWs mjm_Ms mjmM28.2.1) 0 mjmo28 := by
    unfold mjmo28
    refine mj_all_cons 1 rfl (Or.inl ⟨1, by decide +kernel, rfl, rfl⟩) ?_
    refine mj_all_cons 2 rfl (Or.inl ⟨2, by decide +kernel, rfl, rfl⟩) ?_
    refine mj_all_cons 3 rfl (Or.inl ⟨2, by decide +kernel, rfl, rfl⟩) ?_
    refine mj_all_cons 4 rfl (⟨mjmM3, 103, 1, rfl, by decide, mjmd3, mw_16, Or.inr (Or.inl ⟨by decide +kernel, rfl, rfl, mw_1194, mw_1195⟩)⟩) ?_
    refine mj_all_cons 5 rfl (trivial) ?_
    refine mj_all_cons 6 rfl (trivial) ?_
    refine mj_all_cons 7 rfl (show _ = _ from by decide +kernel) ?_
    refine mj_all_cons 8 rfl (trivial) ?_
    refine mj_all_cons 9 rfl (trivial) ?_
    refine mj_all_cons 10 rfl (Or.inl ⟨0, by decide +kernel, rfl, rfl⟩) ?_
    refine mj_all_cons 11 rfl (Or.inl ⟨0, by decide +kernel, rfl, rfl⟩) ?_
    refine mj_all_cons 12 rfl (Or.inl ⟨0, by decide +kernel, rfl, rfl⟩) ?_
    refine mj_all_cons 13 rfl (Or.inl ⟨2, by decide +kernel, rfl, rfl⟩) ?_
    refine mj_all_cons 14 rfl (⟨mjmM5, 111, 1, rfl, by decide, mjmd5, mw_16, Or.inl ⟨9, mjF9, 46, by decide +kernel, rfl, rfl, rfl, mw_1197, mw_1199, mjsel_74⟩⟩) ?_
    refine mj_all_cons 15 rfl (trivial) ?_
    refine mj_all_cons 16 rfl (trivial) ?_
    refine mj_all_cons 17 rfl (⟨mjmM5, 111, 1, rfl, by decide, mjmd5, mw_16, Or.inl ⟨9, mjF9, 46, by decide +kernel, rfl, rfl, rfl, mw_1197, mw_1199, mjsel_74⟩⟩) ?_
    refine mj_all_cons 18 rfl (trivial) ?_
    refine mj_all_cons 19 rfl (trivial) ?_
    refine mj_all_cons 20 rfl (Or.inl ⟨by decide +kernel, rfl⟩) ?_
    refine mj_all_cons 21 rfl (⟨mjmM25, 196, 2, rfl, by decide, mjmd25, mw_16, Or.inl ⟨9, mjF9, 46, by decide +kernel, rfl, rfl, rfl, mw_1231, mw_1233, mjsel_81⟩⟩) ?_
    refine mj_all_cons 22 rfl (trivial) ?_
    refine mj_all_cons 23 rfl (trivial) ?_
    refine mj_all_cons 24 rfl (Or.inl ⟨0, by decide +kernel, rfl, rfl⟩) ?_
    refine mj_all_cons 25 rfl (Or.inl ⟨2, by decide +kernel, rfl, rfl⟩) ?_
    refine mj_all_cons 26 rfl (⟨mjmM6, 107, 1, rfl, by decide, mjmd6, mw_16, Or.inl ⟨9, mjF9, 46, by decide +kernel, rfl, rfl, rfl, mw_1210, mw_1212, mjsel_77⟩⟩) ?_
    refine mj_all_cons 27 rfl (trivial) ?_
    refine mj_all_cons 28 rfl (trivial) ?_
    refine mj_all_cons 29 rfl (Or.inl ⟨2, by decide +kernel, rfl, rfl⟩) ?_
    refine mj_all_cons 30 rfl (show _ = _ from by decide +kernel) ?_
    refine mj_all_cons 31 rfl (trivial) ?_
    refine mj_all_cons 32 rfl (trivial) ?_
    refine mj_all_cons 33 rfl (show _ = _ from by decide +kernel) ?_
    exact trivial
  intro pc o ho
  have := mj_all_get _ 0 h pc o ho
  rw [Nat.zero_add] at this
  exact this
set_option maxRecDepth 100000 in
theorem mjmi29 : ∀ (pc : Nat) (o : mj_O), mjmo29[pc]? = some o → mj_is mj_kl mjmM29.1.cls mj_WS mj_NWs mjm_Ms mjmM29.2.1 pc o := by
  have h : mj_all (mj_is mj_kl mjmM29.1.cls mj_WS mj_NWs mjm_Ms mjmM29.2.1) 0 mjmo29 := by
    unfold mjmo29
    refine mj_all_cons 1 rfl (Or.inl ⟨1, by decide +kernel, rfl, rfl⟩) ?_
    refine mj_all_cons 2 rfl (⟨mjmM4, 200, 1, rfl, by decide, mjmd4, mw_16, Or.inr (Or.inl ⟨by decide +kernel, rfl, rfl, mw_1218, mw_1219⟩)⟩) ?_
    refine mj_all_cons 3 rfl (trivial) ?_
    refine mj_all_cons 4 rfl (trivial) ?_
    refine mj_all_cons 5 rfl (show _ = _ from by decide +kernel) ?_
    refine mj_all_cons 6 rfl (trivial) ?_
    refine mj_all_cons 7 rfl (trivial) ?_
    refine mj_all_cons 8 rfl (Or.inl ⟨1, by decide +kernel, rfl, rfl⟩) ?_
    refine mj_all_cons 9 rfl (Or.inr (Or.inr (Or.inr (Or.inl ⟨101, by decide +kernel, rfl, mw_1150⟩)))) ?_
    refine mj_all_cons 10 rfl (trivial) ?_
    refine mj_all_cons 11 rfl (show _ = _ from by decide +kernel) ?_
    refine mj_all_cons 12 rfl (trivial) ?_
    refine mj_all_cons 13 rfl (trivial) ?_
    refine mj_all_cons 14 rfl (Or.inl ⟨1, by decide +kernel, rfl, rfl⟩) ?_
    refine mj_all_cons 15 rfl (Or.inr (Or.inr (Or.inr (Or.inl ⟨203, by decide +kernel, rfl, mw_1230⟩)))) ?_
    refine mj_all_cons 16 rfl (trivial) ?_
    refine mj_all_cons 17 rfl (show _ = _ from by decide +kernel) ?_
    refine mj_all_cons 18 rfl (trivial) ?_
    refine mj_all_cons 19 rfl (trivial) ?_
    refine mj_all_cons 20 rfl (Or.inl ⟨0, by decide +kernel, rfl, rfl⟩) ?_
    refine mj_all_cons 21 rfl (Or.inl ⟨1, by decide +kernel, rfl, rfl⟩) ?_
    refine mj_all_cons 22 rfl (⟨mjmM26, 204, 1, rfl, by decide, mjmd26, mw_16, Or.inl ⟨9, mjF9, 46, by decide +kernel, rfl, rfl, rfl, mw_1247, mw_1249, mjsel_85⟩⟩) ?_
    refine mj_all_cons 23 rfl (trivial) ?_
    refine mj_all_cons 24 rfl (trivial) ?_
    refine mj_all_cons 25 rfl (show _ = _ from by decide +kernel) ?_
    refine mj_all_cons 26 rfl (trivial) ?_
    refine mj_all_cons 27 rfl (trivial) ?_
    refine mj_all_cons 28 rfl (Or.inl ⟨0, by decide +kernel, rfl, rfl⟩) ?_
    refine mj_all_cons 29 rfl (Or.inl ⟨by decide +kernel, rfl⟩) ?_
    refine mj_all_cons 30 rfl (⟨mjmM2, 138, 1, rfl, by decide, mjmd2, mw_16, Or.inl ⟨9, mjF9, 46, by decide +kernel, rfl, rfl, rfl, mw_1146, mw_1148, mjsel_65⟩⟩) ?_
    refine mj_all_cons 31 rfl (trivial) ?_
    refine mj_all_cons 32 rfl (trivial) ?_
    refine mj_all_cons 33 rfl (show _ = _ from by decide +kernel) ?_
    refine mj_all_cons 34 rfl (Or.inl ⟨1, by decide +kernel, rfl, rfl⟩) ?_
    refine mj_all_cons 35 rfl (⟨mjmM3, 103, 1, rfl, by decide, mjmd3, mw_16, Or.inr (Or.inl ⟨by decide +kernel, rfl, rfl, mw_1194, mw_1195⟩)⟩) ?_
    refine mj_all_cons 36 rfl (trivial) ?_
    refine mj_all_cons 37 rfl (trivial) ?_
    refine mj_all_cons 38 rfl (show _ = _ from by decide +kernel) ?_
    refine mj_all_cons 39 rfl (trivial) ?_
    refine mj_all_cons 40 rfl (trivial) ?_
    refine mj_all_cons 41 rfl (show _ = _ from by decide +kernel) ?_
    refine mj_all_cons 42 rfl (Or.inl ⟨0, by decide +kernel, rfl, rfl⟩) ?_
    refine mj_all_cons 43 rfl (Or.inl ⟨1, by decide +kernel, rfl, rfl⟩) ?_
    refine mj_all_cons 44 rfl (⟨mjmM7, 207, 1, rfl, by decide, mjmd7, mw_16, Or.inl ⟨9, mjF9, 46, by decide +kernel, rfl, rfl, rfl, mw_1206, mw_1208, mjsel_76⟩⟩) ?_
    refine mj_all_cons 45 rfl (trivial) ?_
    refine mj_all_cons 46 rfl (trivial) ?_
    refine mj_all_cons 47 rfl (Or.inl ⟨by decide +kernel, rfl⟩) ?_
    refine mj_all_cons 48 rfl (show _ = _ from by decide +kernel) ?_
    refine mj_all_cons 49 rfl (Or.inl ⟨2, by decide +kernel, rfl, rfl⟩) ?_
    refine mj_all_cons 50 rfl (Or.inl ⟨2, by decide +kernel, rfl, rfl⟩) ?_
    refine mj_all_cons 51 rfl (show _ = _ from by decide +kernel) ?_
    refine mj_all_cons 52 rfl (trivial) ?_
    refine mj_all_cons 53 rfl (trivial) ?_
    refine mj_all_cons 54 rfl (Or.inl ⟨0, by decide +kernel, rfl, rfl⟩) ?_
    refine mj_all_cons 55 rfl (Or.inl ⟨1, by decide +kernel, rfl, rfl⟩) ?_
    refine mj_all_cons 56 rfl (⟨mjmM5, 111, 1, rfl, by decide, mjmd5, mw_16, Or.inl ⟨9, mjF9, 46, by decide +kernel, rfl, rfl, rfl, mw_1197, mw_1199, mjsel_74⟩⟩) ?_
    refine mj_all_cons 57 rfl (trivial) ?_
    refine mj_all_cons 58 rfl (trivial) ?_
    refine mj_all_cons 59 rfl (⟨mjmM4, 200, 1, rfl, by decide, mjmd4, mw_16, Or.inr (Or.inl ⟨by decide +kernel, rfl, rfl, mw_1218, mw_1219⟩)⟩) ?_
    refine mj_all_cons 60 rfl (trivial) ?_
    refine mj_all_cons 61 rfl (trivial) ?_
    refine mj_all_cons 62 rfl (show _ = _ from by decide +kernel) ?_
    refine mj_all_cons 63 rfl (trivial) ?_
    refine mj_all_cons 64 rfl (trivial) ?_
    refine mj_all_cons 65 rfl (Or.inl ⟨0, by decide +kernel, rfl, rfl⟩) ?_
    refine mj_all_cons 66 rfl (Or.inl ⟨by decide +kernel, rfl⟩) ?_
    refine mj_all_cons 67 rfl (⟨mjmM2, 138, 1, rfl, by decide, mjmd2, mw_16, Or.inl ⟨9, mjF9, 46, by decide +kernel, rfl, rfl, rfl, mw_1146, mw_1148, mjsel_65⟩⟩) ?_
    refine mj_all_cons 68 rfl (trivial) ?_
    refine mj_all_cons 69 rfl (trivial) ?_
    refine mj_all_cons 70 rfl (show _ = _ from by decide +kernel) ?_
    refine mj_all_cons 71 rfl (show _ = _ from by decide +kernel) ?_
    refine mj_all_cons 72 rfl (Or.inl ⟨0, by decide +kernel, rfl, rfl⟩) ?_
    refine mj_all_cons 73 rfl (Or.inl ⟨1, by decide +kernel, rfl, rfl⟩) ?_
    refine mj_all_cons 74 rfl (⟨mjmM5, 111, 1, rfl, by decide, mjmd5, mw_16, Or.inl ⟨9, mjF9, 46, by decide +kernel, rfl, rfl, rfl, mw_1197, mw_1199, mjsel_74⟩⟩) ?_
    refine mj_all_cons 75 rfl (trivial) ?_
    refine mj_all_cons 76 rfl (trivial) ?_
    refine mj_all_cons 77 rfl (Or.inr (Or.inr (Or.inr (Or.inl ⟨101, by decide +kernel, rfl, mw_1150⟩)))) ?_
    refine mj_all_cons 78 rfl (trivial) ?_
    refine mj_all_cons 79 rfl (show _ = _ from by decide +kernel) ?_
    refine mj_all_cons 80 rfl (Or.inl ⟨3, by decide +kernel, rfl, rfl⟩) ?_
    refine mj_all_cons 81 rfl (Or.inl ⟨0, by decide +kernel, rfl, rfl⟩) ?_
    refine mj_all_cons 82 rfl (Or.inl ⟨1, by decide +kernel, rfl, rfl⟩) ?_
    refine mj_all_cons 83 rfl (⟨mjmM6, 107, 1, rfl, by decide, mjmd6, mw_16, Or.inl ⟨9, mjF9, 46, by decide +kernel, rfl, rfl, rfl, mw_1210, mw_1212, mjsel_77⟩⟩) ?_
    refine mj_all_cons 84 rfl (trivial) ?_
    refine mj_all_cons 85 rfl (trivial) ?_
    refine mj_all_cons 86 rfl (Or.inr ⟨by decide +kernel, rfl⟩) ?_
    refine mj_all_cons 87 rfl (trivial) ?_
    refine mj_all_cons 88 rfl (Or.inl ⟨3, by decide +kernel, rfl, rfl⟩) ?_
    refine mj_all_cons 89 rfl (Or.inl ⟨by decide +kernel, rfl⟩) ?_
    refine mj_all_cons 90 rfl (show _ = _ from by decide +kernel) ?_
    refine mj_all_cons 91 rfl (trivial) ?_
    refine mj_all_cons 92 rfl (trivial) ?_
    refine mj_all_cons 93 rfl (Or.inl ⟨2, by decide +kernel, rfl, rfl⟩) ?_
    refine mj_all_cons 94 rfl (Or.inl ⟨by decide +kernel, rfl⟩) ?_
    refine mj_all_cons 95 rfl (show _ = _ from by decide +kernel) ?_
    refine mj_all_cons 96 rfl (trivial) ?_
    refine mj_all_cons 97 rfl (trivial) ?_
    refine mj_all_cons 98 rfl (Or.inl ⟨3, by decide +kernel, rfl, rfl⟩) ?_
    refine mj_all_cons 99 rfl (Or.inl ⟨by decide +kernel, rfl⟩) ?_
    refine mj_all_cons 100 rfl (show _ = _ from by decide +kernel) ?_
    refine mj_all_cons 101 rfl (trivial) ?_
    refine mj_all_cons 102 rfl (trivial) ?_
    refine mj_all_cons 103 rfl (Or.inl ⟨2, by decide +kernel, rfl, rfl⟩) ?_
    refine mj_all_cons 104 rfl (Or.inl ⟨by decide +kernel, rfl⟩) ?_
    refine mj_all_cons 105 rfl (show _ = _ from by decide +kernel) ?_
    refine mj_all_cons 106 rfl (trivial) ?_
    refine mj_all_cons 107 rfl (trivial) ?_
    refine mj_all_cons 108 rfl (Or.inl ⟨3, by decide +kernel, rfl, rfl⟩) ?_
    refine mj_all_cons 109 rfl (Or.inl ⟨by decide +kernel, rfl⟩) ?_
    refine mj_all_cons 110 rfl (show _ = _ from by decide +kernel) ?_
    refine mj_all_cons 111 rfl (trivial) ?_
    refine mj_all_cons 112 rfl (trivial) ?_
    refine mj_all_cons 113 rfl (Or.inl ⟨2, by decide +kernel, rfl, rfl⟩) ?_
    refine mj_all_cons 114 rfl (Or.inl ⟨by decide +kernel, rfl⟩) ?_
    refine mj_all_cons 115 rfl (show _ = _ from by decide +kernel) ?_
    refine mj_all_cons 116 rfl (trivial) ?_
    refine mj_all_cons 117 rfl (trivial) ?_
    refine mj_all_cons 118 rfl (Or.inl ⟨0, by decide +kernel, rfl, rfl⟩) ?_
    refine mj_all_cons 119 rfl (Or.inl ⟨0, by decide +kernel, rfl, rfl⟩) ?_
    refine mj_all_cons 120 rfl (Or.inr ⟨by decide +kernel, rfl⟩) ?_
    refine mj_all_cons 121 rfl (trivial) ?_
    refine mj_all_cons 122 rfl (⟨mjmM5, 111, 1, rfl, by decide, mjmd5, mw_16, Or.inl ⟨9, mjF9, 46, by decide +kernel, rfl, rfl, rfl, mw_1197, mw_1199, mjsel_74⟩⟩) ?_
    refine mj_all_cons 123 rfl (trivial) ?_
    refine mj_all_cons 124 rfl (trivial) ?_
    refine mj_all_cons 125 rfl (⟨mjmM32, 210, 1, rfl, by decide, mjmd32, mw_16, Or.inl ⟨9, mjF9, 46, by decide +kernel, rfl, rfl, rfl, mw_1251, mw_1253, mjsel_86⟩⟩) ?_
    refine mj_all_cons 126 rfl (trivial) ?_
    refine mj_all_cons 127 rfl (trivial) ?_
    refine mj_all_cons 128 rfl (show _ = _ from by decide +kernel) ?_
    refine mj_all_cons 129 rfl (trivial) ?_
    refine mj_all_cons 130 rfl (trivial) ?_
    refine mj_all_cons 131 rfl (Or.inl ⟨3, by decide +kernel, rfl, rfl⟩) ?_
    refine mj_all_cons 132 rfl (Or.inl ⟨by decide +kernel, rfl⟩) ?_
    refine mj_all_cons 133 rfl (show _ = _ from by decide +kernel) ?_
    refine mj_all_cons 134 rfl (trivial) ?_
    refine mj_all_cons 135 rfl (trivial) ?_
    refine mj_all_cons 136 rfl (Or.inl ⟨0, by decide +kernel, rfl, rfl⟩) ?_
    refine mj_all_cons 137 rfl (Or.inr ⟨by decide +kernel, rfl⟩) ?_
    refine mj_all_cons 138 rfl (trivial) ?_
    refine mj_all_cons 139 rfl (⟨mjmM30, 213, 1, rfl, by decide, mjmd30, mw_16, Or.inl ⟨9, mjF9, 46, by decide +kernel, rfl, rfl, rfl, mw_1255, mw_1257, mjsel_87⟩⟩) ?_
    refine mj_all_cons 140 rfl (trivial) ?_
    refine mj_all_cons 141 rfl (trivial) ?_
    refine mj_all_cons 142 rfl (show _ = _ from by decide +kernel) ?_
    refine mj_all_cons 143 rfl (trivial) ?_
    refine mj_all_cons 144 rfl (trivial) ?_
    refine mj_all_cons 145 rfl (Or.inl ⟨3, by decide +kernel, rfl, rfl⟩) ?_
    refine mj_all_cons 146 rfl (Or.inr (Or.inl ⟨by decide +kernel, rfl, by decide⟩)) ?_
    refine mj_all_cons 147 rfl (trivial) ?_
    refine mj_all_cons 148 rfl (show _ = _ from by decide +kernel) ?_
    refine mj_all_cons 149 rfl (trivial) ?_
    refine mj_all_cons 150 rfl (trivial) ?_
    refine mj_all_cons 151 rfl (Or.inl ⟨by decide +kernel, rfl⟩) ?_
    refine mj_all_cons 152 rfl (show _ = _ from by decide +kernel) ?_
    refine mj_all_cons 153 rfl (trivial) ?_
    refine mj_all_cons 154 rfl (trivial) ?_
    refine mj_all_cons 155 rfl (Or.inl ⟨by decide +kernel, rfl⟩) ?_
    refine mj_all_cons 156 rfl (Or.inr ⟨by decide +kernel, rfl⟩) ?_
    refine mj_all_cons 157 rfl (trivial) ?_
    refine mj_all_cons 158 rfl (Or.inl ⟨3, by decide +kernel, rfl, rfl⟩) ?_
    refine mj_all_cons 159 rfl (Or.inr (Or.inl ⟨by decide +kernel, rfl, by decide⟩)) ?_
    refine mj_all_cons 160 rfl (trivial) ?_
    refine mj_all_cons 161 rfl (show _ = _ from by decide +kernel) ?_
    refine mj_all_cons 162 rfl (trivial) ?_
    refine mj_all_cons 163 rfl (trivial) ?_
    refine mj_all_cons 164 rfl (Or.inl ⟨3, by decide +kernel, rfl, rfl⟩) ?_
    refine mj_all_cons 165 rfl (Or.inr (Or.inl ⟨by decide +kernel, rfl, by decide⟩)) ?_
    refine mj_all_cons 166 rfl (trivial) ?_
    refine mj_all_cons 167 rfl (show _ = _ from by decide +kernel) ?_
    refine mj_all_cons 168 rfl (trivial) ?_
    refine mj_all_cons 169 rfl (trivial) ?_
    refine mj_all_cons 170 rfl (Or.inl ⟨2, by decide +kernel, rfl, rfl⟩) ?_
    refine mj_all_cons 171 rfl (Or.inl ⟨3, by decide +kernel, rfl, rfl⟩) ?_
    refine mj_all_cons 172 rfl (Or.inr (Or.inl ⟨by decide +kernel, rfl, by decide⟩)) ?_
    refine mj_all_cons 173 rfl (trivial) ?_
    refine mj_all_cons 174 rfl (show _ = _ from by decide +kernel) ?_
    refine mj_all_cons 175 rfl (trivial) ?_
    refine mj_all_cons 176 rfl (trivial) ?_
    refine mj_all_cons 177 rfl (Or.inl ⟨3, by decide +kernel, rfl, rfl⟩) ?_
    refine mj_all_cons 178 rfl (Or.inr (Or.inl ⟨by decide +kernel, rfl, by decide⟩)) ?_
    refine mj_all_cons 179 rfl (trivial) ?_
    refine mj_all_cons 180 rfl (show _ = _ from by decide +kernel) ?_
    refine mj_all_cons 181 rfl (trivial) ?_
    refine mj_all_cons 182 rfl (trivial) ?_
    refine mj_all_cons 183 rfl (Or.inl ⟨3, by decide +kernel, rfl, rfl⟩) ?_
    refine mj_all_cons 184 rfl (Or.inr (Or.inl ⟨by decide +kernel, rfl, by decide⟩)) ?_
    refine mj_all_cons 185 rfl (trivial) ?_
    refine mj_all_cons 186 rfl (show _ = _ from by decide +kernel) ?_
    refine mj_all_cons 187 rfl (trivial) ?_
    refine mj_all_cons 188 rfl (trivial) ?_
    refine mj_all_cons 189 rfl (Or.inl ⟨by decide +kernel, rfl⟩) ?_
    refine mj_all_cons 190 rfl (show _ = _ from by decide +kernel) ?_
    refine mj_all_cons 191 rfl (trivial) ?_
    refine mj_all_cons 192 rfl (trivial) ?_
    refine mj_all_cons 193 rfl (Or.inl ⟨by decide +kernel, rfl⟩) ?_
    refine mj_all_cons 194 rfl (show _ = _ from by decide +kernel) ?_
    refine mj_all_cons 195 rfl (trivial) ?_
    refine mj_all_cons 196 rfl (trivial) ?_
    refine mj_all_cons 197 rfl (Or.inl ⟨by decide +kernel, rfl⟩) ?_
    refine mj_all_cons 198 rfl (show _ = _ from by decide +kernel) ?_
    refine mj_all_cons 199 rfl (trivial) ?_
    refine mj_all_cons 200 rfl (trivial) ?_
    refine mj_all_cons 201 rfl (Or.inl ⟨by decide +kernel, rfl⟩) ?_
    refine mj_all_cons 202 rfl (Or.inr ⟨by decide +kernel, rfl⟩) ?_
    refine mj_all_cons 203 rfl (trivial) ?_
    refine mj_all_cons 204 rfl (Or.inr ⟨by decide +kernel, rfl⟩) ?_
    refine mj_all_cons 205 rfl (trivial) ?_
    refine mj_all_cons 206 rfl (show _ = _ from by decide +kernel) ?_
    refine mj_all_cons 207 rfl (trivial) ?_
    refine mj_all_cons 208 rfl (trivial) ?_
    refine mj_all_cons 209 rfl (Or.inr ⟨by decide +kernel, rfl⟩) ?_
    refine mj_all_cons 210 rfl (trivial) ?_
    refine mj_all_cons 211 rfl (show _ = _ from by decide +kernel) ?_
    refine mj_all_cons 212 rfl (trivial) ?_
    refine mj_all_cons 213 rfl (trivial) ?_
    refine mj_all_cons 214 rfl (Or.inl ⟨0, by decide +kernel, rfl, rfl⟩) ?_
    refine mj_all_cons 215 rfl (Or.inr ⟨by decide +kernel, rfl⟩) ?_
    refine mj_all_cons 216 rfl (trivial) ?_
    refine mj_all_cons 217 rfl (show _ = _ from by decide +kernel) ?_
    refine mj_all_cons 218 rfl (trivial) ?_
    refine mj_all_cons 219 rfl (trivial) ?_
    refine mj_all_cons 220 rfl (Or.inl ⟨by decide +kernel, rfl⟩) ?_
    refine mj_all_cons 221 rfl (show _ = _ from by decide +kernel) ?_
    refine mj_all_cons 222 rfl (trivial) ?_
    refine mj_all_cons 223 rfl (trivial) ?_
    refine mj_all_cons 224 rfl (Or.inl ⟨by decide +kernel, rfl⟩) ?_
    refine mj_all_cons 225 rfl (⟨mjmM2, 138, 1, rfl, by decide, mjmd2, mw_16, Or.inl ⟨9, mjF9, 46, by decide +kernel, rfl, rfl, rfl, mw_1146, mw_1148, mjsel_65⟩⟩) ?_
    refine mj_all_cons 226 rfl (trivial) ?_
    refine mj_all_cons 227 rfl (trivial) ?_
    refine mj_all_cons 228 rfl (show _ = _ from by decide +kernel) ?_
    refine mj_all_cons 229 rfl (show _ = _ from by decide +kernel) ?_
    refine mj_all_cons 230 rfl (Or.inl ⟨3, by decide +kernel, rfl, rfl⟩) ?_
    refine mj_all_cons 231 rfl (Or.inl ⟨by decide +kernel, rfl⟩) ?_
    refine mj_all_cons 232 rfl (show _ = _ from by decide +kernel) ?_
    refine mj_all_cons 233 rfl (trivial) ?_
    refine mj_all_cons 234 rfl (trivial) ?_
    refine mj_all_cons 235 rfl (show _ = _ from by decide +kernel) ?_
    refine mj_all_cons 236 rfl (Or.inl ⟨3, by decide +kernel, rfl, rfl⟩) ?_
    refine mj_all_cons 237 rfl (Or.inl ⟨by decide +kernel, rfl⟩) ?_
    refine mj_all_cons 238 rfl (show _ = _ from by decide +kernel) ?_
    refine mj_all_cons 239 rfl (trivial) ?_
    refine mj_all_cons 240 rfl (trivial) ?_
    refine mj_all_cons 241 rfl (Or.inl ⟨0, by decide +kernel, rfl, rfl⟩) ?_
    refine mj_all_cons 242 rfl (Or.inl ⟨0, by decide +kernel, rfl, rfl⟩) ?_
    refine mj_all_cons 243 rfl (Or.inr ⟨by decide +kernel, rfl⟩) ?_
    refine mj_all_cons 244 rfl (trivial) ?_
    refine mj_all_cons 245 rfl (⟨mjmM5, 111, 1, rfl, by decide, mjmd5, mw_16, Or.inl ⟨9, mjF9, 46, by decide +kernel, rfl, rfl, rfl, mw_1197, mw_1199, mjsel_74⟩⟩) ?_
    refine mj_all_cons 246 rfl (trivial) ?_
    refine mj_all_cons 247 rfl (trivial) ?_
    refine mj_all_cons 248 rfl (⟨mjmM7, 207, 1, rfl, by decide, mjmd7, mw_16, Or.inl ⟨9, mjF9, 46, by decide +kernel, rfl, rfl, rfl, mw_1206, mw_1208, mjsel_76⟩⟩) ?_
    refine mj_all_cons 249 rfl (trivial) ?_
    refine mj_all_cons 250 rfl (trivial) ?_
    refine mj_all_cons 251 rfl (Or.inr ⟨by decide +kernel, rfl⟩) ?_
    refine mj_all_cons 252 rfl (trivial) ?_
    refine mj_all_cons 253 rfl (Or.inl ⟨0, by decide +kernel, rfl, rfl⟩) ?_
    refine mj_all_cons 254 rfl (Or.inr (Or.inl ⟨by decide +kernel, rfl, by decide⟩)) ?_
    refine mj_all_cons 255 rfl (trivial) ?_
    refine mj_all_cons 256 rfl (Or.inr (Or.inr (Or.inr (Or.inl ⟨101, by decide +kernel, rfl, mw_1150⟩)))) ?_
    refine mj_all_cons 257 rfl (trivial) ?_
    refine mj_all_cons 258 rfl (Or.inr ⟨by decide +kernel, rfl⟩) ?_
    refine mj_all_cons 259 rfl (trivial) ?_
    refine mj_all_cons 260 rfl (Or.inl ⟨by decide +kernel, rfl⟩) ?_
    refine mj_all_cons 261 rfl (⟨mjmM24, 183, 4, rfl, by decide, mjmd24, mw_16, Or.inl ⟨9, mjF9, 46, by decide +kernel, rfl, rfl, rfl, mw_1239, mw_1241, mjsel_83⟩⟩) ?_
    refine mj_all_cons 262 rfl (trivial) ?_
    refine mj_all_cons 263 rfl (trivial) ?_
    refine mj_all_cons 264 rfl (Or.inl ⟨0, by decide +kernel, rfl, rfl⟩) ?_
    refine mj_all_cons 265 rfl (Or.inr (Or.inl ⟨by decide +kernel, rfl, by decide⟩)) ?_
    refine mj_all_cons 266 rfl (trivial) ?_
    refine mj_all_cons 267 rfl (Or.inl ⟨0, by decide +kernel, rfl, rfl⟩) ?_
    refine mj_all_cons 268 rfl (Or.inr ⟨by decide +kernel, rfl⟩) ?_
    refine mj_all_cons 269 rfl (trivial) ?_
    refine mj_all_cons 270 rfl (Or.inl ⟨by decide +kernel, rfl⟩) ?_
    refine mj_all_cons 271 rfl (⟨mjmM8, 193, 2, rfl, by decide, mjmd8, mw_16, Or.inl ⟨9, mjF9, 46, by decide +kernel, rfl, rfl, rfl, mw_1214, mw_1216, mjsel_78⟩⟩) ?_
    refine mj_all_cons 272 rfl (trivial) ?_
    refine mj_all_cons 273 rfl (trivial) ?_
    refine mj_all_cons 274 rfl (Or.inl ⟨by decide +kernel, rfl⟩) ?_
    refine mj_all_cons 275 rfl (Or.inl ⟨by decide +kernel, rfl⟩) ?_
    refine mj_all_cons 276 rfl (⟨mjmM24, 183, 4, rfl, by decide, mjmd24, mw_16, Or.inl ⟨9, mjF9, 46, by decide +kernel, rfl, rfl, rfl, mw_1239, mw_1241, mjsel_83⟩⟩) ?_
    refine mj_all_cons 277 rfl (trivial) ?_
    refine mj_all_cons 278 rfl (trivial) ?_
    refine mj_all_cons 279 rfl (Or.inl ⟨0, by decide +kernel, rfl, rfl⟩) ?_
    refine mj_all_cons 280 rfl (Or.inr (Or.inl ⟨by decide +kernel, rfl, by decide⟩)) ?_
    refine mj_all_cons 281 rfl (trivial) ?_
    refine mj_all_cons 282 rfl (Or.inl ⟨0, by decide +kernel, rfl, rfl⟩) ?_
    refine mj_all_cons 283 rfl (Or.inr ⟨by decide +kernel, rfl⟩) ?_
    refine mj_all_cons 284 rfl (trivial) ?_
    refine mj_all_cons 285 rfl (⟨mjmM5, 111, 1, rfl, by decide, mjmd5, mw_16, Or.inl ⟨9, mjF9, 46, by decide +kernel, rfl, rfl, rfl, mw_1197, mw_1199, mjsel_74⟩⟩) ?_
    refine mj_all_cons 286 rfl (trivial) ?_
    refine mj_all_cons 287 rfl (trivial) ?_
    refine mj_all_cons 288 rfl (Or.inl ⟨by decide +kernel, rfl⟩) ?_
    refine mj_all_cons 289 rfl (Or.inl ⟨by decide +kernel, rfl⟩) ?_
    refine mj_all_cons 290 rfl (⟨mjmM24, 183, 4, rfl, by decide, mjmd24, mw_16, Or.inl ⟨9, mjF9, 46, by decide +kernel, rfl, rfl, rfl, mw_1239, mw_1241, mjsel_83⟩⟩) ?_
    refine mj_all_cons 291 rfl (trivial) ?_
    refine mj_all_cons 292 rfl (trivial) ?_
    refine mj_all_cons 293 rfl (Or.inl ⟨0, by decide +kernel, rfl, rfl⟩) ?_
    refine mj_all_cons 294 rfl (Or.inl ⟨by decide +kernel, rfl⟩) ?_
    refine mj_all_cons 295 rfl (Or.inl ⟨0, by decide +kernel, rfl, rfl⟩) ?_
    refine mj_all_cons 296 rfl (Or.inr ⟨by decide +kernel, rfl⟩) ?_
    refine mj_all_cons 297 rfl (trivial) ?_
    refine mj_all_cons 298 rfl (⟨mjmM5, 111, 1, rfl, by decide, mjmd5, mw_16, Or.inl ⟨9, mjF9, 46, by decide +kernel, rfl, rfl, rfl, mw_1197, mw_1199, mjsel_74⟩⟩) ?_
    refine mj_all_cons 299 rfl (trivial) ?_
    refine mj_all_cons 300 rfl (trivial) ?_
    refine mj_all_cons 301 rfl (Or.inl ⟨by decide +kernel, rfl⟩) ?_
    refine mj_all_cons 302 rfl (Or.inl ⟨by decide +kernel, rfl⟩) ?_
    refine mj_all_cons 303 rfl (⟨mjmM24, 183, 4, rfl, by decide, mjmd24, mw_16, Or.inl ⟨9, mjF9, 46, by decide +kernel, rfl, rfl, rfl, mw_1239, mw_1241, mjsel_83⟩⟩) ?_
    refine mj_all_cons 304 rfl (trivial) ?_
    refine mj_all_cons 305 rfl (trivial) ?_
    refine mj_all_cons 306 rfl (show _ = _ from by decide +kernel) ?_
    refine mj_all_cons 307 rfl (trivial) ?_
    refine mj_all_cons 308 rfl (trivial) ?_
    refine mj_all_cons 309 rfl (Or.inl ⟨0, by decide +kernel, rfl, rfl⟩) ?_
    refine mj_all_cons 310 rfl (Or.inl ⟨by decide +kernel, rfl⟩) ?_
    refine mj_all_cons 311 rfl (Or.inr ⟨by decide +kernel, rfl⟩) ?_
    refine mj_all_cons 312 rfl (trivial) ?_
    refine mj_all_cons 313 rfl (Or.inl ⟨3, by decide +kernel, rfl, rfl⟩) ?_
    refine mj_all_cons 314 rfl (Or.inl ⟨by decide +kernel, rfl⟩) ?_
    refine mj_all_cons 315 rfl (show _ = _ from by decide +kernel) ?_
    refine mj_all_cons 316 rfl (trivial) ?_
    refine mj_all_cons 317 rfl (trivial) ?_
    refine mj_all_cons 318 rfl (Or.inl ⟨by decide +kernel, rfl⟩) ?_
    refine mj_all_cons 319 rfl (show _ = _ from by decide +kernel) ?_
    refine mj_all_cons 320 rfl (trivial) ?_
    refine mj_all_cons 321 rfl (trivial) ?_
    refine mj_all_cons 322 rfl (Or.inl ⟨by decide +kernel, rfl⟩) ?_
    refine mj_all_cons 323 rfl (Or.inl ⟨by decide +kernel, rfl⟩) ?_
    refine mj_all_cons 324 rfl (⟨mjmM24, 183, 4, rfl, by decide, mjmd24, mw_16, Or.inl ⟨9, mjF9, 46, by decide +kernel, rfl, rfl, rfl, mw_1239, mw_1241, mjsel_83⟩⟩) ?_
    refine mj_all_cons 325 rfl (trivial) ?_
    refine mj_all_cons 326 rfl (trivial) ?_
    refine mj_all_cons 327 rfl (show _ = _ from by decide +kernel) ?_
    exact trivial
  intro pc o ho
  have := mj_all_get _ 0 h pc o ho
  rw [Nat.zero_add] at this
  exact this
set_option maxRecDepth 100000 in
theorem mjmi30 : ∀ (pc : Nat) (o : mj_O), mjmo30[pc]? = some o → mj_is mj_kl mjmM30.1.cls mj_WS mj_NWs mjm_Ms mjmM30.2.1 pc o := by
  have h : mj_all (mj_is mj_kl mjmM30.1.cls mj_WS mj_NWs mjm_Ms mjmM30.2.1) 0 mjmo30 := by
    unfold mjmo30
    refine mj_all_cons 1 rfl (Or.inl ⟨0, by decide +kernel, rfl, rfl⟩) ?_
    refine mj_all_cons 2 rfl (Or.inl ⟨1, by decide +kernel, rfl, rfl⟩) ?_
    refine mj_all_cons 3 rfl (⟨mjmM7, 207, 1, rfl, by decide, mjmd7, mw_16, Or.inl ⟨9, mjF9, 46, by decide +kernel, rfl, rfl, rfl, mw_1206, mw_1208, mjsel_76⟩⟩) ?_
    refine mj_all_cons 4 rfl (trivial) ?_
    refine mj_all_cons 5 rfl (trivial) ?_
    refine mj_all_cons 6 rfl (show _ = _ from by decide +kernel) ?_
    refine mj_all_cons 7 rfl (trivial) ?_
    refine mj_all_cons 8 rfl (trivial) ?_
    refine mj_all_cons 9 rfl (Or.inl ⟨by decide +kernel, rfl⟩) ?_
    refine mj_all_cons 10 rfl (show _ = _ from by decide +kernel) ?_
    refine mj_all_cons 11 rfl (trivial) ?_
    refine mj_all_cons 12 rfl (trivial) ?_
    refine mj_all_cons 13 rfl (Or.inl ⟨by decide +kernel, rfl⟩) ?_
    refine mj_all_cons 14 rfl (Or.inl ⟨2, by decide +kernel, rfl, rfl⟩) ?_
    refine mj_all_cons 15 rfl (Or.inl ⟨1, by decide +kernel, rfl, rfl⟩) ?_
    refine mj_all_cons 16 rfl (Or.inl ⟨3, by decide +kernel, rfl, rfl⟩) ?_
    refine mj_all_cons 17 rfl (Or.inl ⟨3, by decide +kernel, rfl, rfl⟩) ?_
    refine mj_all_cons 18 rfl (⟨mjmM3, 103, 1, rfl, by decide, mjmd3, mw_16, Or.inr (Or.inl ⟨by decide +kernel, rfl, rfl, mw_1194, mw_1195⟩)⟩) ?_
    refine mj_all_cons 19 rfl (trivial) ?_
    refine mj_all_cons 20 rfl (trivial) ?_
    refine mj_all_cons 21 rfl (show _ = _ from by decide +kernel) ?_
    refine mj_all_cons 22 rfl (trivial) ?_
    refine mj_all_cons 23 rfl (trivial) ?_
    refine mj_all_cons 24 rfl (Or.inl ⟨2, by decide +kernel, rfl, rfl⟩) ?_
    refine mj_all_cons 25 rfl (show _ = _ from by decide +kernel) ?_
    refine mj_all_cons 26 rfl (trivial) ?_
    refine mj_all_cons 27 rfl (trivial) ?_
    refine mj_all_cons 28 rfl (Or.inl ⟨0, by decide +kernel, rfl, rfl⟩) ?_
    refine mj_all_cons 29 rfl (Or.inl ⟨0, by decide +kernel, rfl, rfl⟩) ?_
    refine mj_all_cons 30 rfl (Or.inl ⟨3, by decide +kernel, rfl, rfl⟩) ?_
    refine mj_all_cons 31 rfl (⟨mjmM5, 111, 1, rfl, by decide, mjmd5, mw_16, Or.inl ⟨9, mjF9, 46, by decide +kernel, rfl, rfl, rfl, mw_1197, mw_1199, mjsel_74⟩⟩) ?_
    refine mj_all_cons 32 rfl (trivial) ?_
    refine mj_all_cons 33 rfl (trivial) ?_
    refine mj_all_cons 34 rfl (⟨mjmM7, 207, 1, rfl, by decide, mjmd7, mw_16, Or.inl ⟨9, mjF9, 46, by decide +kernel, rfl, rfl, rfl, mw_1206, mw_1208, mjsel_76⟩⟩) ?_
    refine mj_all_cons 35 rfl (trivial) ?_
    refine mj_all_cons 36 rfl (trivial) ?_
    refine mj_all_cons 37 rfl (Or.inl ⟨by decide +kernel, rfl⟩) ?_
    refine mj_all_cons 38 rfl (show _ = _ from by decide +kernel) ?_
    refine mj_all_cons 39 rfl (trivial) ?_
    refine mj_all_cons 40 rfl (trivial) ?_
    refine mj_all_cons 41 rfl (Or.inl ⟨by decide +kernel, rfl⟩) ?_
    refine mj_all_cons 42 rfl (show _ = _ from by decide +kernel) ?_
    refine mj_all_cons 43 rfl (trivial) ?_
    refine mj_all_cons 44 rfl (trivial) ?_
    refine mj_all_cons 45 rfl (Or.inl ⟨by decide +kernel, rfl⟩) ?_
    refine mj_all_cons 46 rfl (Or.inl ⟨2, by decide +kernel, rfl, rfl⟩) ?_
    refine mj_all_cons 47 rfl (Or.inl ⟨0, by decide +kernel, rfl, rfl⟩) ?_
    refine mj_all_cons 48 rfl (Or.inl ⟨3, by decide +kernel, rfl, rfl⟩) ?_
    refine mj_all_cons 49 rfl (⟨mjmM6, 107, 1, rfl, by decide, mjmd6, mw_16, Or.inl ⟨9, mjF9, 46, by decide +kernel, rfl, rfl, rfl, mw_1210, mw_1212, mjsel_77⟩⟩) ?_
    refine mj_all_cons 50 rfl (trivial) ?_
    refine mj_all_cons 51 rfl (trivial) ?_
    refine mj_all_cons 52 rfl (Or.inl ⟨3, by decide +kernel, rfl, rfl⟩) ?_
    refine mj_all_cons 53 rfl (show _ = _ from by decide +kernel) ?_
    refine mj_all_cons 54 rfl (trivial) ?_
    refine mj_all_cons 55 rfl (trivial) ?_
    refine mj_all_cons 56 rfl (Or.inl ⟨2, by decide +kernel, rfl, rfl⟩) ?_
    refine mj_all_cons 57 rfl (show _ = _ from by decide +kernel) ?_
    exact trivial
  intro pc o ho
  have := mj_all_get _ 0 h pc o ho
  rw [Nat.zero_add] at this
  exact this
set_option maxRecDepth 100000 in
theorem mjmi31 : ∀ (pc : Nat) (o : mj_O), mjmo31[pc]? = some o → mj_is mj_kl mjmM31.1.cls mj_WS mj_NWs mjm_Ms mjmM31.2.1 pc o := by
  have h : mj_all (mj_is mj_kl mjmM31.1.cls mj_WS mj_NWs mjm_Ms mjmM31.2.1) 0 mjmo31 := by
    unfold mjmo31
    refine mj_all_cons 1 rfl (Or.inl ⟨1, by decide +kernel, rfl, rfl⟩) ?_
    refine mj_all_cons 2 rfl (⟨mjmM4, 200, 1, rfl, by decide, mjmd4, mw_16, Or.inr (Or.inl ⟨by decide +kernel, rfl, rfl, mw_1218, mw_1219⟩)⟩) ?_
    refine mj_all_cons 3 rfl (trivial) ?_
    refine mj_all_cons 4 rfl (trivial) ?_
    refine mj_all_cons 5 rfl (show _ = _ from by decide +kernel) ?_
    refine mj_all_cons 6 rfl (trivial) ?_
    refine mj_all_cons 7 rfl (trivial) ?_
    refine mj_all_cons 8 rfl (Or.inl ⟨1, by decide +kernel, rfl, rfl⟩) ?_
    refine mj_all_cons 9 rfl (Or.inr (Or.inr (Or.inr (Or.inl ⟨101, by decide +kernel, rfl, mw_1150⟩)))) ?_
    refine mj_all_cons 10 rfl (trivial) ?_
    refine mj_all_cons 11 rfl (show _ = _ from by decide +kernel) ?_
    refine mj_all_cons 12 rfl (trivial) ?_
    refine mj_all_cons 13 rfl (trivial) ?_
    refine mj_all_cons 14 rfl (Or.inl ⟨1, by decide +kernel, rfl, rfl⟩) ?_
    refine mj_all_cons 15 rfl (Or.inr (Or.inr (Or.inr (Or.inl ⟨203, by decide +kernel, rfl, mw_1230⟩)))) ?_
    refine mj_all_cons 16 rfl (trivial) ?_
    refine mj_all_cons 17 rfl (show _ = _ from by decide +kernel) ?_
    refine mj_all_cons 18 rfl (trivial) ?_
    refine mj_all_cons 19 rfl (trivial) ?_
    refine mj_all_cons 20 rfl (Or.inl ⟨1, by decide +kernel, rfl, rfl⟩) ?_
    refine mj_all_cons 21 rfl (Or.inr (Or.inr (Or.inr (Or.inl ⟨173, by decide +kernel, rfl, mw_1193⟩)))) ?_
    refine mj_all_cons 22 rfl (trivial) ?_
    refine mj_all_cons 23 rfl (show _ = _ from by decide +kernel) ?_
    refine mj_all_cons 24 rfl (trivial) ?_
    refine mj_all_cons 25 rfl (trivial) ?_
    refine mj_all_cons 26 rfl (Or.inl ⟨1, by decide +kernel, rfl, rfl⟩) ?_
    refine mj_all_cons 27 rfl (Or.inr (Or.inr (Or.inr (Or.inl ⟨216, by decide +kernel, rfl, mw_1201⟩)))) ?_
    refine mj_all_cons 28 rfl (trivial) ?_
    refine mj_all_cons 29 rfl (show _ = _ from by decide +kernel) ?_
    refine mj_all_cons 30 rfl (trivial) ?_
    refine mj_all_cons 31 rfl (trivial) ?_
    refine mj_all_cons 32 rfl (Or.inl ⟨by decide +kernel, rfl⟩) ?_
    refine mj_all_cons 33 rfl (show _ = _ from by decide +kernel) ?_
    refine mj_all_cons 34 rfl (trivial) ?_
    refine mj_all_cons 35 rfl (trivial) ?_
    refine mj_all_cons 36 rfl (Or.inl ⟨by decide +kernel, rfl⟩) ?_
    refine mj_all_cons 37 rfl (show _ = _ from by decide +kernel) ?_
    exact trivial
  intro pc o ho
  have := mj_all_get _ 0 h pc o ho
  rw [Nat.zero_add] at this
  exact this
set_option maxRecDepth 100000 in
theorem mjmi32 : ∀ (pc : Nat) (o : mj_O), mjmo32[pc]? = some o → mj_is mj_kl mjmM32.1.cls mj_WS mj_NWs mjm_Ms mjmM32.2.1 pc o := by
  have h : mj_all (mj_is mj_kl mjmM32.1.cls mj_WS mj_NWs mjm_Ms mjmM32.2.1) 0 mjmo32 := by
    unfold mjmo32
    refine mj_all_cons 1 rfl (Or.inl ⟨0, by decide +kernel, rfl, rfl⟩) ?_
    refine mj_all_cons 2 rfl (Or.inl ⟨1, by decide +kernel, rfl, rfl⟩) ?_
    refine mj_all_cons 3 rfl (⟨mjmM30, 213, 1, rfl, by decide, mjmd30, mw_16, Or.inl ⟨9, mjF9, 46, by decide +kernel, rfl, rfl, rfl, mw_1255, mw_1257, mjsel_87⟩⟩) ?_
    refine mj_all_cons 4 rfl (trivial) ?_
    refine mj_all_cons 5 rfl (trivial) ?_
    refine mj_all_cons 6 rfl (Or.inl ⟨2, by decide +kernel, rfl, rfl⟩) ?_
    refine mj_all_cons 7 rfl (Or.inl ⟨1, by decide +kernel, rfl, rfl⟩) ?_
    refine mj_all_cons 8 rfl (Or.inl ⟨3, by decide +kernel, rfl, rfl⟩) ?_
    refine mj_all_cons 9 rfl (Or.inl ⟨3, by decide +kernel, rfl, rfl⟩) ?_
    refine mj_all_cons 10 rfl (⟨mjmM3, 103, 1, rfl, by decide, mjmd3, mw_16, Or.inr (Or.inl ⟨by decide +kernel, rfl, rfl, mw_1194, mw_1195⟩)⟩) ?_
    refine mj_all_cons 11 rfl (trivial) ?_
    refine mj_all_cons 12 rfl (trivial) ?_
    refine mj_all_cons 13 rfl (show _ = _ from by decide +kernel) ?_
    refine mj_all_cons 14 rfl (trivial) ?_
    refine mj_all_cons 15 rfl (trivial) ?_
    refine mj_all_cons 16 rfl (Or.inl ⟨2, by decide +kernel, rfl, rfl⟩) ?_
    refine mj_all_cons 17 rfl (show _ = _ from by decide +kernel) ?_
    refine mj_all_cons 18 rfl (trivial) ?_
    refine mj_all_cons 19 rfl (trivial) ?_
    refine mj_all_cons 20 rfl (Or.inl ⟨0, by decide +kernel, rfl, rfl⟩) ?_
    refine mj_all_cons 21 rfl (Or.inl ⟨0, by decide +kernel, rfl, rfl⟩) ?_
    refine mj_all_cons 22 rfl (Or.inl ⟨0, by decide +kernel, rfl, rfl⟩) ?_
    refine mj_all_cons 23 rfl (Or.inl ⟨3, by decide +kernel, rfl, rfl⟩) ?_
    refine mj_all_cons 24 rfl (⟨mjmM5, 111, 1, rfl, by decide, mjmd5, mw_16, Or.inl ⟨9, mjF9, 46, by decide +kernel, rfl, rfl, rfl, mw_1197, mw_1199, mjsel_74⟩⟩) ?_
    refine mj_all_cons 25 rfl (trivial) ?_
    refine mj_all_cons 26 rfl (trivial) ?_
    refine mj_all_cons 27 rfl (⟨mjmM5, 111, 1, rfl, by decide, mjmd5, mw_16, Or.inl ⟨9, mjF9, 46, by decide +kernel, rfl, rfl, rfl, mw_1197, mw_1199, mjsel_74⟩⟩) ?_
    refine mj_all_cons 28 rfl (trivial) ?_
    refine mj_all_cons 29 rfl (trivial) ?_
    refine mj_all_cons 30 rfl (⟨mjmM31, 217, 1, rfl, by decide, mjmd31, mw_16, Or.inl ⟨9, mjF9, 46, by decide +kernel, rfl, rfl, rfl, mw_1226, mw_1228, mjsel_80⟩⟩) ?_
    refine mj_all_cons 31 rfl (trivial) ?_
    refine mj_all_cons 32 rfl (trivial) ?_
    refine mj_all_cons 33 rfl (Or.inl ⟨2, by decide +kernel, rfl, rfl⟩) ?_
    refine mj_all_cons 34 rfl (Or.inl ⟨1, by decide +kernel, rfl, rfl⟩) ?_
    refine mj_all_cons 35 rfl (Or.inr ⟨by decide +kernel, rfl⟩) ?_
    refine mj_all_cons 36 rfl (trivial) ?_
    refine mj_all_cons 37 rfl (Or.inr ⟨by decide +kernel, rfl⟩) ?_
    refine mj_all_cons 38 rfl (trivial) ?_
    refine mj_all_cons 39 rfl (Or.inl ⟨3, by decide +kernel, rfl, rfl⟩) ?_
    refine mj_all_cons 40 rfl (show _ = _ from by decide +kernel) ?_
    refine mj_all_cons 41 rfl (trivial) ?_
    refine mj_all_cons 42 rfl (trivial) ?_
    refine mj_all_cons 43 rfl (Or.inl ⟨2, by decide +kernel, rfl, rfl⟩) ?_
    refine mj_all_cons 44 rfl (show _ = _ from by decide +kernel) ?_
    refine mj_all_cons 45 rfl (trivial) ?_
    refine mj_all_cons 46 rfl (trivial) ?_
    refine mj_all_cons 47 rfl (Or.inl ⟨0, by decide +kernel, rfl, rfl⟩) ?_
    refine mj_all_cons 48 rfl (Or.inl ⟨0, by decide +kernel, rfl, rfl⟩) ?_
    refine mj_all_cons 49 rfl (Or.inr ⟨by decide +kernel, rfl⟩) ?_
    refine mj_all_cons 50 rfl (trivial) ?_
    refine mj_all_cons 51 rfl (⟨mjmM5, 111, 1, rfl, by decide, mjmd5, mw_16, Or.inl ⟨9, mjF9, 46, by decide +kernel, rfl, rfl, rfl, mw_1197, mw_1199, mjsel_74⟩⟩) ?_
    refine mj_all_cons 52 rfl (trivial) ?_
    refine mj_all_cons 53 rfl (trivial) ?_
    refine mj_all_cons 54 rfl (⟨mjmM5, 111, 1, rfl, by decide, mjmd5, mw_16, Or.inl ⟨9, mjF9, 46, by decide +kernel, rfl, rfl, rfl, mw_1197, mw_1199, mjsel_74⟩⟩) ?_
    refine mj_all_cons 55 rfl (trivial) ?_
    refine mj_all_cons 56 rfl (trivial) ?_
    refine mj_all_cons 57 rfl (Or.inl ⟨0, by decide +kernel, rfl, rfl⟩) ?_
    refine mj_all_cons 58 rfl (Or.inl ⟨0, by decide +kernel, rfl, rfl⟩) ?_
    refine mj_all_cons 59 rfl (Or.inl ⟨3, by decide +kernel, rfl, rfl⟩) ?_
    refine mj_all_cons 60 rfl (⟨mjmM5, 111, 1, rfl, by decide, mjmd5, mw_16, Or.inl ⟨9, mjF9, 46, by decide +kernel, rfl, rfl, rfl, mw_1197, mw_1199, mjsel_74⟩⟩) ?_
    refine mj_all_cons 61 rfl (trivial) ?_
    refine mj_all_cons 62 rfl (trivial) ?_
    refine mj_all_cons 63 rfl (⟨mjmM5, 111, 1, rfl, by decide, mjmd5, mw_16, Or.inl ⟨9, mjF9, 46, by decide +kernel, rfl, rfl, rfl, mw_1197, mw_1199, mjsel_74⟩⟩) ?_
    refine mj_all_cons 64 rfl (trivial) ?_
    refine mj_all_cons 65 rfl (trivial) ?_
    refine mj_all_cons 66 rfl (show _ = _ from by decide +kernel) ?_
    refine mj_all_cons 67 rfl (trivial) ?_
    refine mj_all_cons 68 rfl (trivial) ?_
    refine mj_all_cons 69 rfl (Or.inl ⟨by decide +kernel, rfl⟩) ?_
    refine mj_all_cons 70 rfl (show _ = _ from by decide +kernel) ?_
    refine mj_all_cons 71 rfl (trivial) ?_
    refine mj_all_cons 72 rfl (trivial) ?_
    refine mj_all_cons 73 rfl (Or.inl ⟨by decide +kernel, rfl⟩) ?_
    refine mj_all_cons 74 rfl (Or.inl ⟨2, by decide +kernel, rfl, rfl⟩) ?_
    refine mj_all_cons 75 rfl (Or.inl ⟨0, by decide +kernel, rfl, rfl⟩) ?_
    refine mj_all_cons 76 rfl (Or.inr ⟨by decide +kernel, rfl⟩) ?_
    refine mj_all_cons 77 rfl (trivial) ?_
    refine mj_all_cons 78 rfl (⟨mjmM6, 107, 1, rfl, by decide, mjmd6, mw_16, Or.inl ⟨9, mjF9, 46, by decide +kernel, rfl, rfl, rfl, mw_1210, mw_1212, mjsel_77⟩⟩) ?_
    refine mj_all_cons 79 rfl (trivial) ?_
    refine mj_all_cons 80 rfl (trivial) ?_
    refine mj_all_cons 81 rfl (Or.inr ⟨by decide +kernel, rfl⟩) ?_
    refine mj_all_cons 82 rfl (trivial) ?_
    refine mj_all_cons 83 rfl (show _ = _ from by decide +kernel) ?_
    refine mj_all_cons 84 rfl (trivial) ?_
    refine mj_all_cons 85 rfl (trivial) ?_
    refine mj_all_cons 86 rfl (Or.inl ⟨0, by decide +kernel, rfl, rfl⟩) ?_
    refine mj_all_cons 87 rfl (Or.inl ⟨3, by decide +kernel, rfl, rfl⟩) ?_
    refine mj_all_cons 88 rfl (⟨mjmM6, 107, 1, rfl, by decide, mjmd6, mw_16, Or.inl ⟨9, mjF9, 46, by decide +kernel, rfl, rfl, rfl, mw_1210, mw_1212, mjsel_77⟩⟩) ?_
    refine mj_all_cons 89 rfl (trivial) ?_
    refine mj_all_cons 90 rfl (trivial) ?_
    refine mj_all_cons 91 rfl (Or.inl ⟨3, by decide +kernel, rfl, rfl⟩) ?_
    refine mj_all_cons 92 rfl (show _ = _ from by decide +kernel) ?_
    refine mj_all_cons 93 rfl (trivial) ?_
    refine mj_all_cons 94 rfl (trivial) ?_
    refine mj_all_cons 95 rfl (Or.inl ⟨2, by decide +kernel, rfl, rfl⟩) ?_
    refine mj_all_cons 96 rfl (show _ = _ from by decide +kernel) ?_
    exact trivial
  intro pc o ho
  have := mj_all_get _ 0 h pc o ho
  rw [Nat.zero_add] at this
  exact this
set_option maxRecDepth 100000 in
theorem mjmi33 : ∀ (pc : Nat) (o : mj_O), mjmo33[pc]? = some o → mj_is mj_kl mjmM33.1.cls mj_WS mj_NWs mjm_Ms mjmM33.2.1 pc o := by
  have h : mj_all (mj_is mj_kl mjmM33.1.cls mj_WS mj_NWs mjm_Ms mjmM33.2.1) 0 mjmo33 := by
    unfold mjmo33
    refine mj_all_cons 1 rfl (Or.inl ⟨0, by decide +kernel, rfl, rfl⟩) ?_
    refine mj_all_cons 2 rfl (Or.inl ⟨1, by decide +kernel, rfl, rfl⟩) ?_
    refine mj_all_cons 3 rfl (⟨mjmM7, 207, 1, rfl, by decide, mjmd7, mw_16, Or.inl ⟨9, mjF9, 46, by decide +kernel, rfl, rfl, rfl, mw_1206, mw_1208, mjsel_76⟩⟩) ?_
    refine mj_all_cons 4 rfl (trivial) ?_
    refine mj_all_cons 5 rfl (trivial) ?_
    refine mj_all_cons 6 rfl (show _ = _ from by decide +kernel) ?_
    refine mj_all_cons 7 rfl (trivial) ?_
    refine mj_all_cons 8 rfl (trivial) ?_
    refine mj_all_cons 9 rfl (Or.inl ⟨0, by decide +kernel, rfl, rfl⟩) ?_
    refine mj_all_cons 10 rfl (Or.inl ⟨1, by decide +kernel, rfl, rfl⟩) ?_
    refine mj_all_cons 11 rfl (⟨mjmM7, 207, 1, rfl, by decide, mjmd7, mw_16, Or.inl ⟨9, mjF9, 46, by decide +kernel, rfl, rfl, rfl, mw_1206, mw_1208, mjsel_76⟩⟩) ?_
    refine mj_all_cons 12 rfl (trivial) ?_
    refine mj_all_cons 13 rfl (trivial) ?_
    refine mj_all_cons 14 rfl (Or.inl ⟨by decide +kernel, rfl⟩) ?_
    refine mj_all_cons 15 rfl (show _ = _ from by decide +kernel) ?_
    refine mj_all_cons 16 rfl (trivial) ?_
    refine mj_all_cons 17 rfl (trivial) ?_
    refine mj_all_cons 18 rfl (Or.inl ⟨by decide +kernel, rfl⟩) ?_
    refine mj_all_cons 19 rfl (show _ = _ from by decide +kernel) ?_
    refine mj_all_cons 20 rfl (trivial) ?_
    refine mj_all_cons 21 rfl (trivial) ?_
    refine mj_all_cons 22 rfl (Or.inl ⟨by decide +kernel, rfl⟩) ?_
    refine mj_all_cons 23 rfl (Or.inl ⟨2, by decide +kernel, rfl, rfl⟩) ?_
    refine mj_all_cons 24 rfl (Or.inl ⟨1, by decide +kernel, rfl, rfl⟩) ?_
    refine mj_all_cons 25 rfl (Or.inl ⟨3, by decide +kernel, rfl, rfl⟩) ?_
    refine mj_all_cons 26 rfl (Or.inl ⟨3, by decide +kernel, rfl, rfl⟩) ?_
    refine mj_all_cons 27 rfl (⟨mjmM3, 103, 1, rfl, by decide, mjmd3, mw_16, Or.inr (Or.inl ⟨by decide +kernel, rfl, rfl, mw_1194, mw_1195⟩)⟩) ?_
    refine mj_all_cons 28 rfl (trivial) ?_
    refine mj_all_cons 29 rfl (trivial) ?_
    refine mj_all_cons 30 rfl (show _ = _ from by decide +kernel) ?_
    refine mj_all_cons 31 rfl (trivial) ?_
    refine mj_all_cons 32 rfl (trivial) ?_
    refine mj_all_cons 33 rfl (Or.inl ⟨2, by decide +kernel, rfl, rfl⟩) ?_
    refine mj_all_cons 34 rfl (show _ = _ from by decide +kernel) ?_
    refine mj_all_cons 35 rfl (trivial) ?_
    refine mj_all_cons 36 rfl (trivial) ?_
    refine mj_all_cons 37 rfl (Or.inl ⟨0, by decide +kernel, rfl, rfl⟩) ?_
    refine mj_all_cons 38 rfl (Or.inl ⟨0, by decide +kernel, rfl, rfl⟩) ?_
    refine mj_all_cons 39 rfl (Or.inl ⟨3, by decide +kernel, rfl, rfl⟩) ?_
    refine mj_all_cons 40 rfl (⟨mjmM5, 111, 1, rfl, by decide, mjmd5, mw_16, Or.inl ⟨9, mjF9, 46, by decide +kernel, rfl, rfl, rfl, mw_1197, mw_1199, mjsel_74⟩⟩) ?_
    refine mj_all_cons 41 rfl (trivial) ?_
    refine mj_all_cons 42 rfl (trivial) ?_
    refine mj_all_cons 43 rfl (⟨mjmM31, 217, 1, rfl, by decide, mjmd31, mw_16, Or.inl ⟨9, mjF9, 46, by decide +kernel, rfl, rfl, rfl, mw_1226, mw_1228, mjsel_80⟩⟩) ?_
    refine mj_all_cons 44 rfl (trivial) ?_
    refine mj_all_cons 45 rfl (trivial) ?_
    refine mj_all_cons 46 rfl (Or.inl ⟨2, by decide +kernel, rfl, rfl⟩) ?_
    refine mj_all_cons 47 rfl (Or.inl ⟨1, by decide +kernel, rfl, rfl⟩) ?_
    refine mj_all_cons 48 rfl (Or.inr ⟨by decide +kernel, rfl⟩) ?_
    refine mj_all_cons 49 rfl (trivial) ?_
    refine mj_all_cons 50 rfl (Or.inr ⟨by decide +kernel, rfl⟩) ?_
    refine mj_all_cons 51 rfl (trivial) ?_
    refine mj_all_cons 52 rfl (Or.inl ⟨3, by decide +kernel, rfl, rfl⟩) ?_
    refine mj_all_cons 53 rfl (show _ = _ from by decide +kernel) ?_
    refine mj_all_cons 54 rfl (trivial) ?_
    refine mj_all_cons 55 rfl (trivial) ?_
    refine mj_all_cons 56 rfl (Or.inl ⟨2, by decide +kernel, rfl, rfl⟩) ?_
    refine mj_all_cons 57 rfl (show _ = _ from by decide +kernel) ?_
    refine mj_all_cons 58 rfl (trivial) ?_
    refine mj_all_cons 59 rfl (trivial) ?_
    refine mj_all_cons 60 rfl (Or.inl ⟨0, by decide +kernel, rfl, rfl⟩) ?_
    refine mj_all_cons 61 rfl (Or.inr ⟨by decide +kernel, rfl⟩) ?_
    refine mj_all_cons 62 rfl (trivial) ?_
    refine mj_all_cons 63 rfl (⟨mjmM5, 111, 1, rfl, by decide, mjmd5, mw_16, Or.inl ⟨9, mjF9, 46, by decide +kernel, rfl, rfl, rfl, mw_1197, mw_1199, mjsel_74⟩⟩) ?_
    refine mj_all_cons 64 rfl (trivial) ?_
    refine mj_all_cons 65 rfl (trivial) ?_
    refine mj_all_cons 66 rfl (Or.inl ⟨0, by decide +kernel, rfl, rfl⟩) ?_
    refine mj_all_cons 67 rfl (Or.inl ⟨3, by decide +kernel, rfl, rfl⟩) ?_
    refine mj_all_cons 68 rfl (⟨mjmM5, 111, 1, rfl, by decide, mjmd5, mw_16, Or.inl ⟨9, mjF9, 46, by decide +kernel, rfl, rfl, rfl, mw_1197, mw_1199, mjsel_74⟩⟩) ?_
    refine mj_all_cons 69 rfl (trivial) ?_
    refine mj_all_cons 70 rfl (trivial) ?_
    refine mj_all_cons 71 rfl (show _ = _ from by decide +kernel) ?_
    refine mj_all_cons 72 rfl (trivial) ?_
    refine mj_all_cons 73 rfl (trivial) ?_
    refine mj_all_cons 74 rfl (Or.inl ⟨by decide +kernel, rfl⟩) ?_
    refine mj_all_cons 75 rfl (show _ = _ from by decide +kernel) ?_
    refine mj_all_cons 76 rfl (trivial) ?_
    refine mj_all_cons 77 rfl (trivial) ?_
    refine mj_all_cons 78 rfl (Or.inl ⟨by decide +kernel, rfl⟩) ?_
    refine mj_all_cons 79 rfl (Or.inl ⟨2, by decide +kernel, rfl, rfl⟩) ?_
    refine mj_all_cons 80 rfl (Or.inl ⟨0, by decide +kernel, rfl, rfl⟩) ?_
    refine mj_all_cons 81 rfl (Or.inr ⟨by decide +kernel, rfl⟩) ?_
    refine mj_all_cons 82 rfl (trivial) ?_
    refine mj_all_cons 83 rfl (⟨mjmM6, 107, 1, rfl, by decide, mjmd6, mw_16, Or.inl ⟨9, mjF9, 46, by decide +kernel, rfl, rfl, rfl, mw_1210, mw_1212, mjsel_77⟩⟩) ?_
    refine mj_all_cons 84 rfl (trivial) ?_
    refine mj_all_cons 85 rfl (trivial) ?_
    refine mj_all_cons 86 rfl (Or.inr ⟨by decide +kernel, rfl⟩) ?_
    refine mj_all_cons 87 rfl (trivial) ?_
    refine mj_all_cons 88 rfl (show _ = _ from by decide +kernel) ?_
    refine mj_all_cons 89 rfl (trivial) ?_
    refine mj_all_cons 90 rfl (trivial) ?_
    refine mj_all_cons 91 rfl (Or.inl ⟨0, by decide +kernel, rfl, rfl⟩) ?_
    refine mj_all_cons 92 rfl (Or.inl ⟨3, by decide +kernel, rfl, rfl⟩) ?_
    refine mj_all_cons 93 rfl (⟨mjmM6, 107, 1, rfl, by decide, mjmd6, mw_16, Or.inl ⟨9, mjF9, 46, by decide +kernel, rfl, rfl, rfl, mw_1210, mw_1212, mjsel_77⟩⟩) ?_
    refine mj_all_cons 94 rfl (trivial) ?_
    refine mj_all_cons 95 rfl (trivial) ?_
    refine mj_all_cons 96 rfl (Or.inl ⟨3, by decide +kernel, rfl, rfl⟩) ?_
    refine mj_all_cons 97 rfl (show _ = _ from by decide +kernel) ?_
    refine mj_all_cons 98 rfl (trivial) ?_
    refine mj_all_cons 99 rfl (trivial) ?_
    refine mj_all_cons 100 rfl (Or.inl ⟨2, by decide +kernel, rfl, rfl⟩) ?_
    refine mj_all_cons 101 rfl (show _ = _ from by decide +kernel) ?_
    exact trivial
  intro pc o ho
  have := mj_all_get _ 0 h pc o ho
  rw [Nat.zero_add] at this
  exact this
set_option maxRecDepth 100000 in
theorem mjmi34 : ∀ (pc : Nat) (o : mj_O), mjmo34[pc]? = some o → mj_is mj_kl mjmM34.1.cls mj_WS mj_NWs mjm_Ms mjmM34.2.1 pc o := by
  have h : mj_all (mj_is mj_kl mjmM34.1.cls mj_WS mj_NWs mjm_Ms mjmM34.2.1) 0 mjmo34 := by
    unfold mjmo34
    refine mj_all_cons 1 rfl (Or.inl ⟨by decide +kernel, rfl⟩) ?_
    refine mj_all_cons 2 rfl (Or.inl ⟨2, by decide +kernel, rfl, rfl⟩) ?_
    refine mj_all_cons 3 rfl (Or.inl ⟨2, by decide +kernel, rfl, rfl⟩) ?_
    refine mj_all_cons 4 rfl (Or.inl ⟨0, by decide +kernel, rfl, rfl⟩) ?_
    refine mj_all_cons 5 rfl (⟨220, "ListSpeakerModel", mjF9, 46, by decide +kernel, rfl, by decide, mw_997, mjw9⟩) ?_
    refine mj_all_cons 6 rfl (trivial) ?_
    refine mj_all_cons 7 rfl (trivial) ?_
    refine mj_all_cons 8 rfl (show _ = _ from by decide +kernel) ?_
    refine mj_all_cons 9 rfl (trivial) ?_
    refine mj_all_cons 10 rfl (trivial) ?_
    refine mj_all_cons 11 rfl (Or.inl ⟨0, by decide +kernel, rfl, rfl⟩) ?_
    refine mj_all_cons 12 rfl (⟨48, "ListSpeakerModel", mjF9, 46, by decide +kernel, rfl, by decide, mw_998, mjw9⟩) ?_
    refine mj_all_cons 13 rfl (trivial) ?_
    refine mj_all_cons 14 rfl (trivial) ?_
    refine mj_all_cons 15 rfl (Or.inl ⟨2, by decide +kernel, rfl, rfl⟩) ?_
    refine mj_all_cons 16 rfl (show _ = _ from by decide +kernel) ?_
    refine mj_all_cons 17 rfl (Or.inl ⟨1, by decide +kernel, rfl, rfl⟩) ?_
    refine mj_all_cons 18 rfl (show _ = _ from by decide +kernel) ?_
    refine mj_all_cons 19 rfl (trivial) ?_
    refine mj_all_cons 20 rfl (trivial) ?_
    refine mj_all_cons 21 rfl (Or.inl ⟨2, by decide +kernel, rfl, rfl⟩) ?_
    refine mj_all_cons 22 rfl (show _ = _ from by decide +kernel) ?_
    refine mj_all_cons 23 rfl (show _ = _ from by decide +kernel) ?_
    refine mj_all_cons 24 rfl (trivial) ?_
    refine mj_all_cons 25 rfl (trivial) ?_
    refine mj_all_cons 26 rfl (show _ = _ from by decide +kernel) ?_
    refine mj_all_cons 27 rfl (trivial) ?_
    refine mj_all_cons 28 rfl (trivial) ?_
    refine mj_all_cons 29 rfl (Or.inl ⟨by decide +kernel, rfl⟩) ?_
    refine mj_all_cons 30 rfl (show _ = _ from by decide +kernel) ?_
    exact trivial
  intro pc o ho
  have := mj_all_get _ 0 h pc o ho
  rw [Nat.zero_add] at this
  exact this
set_option maxRecDepth 100000 in
theorem mjmi35 : ∀ (pc : Nat) (o : mj_O), mjmo35[pc]? = some o → mj_is mj_kl mjmM35.1.cls mj_WS mj_NWs mjm_Ms mjmM35.2.1 pc o := by
  have h : mj_all (mj_is mj_kl mjmM35.1.cls mj_WS mj_NWs mjm_Ms mjmM35.2.1) 0 mjmo35 := by
    unfold mjmo35
    refine mj_all_cons 1 rfl (Or.inl ⟨0, by decide +kernel, rfl, rfl⟩) ?_
    refine mj_all_cons 2 rfl (Or.inl ⟨1, by decide +kernel, rfl, rfl⟩) ?_
    refine mj_all_cons 3 rfl (⟨mjmM7, 207, 1, rfl, by decide, mjmd7, mw_16, Or.inl ⟨9, mjF9, 46, by decide +kernel, rfl, rfl, rfl, mw_1206, mw_1208, mjsel_76⟩⟩) ?_
    refine mj_all_cons 4 rfl (trivial) ?_
    refine mj_all_cons 5 rfl (trivial) ?_
    refine mj_all_cons 6 rfl (Or.inl ⟨by decide +kernel, rfl⟩) ?_
    refine mj_all_cons 7 rfl (show _ = _ from by decide +kernel) ?_
    refine mj_all_cons 8 rfl (trivial) ?_
    refine mj_all_cons 9 rfl (trivial) ?_
    refine mj_all_cons 10 rfl (Or.inl ⟨0, by decide +kernel, rfl, rfl⟩) ?_
    refine mj_all_cons 11 rfl (Or.inl ⟨1, by decide +kernel, rfl, rfl⟩) ?_
    refine mj_all_cons 12 rfl (Or.inl ⟨by decide +kernel, rfl⟩) ?_
    refine mj_all_cons 13 rfl (⟨mjmM8, 193, 2, rfl, by decide, mjmd8, mw_16, Or.inl ⟨9, mjF9, 46, by decide +kernel, rfl, rfl, rfl, mw_1214, mw_1216, mjsel_78⟩⟩) ?_
    refine mj_all_cons 14 rfl (trivial) ?_
    refine mj_all_cons 15 rfl (trivial) ?_
    refine mj_all_cons 16 rfl (⟨mjmM4, 200, 1, rfl, by decide, mjmd4, mw_16, Or.inr (Or.inl ⟨by decide +kernel, rfl, rfl, mw_1218, mw_1219⟩)⟩) ?_
    refine mj_all_cons 17 rfl (trivial) ?_
    refine mj_all_cons 18 rfl (trivial) ?_
    refine mj_all_cons 19 rfl (show _ = _ from by decide +kernel) ?_
    refine mj_all_cons 20 rfl (trivial) ?_
    refine mj_all_cons 21 rfl (trivial) ?_
    refine mj_all_cons 22 rfl (Or.inl ⟨0, by decide +kernel, rfl, rfl⟩) ?_
    refine mj_all_cons 23 rfl (Or.inl ⟨1, by decide +kernel, rfl, rfl⟩) ?_
    refine mj_all_cons 24 rfl (Or.inl ⟨by decide +kernel, rfl⟩) ?_
    refine mj_all_cons 25 rfl (⟨mjmM8, 193, 2, rfl, by decide, mjmd8, mw_16, Or.inl ⟨9, mjF9, 46, by decide +kernel, rfl, rfl, rfl, mw_1214, mw_1216, mjsel_78⟩⟩) ?_
    refine mj_all_cons 26 rfl (trivial) ?_
    refine mj_all_cons 27 rfl (trivial) ?_
    refine mj_all_cons 28 rfl (Or.inr (Or.inr (Or.inr (Or.inl ⟨223, by decide +kernel, rfl, mw_1221⟩)))) ?_
    refine mj_all_cons 29 rfl (trivial) ?_
    refine mj_all_cons 30 rfl (show _ = _ from by decide +kernel) ?_
    refine mj_all_cons 31 rfl (trivial) ?_
    refine mj_all_cons 32 rfl (trivial) ?_
    refine mj_all_cons 33 rfl (Or.inl ⟨0, by decide +kernel, rfl, rfl⟩) ?_
    refine mj_all_cons 34 rfl (Or.inl ⟨0, by decide +kernel, rfl, rfl⟩) ?_
    refine mj_all_cons 35 rfl (Or.inl ⟨1, by decide +kernel, rfl, rfl⟩) ?_
    refine mj_all_cons 36 rfl (Or.inl ⟨by decide +kernel, rfl⟩) ?_
    refine mj_all_cons 37 rfl (⟨mjmM8, 193, 2, rfl, by decide, mjmd8, mw_16, Or.inl ⟨9, mjF9, 46, by decide +kernel, rfl, rfl, rfl, mw_1214, mw_1216, mjsel_78⟩⟩) ?_
    refine mj_all_cons 38 rfl (trivial) ?_
    refine mj_all_cons 39 rfl (trivial) ?_
    refine mj_all_cons 40 rfl (⟨mjmM33, 224, 1, rfl, by decide, mjmd33, mw_16, Or.inl ⟨9, mjF9, 46, by decide +kernel, rfl, rfl, rfl, mw_1222, mw_1224, mjsel_79⟩⟩) ?_
    refine mj_all_cons 41 rfl (trivial) ?_
    refine mj_all_cons 42 rfl (trivial) ?_
    refine mj_all_cons 43 rfl (show _ = _ from by decide +kernel) ?_
    refine mj_all_cons 44 rfl (trivial) ?_
    refine mj_all_cons 45 rfl (trivial) ?_
    refine mj_all_cons 46 rfl (Or.inl ⟨by decide +kernel, rfl⟩) ?_
    refine mj_all_cons 47 rfl (show _ = _ from by decide +kernel) ?_
    refine mj_all_cons 48 rfl (trivial) ?_
    refine mj_all_cons 49 rfl (trivial) ?_
    refine mj_all_cons 50 rfl (Or.inl ⟨by decide +kernel, rfl⟩) ?_
    refine mj_all_cons 51 rfl (Or.inl ⟨2, by decide +kernel, rfl, rfl⟩) ?_
    refine mj_all_cons 52 rfl (Or.inl ⟨2, by decide +kernel, rfl, rfl⟩) ?_
    refine mj_all_cons 53 rfl (show _ = _ from by decide +kernel) ?_
    refine mj_all_cons 54 rfl (trivial) ?_
    refine mj_all_cons 55 rfl (trivial) ?_
    refine mj_all_cons 56 rfl (Or.inl ⟨0, by decide +kernel, rfl, rfl⟩) ?_
    refine mj_all_cons 57 rfl (Or.inl ⟨by decide +kernel, rfl⟩) ?_
    refine mj_all_cons 58 rfl (⟨mjmM2, 138, 1, rfl, by decide, mjmd2, mw_16, Or.inl ⟨9, mjF9, 46, by decide +kernel, rfl, rfl, rfl, mw_1146, mw_1148, mjsel_65⟩⟩) ?_
    refine mj_all_cons 59 rfl (trivial) ?_
    refine mj_all_cons 60 rfl (trivial) ?_
    refine mj_all_cons 61 rfl (show _ = _ from by decide +kernel) ?_
    refine mj_all_cons 62 rfl (Or.inl ⟨by decide +kernel, rfl⟩) ?_
    refine mj_all_cons 63 rfl (show _ = _ from by decide +kernel) ?_
    refine mj_all_cons 64 rfl (Or.inl ⟨0, by decide +kernel, rfl, rfl⟩) ?_
    refine mj_all_cons 65 rfl (Or.inl ⟨1, by decide +kernel, rfl, rfl⟩) ?_
    refine mj_all_cons 66 rfl (Or.inl ⟨by decide +kernel, rfl⟩) ?_
    refine mj_all_cons 67 rfl (⟨mjmM8, 193, 2, rfl, by decide, mjmd8, mw_16, Or.inl ⟨9, mjF9, 46, by decide +kernel, rfl, rfl, rfl, mw_1214, mw_1216, mjsel_78⟩⟩) ?_
    refine mj_all_cons 68 rfl (trivial) ?_
    refine mj_all_cons 69 rfl (trivial) ?_
    refine mj_all_cons 70 rfl (Or.inl ⟨3, by decide +kernel, rfl, rfl⟩) ?_
    refine mj_all_cons 71 rfl (Or.inl ⟨0, by decide +kernel, rfl, rfl⟩) ?_
    refine mj_all_cons 72 rfl (Or.inl ⟨1, by decide +kernel, rfl, rfl⟩) ?_
    refine mj_all_cons 73 rfl (Or.inl ⟨by decide +kernel, rfl⟩) ?_
    refine mj_all_cons 74 rfl (⟨mjmM8, 193, 2, rfl, by decide, mjmd8, mw_16, Or.inl ⟨9, mjF9, 46, by decide +kernel, rfl, rfl, rfl, mw_1214, mw_1216, mjsel_78⟩⟩) ?_
    refine mj_all_cons 75 rfl (trivial) ?_
    refine mj_all_cons 76 rfl (trivial) ?_
    refine mj_all_cons 77 rfl (Or.inr ⟨by decide +kernel, rfl⟩) ?_
    refine mj_all_cons 78 rfl (trivial) ?_
    refine mj_all_cons 79 rfl (Or.inr ⟨by decide +kernel, rfl⟩) ?_
    refine mj_all_cons 80 rfl (trivial) ?_
    refine mj_all_cons 81 rfl (⟨mjmM3, 103, 1, rfl, by decide, mjmd3, mw_16, Or.inr (Or.inl ⟨by decide +kernel, rfl, rfl, mw_1194, mw_1195⟩)⟩) ?_
    refine mj_all_cons 82 rfl (trivial) ?_
    refine mj_all_cons 83 rfl (trivial) ?_
    refine mj_all_cons 84 rfl (show _ = _ from by decide +kernel) ?_
    refine mj_all_cons 85 rfl (trivial) ?_
    refine mj_all_cons 86 rfl (trivial) ?_
    refine mj_all_cons 87 rfl (Or.inl ⟨0, by decide +kernel, rfl, rfl⟩) ?_
    refine mj_all_cons 88 rfl (Or.inl ⟨0, by decide +kernel, rfl, rfl⟩) ?_
    refine mj_all_cons 89 rfl (Or.inr ⟨by decide +kernel, rfl⟩) ?_
    refine mj_all_cons 90 rfl (trivial) ?_
    refine mj_all_cons 91 rfl (⟨mjmM5, 111, 1, rfl, by decide, mjmd5, mw_16, Or.inl ⟨9, mjF9, 46, by decide +kernel, rfl, rfl, rfl, mw_1197, mw_1199, mjsel_74⟩⟩) ?_
    refine mj_all_cons 92 rfl (trivial) ?_
    refine mj_all_cons 93 rfl (trivial) ?_
    refine mj_all_cons 94 rfl (Or.inl ⟨by decide +kernel, rfl⟩) ?_
    refine mj_all_cons 95 rfl (⟨mjmM25, 196, 2, rfl, by decide, mjmd25, mw_16, Or.inl ⟨9, mjF9, 46, by decide +kernel, rfl, rfl, rfl, mw_1231, mw_1233, mjsel_81⟩⟩) ?_
    refine mj_all_cons 96 rfl (trivial) ?_
    refine mj_all_cons 97 rfl (trivial) ?_
    refine mj_all_cons 98 rfl (Or.inl ⟨0, by decide +kernel, rfl, rfl⟩) ?_
    refine mj_all_cons 99 rfl (Or.inr ⟨by decide +kernel, rfl⟩) ?_
    refine mj_all_cons 100 rfl (trivial) ?_
    refine mj_all_cons 101 rfl (⟨mjmM6, 107, 1, rfl, by decide, mjmd6, mw_16, Or.inl ⟨9, mjF9, 46, by decide +kernel, rfl, rfl, rfl, mw_1210, mw_1212, mjsel_77⟩⟩) ?_
    refine mj_all_cons 102 rfl (trivial) ?_
    refine mj_all_cons 103 rfl (trivial) ?_
    refine mj_all_cons 104 rfl (Or.inr ⟨by decide +kernel, rfl⟩) ?_
    refine mj_all_cons 105 rfl (trivial) ?_
    refine mj_all_cons 106 rfl (show _ = _ from by decide +kernel) ?_
    refine mj_all_cons 107 rfl (trivial) ?_
    refine mj_all_cons 108 rfl (trivial) ?_
    refine mj_all_cons 109 rfl (Or.inl ⟨0, by decide +kernel, rfl, rfl⟩) ?_
    refine mj_all_cons 110 rfl (Or.inl ⟨0, by decide +kernel, rfl, rfl⟩) ?_
    refine mj_all_cons 111 rfl (Or.inl ⟨1, by decide +kernel, rfl, rfl⟩) ?_
    refine mj_all_cons 112 rfl (Or.inl ⟨by decide +kernel, rfl⟩) ?_
    refine mj_all_cons 113 rfl (⟨mjmM8, 193, 2, rfl, by decide, mjmd8, mw_16, Or.inl ⟨9, mjF9, 46, by decide +kernel, rfl, rfl, rfl, mw_1214, mw_1216, mjsel_78⟩⟩) ?_
    refine mj_all_cons 114 rfl (trivial) ?_
    refine mj_all_cons 115 rfl (trivial) ?_
    refine mj_all_cons 116 rfl (⟨mjmM27, 227, 1, rfl, by decide, mjmd27, mw_16, Or.inl ⟨9, mjF9, 46, by decide +kernel, rfl, rfl, rfl, mw_1235, mw_1237, mjsel_82⟩⟩) ?_
    refine mj_all_cons 117 rfl (trivial) ?_
    refine mj_all_cons 118 rfl (trivial) ?_
    refine mj_all_cons 119 rfl (Or.inl ⟨0, by decide +kernel, rfl, rfl⟩) ?_
    refine mj_all_cons 120 rfl (⟨98, "ListSpeakerModel", mjF9, 46, by decide +kernel, rfl, by decide, mw_980, mjw9⟩) ?_
    refine mj_all_cons 121 rfl (trivial) ?_
    refine mj_all_cons 122 rfl (trivial) ?_
    refine mj_all_cons 123 rfl (show _ = _ from by decide +kernel) ?_
    refine mj_all_cons 124 rfl (trivial) ?_
    refine mj_all_cons 125 rfl (trivial) ?_
    refine mj_all_cons 126 rfl (Or.inl ⟨by decide +kernel, rfl⟩) ?_
    refine mj_all_cons 127 rfl (show _ = _ from by decide +kernel) ?_
    refine mj_all_cons 128 rfl (Or.inl ⟨0, by decide +kernel, rfl, rfl⟩) ?_
    refine mj_all_cons 129 rfl (Or.inl ⟨3, by decide +kernel, rfl, rfl⟩) ?_
    refine mj_all_cons 130 rfl (⟨mjmM34, 230, 1, rfl, by decide, mjmd34, mw_16, Or.inl ⟨9, mjF9, 46, by decide +kernel, rfl, rfl, rfl, mw_1263, mw_1265, mjsel_89⟩⟩) ?_
    refine mj_all_cons 131 rfl (trivial) ?_
    refine mj_all_cons 132 rfl (trivial) ?_
    refine mj_all_cons 133 rfl (Or.inr ⟨by decide +kernel, rfl⟩) ?_
    refine mj_all_cons 134 rfl (trivial) ?_
    refine mj_all_cons 135 rfl (Or.inr ⟨by decide +kernel, rfl⟩) ?_
    refine mj_all_cons 136 rfl (trivial) ?_
    refine mj_all_cons 137 rfl (show _ = _ from by decide +kernel) ?_
    refine mj_all_cons 138 rfl (trivial) ?_
    refine mj_all_cons 139 rfl (trivial) ?_
    refine mj_all_cons 140 rfl (Or.inl ⟨0, by decide +kernel, rfl, rfl⟩) ?_
    refine mj_all_cons 141 rfl (Or.inl ⟨0, by decide +kernel, rfl, rfl⟩) ?_
    refine mj_all_cons 142 rfl (⟨51, "ListSpeakerModel", mjF9, 46, by decide +kernel, rfl, by decide, mw_999, mjw9⟩) ?_
    refine mj_all_cons 143 rfl (trivial) ?_
    refine mj_all_cons 144 rfl (trivial) ?_
    refine mj_all_cons 145 rfl (Or.inr ⟨by decide +kernel, rfl⟩) ?_
    refine mj_all_cons 146 rfl (trivial) ?_
    refine mj_all_cons 147 rfl (show _ = _ from by decide +kernel) ?_
    refine mj_all_cons 148 rfl (Or.inl ⟨0, by decide +kernel, rfl, rfl⟩) ?_
    refine mj_all_cons 149 rfl (Or.inl ⟨1, by decide +kernel, rfl, rfl⟩) ?_
    refine mj_all_cons 150 rfl (Or.inl ⟨by decide +kernel, rfl⟩) ?_
    refine mj_all_cons 151 rfl (⟨mjmM8, 193, 2, rfl, by decide, mjmd8, mw_16, Or.inl ⟨9, mjF9, 46, by decide +kernel, rfl, rfl, rfl, mw_1214, mw_1216, mjsel_78⟩⟩) ?_
    refine mj_all_cons 152 rfl (trivial) ?_
    refine mj_all_cons 153 rfl (trivial) ?_
    refine mj_all_cons 154 rfl (Or.inl ⟨by decide +kernel, rfl⟩) ?_
    refine mj_all_cons 155 rfl (⟨mjmM36, 233, 3, rfl, by decide, mjmd36, mw_16, Or.inl ⟨9, mjF9, 46, by decide +kernel, rfl, rfl, rfl, mw_1267, mw_1269, mjsel_90⟩⟩) ?_
    refine mj_all_cons 156 rfl (trivial) ?_
    refine mj_all_cons 157 rfl (trivial) ?_
    refine mj_all_cons 158 rfl (show _ = _ from by decide +kernel) ?_
    refine mj_all_cons 159 rfl (trivial) ?_
    refine mj_all_cons 160 rfl (trivial) ?_
    refine mj_all_cons 161 rfl (Or.inl ⟨0, by decide +kernel, rfl, rfl⟩) ?_
    refine mj_all_cons 162 rfl (Or.inl ⟨0, by decide +kernel, rfl, rfl⟩) ?_
    refine mj_all_cons 163 rfl (⟨54, "ListSpeakerModel", mjF9, 46, by decide +kernel, rfl, by decide, mw_1000, mjw9⟩) ?_
    refine mj_all_cons 164 rfl (trivial) ?_
    refine mj_all_cons 165 rfl (trivial) ?_
    refine mj_all_cons 166 rfl (Or.inr ⟨by decide +kernel, rfl⟩) ?_
    refine mj_all_cons 167 rfl (trivial) ?_
    refine mj_all_cons 168 rfl (show _ = _ from by decide +kernel) ?_
    refine mj_all_cons 169 rfl (Or.inl ⟨0, by decide +kernel, rfl, rfl⟩) ?_
    refine mj_all_cons 170 rfl (Or.inl ⟨1, by decide +kernel, rfl, rfl⟩) ?_
    refine mj_all_cons 171 rfl (Or.inl ⟨by decide +kernel, rfl⟩) ?_
    refine mj_all_cons 172 rfl (⟨mjmM8, 193, 2, rfl, by decide, mjmd8, mw_16, Or.inl ⟨9, mjF9, 46, by decide +kernel, rfl, rfl, rfl, mw_1214, mw_1216, mjsel_78⟩⟩) ?_
    refine mj_all_cons 173 rfl (trivial) ?_
    refine mj_all_cons 174 rfl (trivial) ?_
    refine mj_all_cons 175 rfl (Or.inl ⟨by decide +kernel, rfl⟩) ?_
    refine mj_all_cons 176 rfl (⟨mjmM36, 233, 3, rfl, by decide, mjmd36, mw_16, Or.inl ⟨9, mjF9, 46, by decide +kernel, rfl, rfl, rfl, mw_1267, mw_1269, mjsel_90⟩⟩) ?_
    refine mj_all_cons 177 rfl (trivial) ?_
    refine mj_all_cons 178 rfl (trivial) ?_
    refine mj_all_cons 179 rfl (show _ = _ from by decide +kernel) ?_
    refine mj_all_cons 180 rfl (trivial) ?_
    refine mj_all_cons 181 rfl (trivial) ?_
    refine mj_all_cons 182 rfl (Or.inl ⟨0, by decide +kernel, rfl, rfl⟩) ?_
    refine mj_all_cons 183 rfl (Or.inr (Or.inl ⟨by decide +kernel, rfl, by decide⟩)) ?_
    refine mj_all_cons 184 rfl (trivial) ?_
    refine mj_all_cons 185 rfl (⟨mjmM2, 138, 1, rfl, by decide, mjmd2, mw_16, Or.inl ⟨9, mjF9, 46, by decide +kernel, rfl, rfl, rfl, mw_1146, mw_1148, mjsel_65⟩⟩) ?_
    refine mj_all_cons 186 rfl (trivial) ?_
    refine mj_all_cons 187 rfl (trivial) ?_
    refine mj_all_cons 188 rfl (show _ = _ from by decide +kernel) ?_
    refine mj_all_cons 189 rfl (show _ = _ from by decide +kernel) ?_
    refine mj_all_cons 190 rfl (trivial) ?_
    refine mj_all_cons 191 rfl (trivial) ?_
    refine mj_all_cons 192 rfl (Or.inr ⟨by decide +kernel, rfl⟩) ?_
    refine mj_all_cons 193 rfl (trivial) ?_
    refine mj_all_cons 194 rfl (show _ = _ from by decide +kernel) ?_
    refine mj_all_cons 195 rfl (trivial) ?_
    refine mj_all_cons 196 rfl (trivial) ?_
    refine mj_all_cons 197 rfl (Or.inl ⟨0, by decide +kernel, rfl, rfl⟩) ?_
    refine mj_all_cons 198 rfl (⟨220, "ListSpeakerModel", mjF9, 46, by decide +kernel, rfl, by decide, mw_997, mjw9⟩) ?_
    refine mj_all_cons 199 rfl (trivial) ?_
    refine mj_all_cons 200 rfl (trivial) ?_
    refine mj_all_cons 201 rfl (Or.inr (Or.inl ⟨by decide +kernel, rfl, by decide⟩)) ?_
    refine mj_all_cons 202 rfl (trivial) ?_
    refine mj_all_cons 203 rfl (show _ = _ from by decide +kernel) ?_
    refine mj_all_cons 204 rfl (trivial) ?_
    refine mj_all_cons 205 rfl (trivial) ?_
    refine mj_all_cons 206 rfl (Or.inl ⟨0, by decide +kernel, rfl, rfl⟩) ?_
    refine mj_all_cons 207 rfl (Or.inr (Or.inl ⟨by decide +kernel, rfl, by decide⟩)) ?_
    refine mj_all_cons 208 rfl (trivial) ?_
    refine mj_all_cons 209 rfl (⟨mjmM2, 138, 1, rfl, by decide, mjmd2, mw_16, Or.inl ⟨9, mjF9, 46, by decide +kernel, rfl, rfl, rfl, mw_1146, mw_1148, mjsel_65⟩⟩) ?_
    refine mj_all_cons 210 rfl (trivial) ?_
    refine mj_all_cons 211 rfl (trivial) ?_
    refine mj_all_cons 212 rfl (show _ = _ from by decide +kernel) ?_
    refine mj_all_cons 213 rfl (Or.inl ⟨0, by decide +kernel, rfl, rfl⟩) ?_
    refine mj_all_cons 214 rfl (⟨98, "ListSpeakerModel", mjF9, 46, by decide +kernel, rfl, by decide, mw_980, mjw9⟩) ?_
    refine mj_all_cons 215 rfl (trivial) ?_
    refine mj_all_cons 216 rfl (trivial) ?_
    refine mj_all_cons 217 rfl (show _ = _ from by decide +kernel) ?_
    refine mj_all_cons 218 rfl (trivial) ?_
    refine mj_all_cons 219 rfl (trivial) ?_
    refine mj_all_cons 220 rfl (Or.inl ⟨by decide +kernel, rfl⟩) ?_
    refine mj_all_cons 221 rfl (show _ = _ from by decide +kernel) ?_
    refine mj_all_cons 222 rfl (Or.inr ⟨by decide +kernel, rfl⟩) ?_
    refine mj_all_cons 223 rfl (trivial) ?_
    refine mj_all_cons 224 rfl (show _ = _ from by decide +kernel) ?_
    refine mj_all_cons 225 rfl (trivial) ?_
    refine mj_all_cons 226 rfl (trivial) ?_
    refine mj_all_cons 227 rfl (Or.inl ⟨0, by decide +kernel, rfl, rfl⟩) ?_
    refine mj_all_cons 228 rfl (⟨48, "ListSpeakerModel", mjF9, 46, by decide +kernel, rfl, by decide, mw_998, mjw9⟩) ?_
    refine mj_all_cons 229 rfl (trivial) ?_
    refine mj_all_cons 230 rfl (trivial) ?_
    refine mj_all_cons 231 rfl (Or.inl ⟨0, by decide +kernel, rfl, rfl⟩) ?_
    refine mj_all_cons 232 rfl (⟨220, "ListSpeakerModel", mjF9, 46, by decide +kernel, rfl, by decide, mw_997, mjw9⟩) ?_
    refine mj_all_cons 233 rfl (trivial) ?_
    refine mj_all_cons 234 rfl (trivial) ?_
    refine mj_all_cons 235 rfl (Or.inl ⟨3, by decide +kernel, rfl, rfl⟩) ?_
    refine mj_all_cons 236 rfl (show _ = _ from by decide +kernel) ?_
    refine mj_all_cons 237 rfl (Or.inl ⟨0, by decide +kernel, rfl, rfl⟩) ?_
    refine mj_all_cons 238 rfl (⟨51, "ListSpeakerModel", mjF9, 46, by decide +kernel, rfl, by decide, mw_999, mjw9⟩) ?_
    refine mj_all_cons 239 rfl (trivial) ?_
    refine mj_all_cons 240 rfl (trivial) ?_
    refine mj_all_cons 241 rfl (Or.inl ⟨0, by decide +kernel, rfl, rfl⟩) ?_
    refine mj_all_cons 242 rfl (⟨220, "ListSpeakerModel", mjF9, 46, by decide +kernel, rfl, by decide, mw_997, mjw9⟩) ?_
    refine mj_all_cons 243 rfl (trivial) ?_
    refine mj_all_cons 244 rfl (trivial) ?_
    refine mj_all_cons 245 rfl (Or.inl ⟨0, by decide +kernel, rfl, rfl⟩) ?_
    refine mj_all_cons 246 rfl (Or.inl ⟨1, by decide +kernel, rfl, rfl⟩) ?_
    refine mj_all_cons 247 rfl (Or.inl ⟨by decide +kernel, rfl⟩) ?_
    refine mj_all_cons 248 rfl (⟨mjmM8, 193, 2, rfl, by decide, mjmd8, mw_16, Or.inl ⟨9, mjF9, 46, by decide +kernel, rfl, rfl, rfl, mw_1214, mw_1216, mjsel_78⟩⟩) ?_
    refine mj_all_cons 249 rfl (trivial) ?_
    refine mj_all_cons 250 rfl (trivial) ?_
    refine mj_all_cons 251 rfl (show _ = _ from by decide +kernel) ?_
    refine mj_all_cons 252 rfl (Or.inl ⟨0, by decide +kernel, rfl, rfl⟩) ?_
    refine mj_all_cons 253 rfl (⟨54, "ListSpeakerModel", mjF9, 46, by decide +kernel, rfl, by decide, mw_1000, mjw9⟩) ?_
    refine mj_all_cons 254 rfl (trivial) ?_
    refine mj_all_cons 255 rfl (trivial) ?_
    refine mj_all_cons 256 rfl (Or.inl ⟨0, by decide +kernel, rfl, rfl⟩) ?_
    refine mj_all_cons 257 rfl (⟨220, "ListSpeakerModel", mjF9, 46, by decide +kernel, rfl, by decide, mw_997, mjw9⟩) ?_
    refine mj_all_cons 258 rfl (trivial) ?_
    refine mj_all_cons 259 rfl (trivial) ?_
    refine mj_all_cons 260 rfl (Or.inl ⟨0, by decide +kernel, rfl, rfl⟩) ?_
    refine mj_all_cons 261 rfl (Or.inl ⟨1, by decide +kernel, rfl, rfl⟩) ?_
    refine mj_all_cons 262 rfl (Or.inl ⟨by decide +kernel, rfl⟩) ?_
    refine mj_all_cons 263 rfl (⟨mjmM8, 193, 2, rfl, by decide, mjmd8, mw_16, Or.inl ⟨9, mjF9, 46, by decide +kernel, rfl, rfl, rfl, mw_1214, mw_1216, mjsel_78⟩⟩) ?_
    refine mj_all_cons 264 rfl (trivial) ?_
    refine mj_all_cons 265 rfl (trivial) ?_
    refine mj_all_cons 266 rfl (show _ = _ from by decide +kernel) ?_
    refine mj_all_cons 267 rfl (Or.inl ⟨0, by decide +kernel, rfl, rfl⟩) ?_
    refine mj_all_cons 268 rfl (show _ = _ from by decide +kernel) ?_
    refine mj_all_cons 269 rfl (⟨220, "ListSpeakerModel", mjF9, 46, by decide +kernel, rfl, by decide, mw_997, mjw9⟩) ?_
    refine mj_all_cons 270 rfl (trivial) ?_
    refine mj_all_cons 271 rfl (trivial) ?_
    refine mj_all_cons 272 rfl (Or.inl ⟨by decide +kernel, rfl⟩) ?_
    refine mj_all_cons 273 rfl (show _ = _ from by decide +kernel) ?_
    refine mj_all_cons 274 rfl (⟨220, "ListSpeakerModel", mjF9, 46, mjt9, by decide +kernel, rfl, by decide, mw_997, mjw9, mjk9, mjn9, rfl, by decide +kernel⟩) ?_
    refine mj_all_cons 275 rfl (trivial) ?_
    refine mj_all_cons 276 rfl (trivial) ?_
    refine mj_all_cons 277 rfl (Or.inl ⟨by decide +kernel, rfl⟩) ?_
    refine mj_all_cons 278 rfl (show _ = _ from by decide +kernel) ?_
    exact trivial
  intro pc o ho
  have := mj_all_get _ 0 h pc o ho
  rw [Nat.zero_add] at this
  exact this
