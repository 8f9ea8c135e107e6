/-! Symbols(): the 21 names -/
def sy_tx : List Int := [110, 105, 108, 32, 116, 32, 113, 117, 111, 116, 101, 32, 105, 102, 32, 108, 101, 116, 32, 99, 111, 110, 100, 32, 97, 110, 100, 32, 111, 114, 32, 108, 105, 115, 116, 32, 100, 101, 102, 117, 110, 32, 99, 111, 110, 115, 32, 99, 97, 114, 32, 99, 100, 114, 32, 99, 111, 110, 115, 112, 32, 110, 97, 116, 112, 32, 115, 121, 109, 98, 111, 108, 112, 32, 101, 113, 117, 97, 108, 32, 43, 32, 45, 32, 60, 32, 101, 114, 114, 111, 114]
def sy_21 : List (List Int) := [[110, 105, 108], [116], [113, 117, 111, 116, 101], [105, 102], [108, 101, 116], [99, 111, 110, 100], [97, 110, 100], [111, 114], [108, 105, 115, 116], [100, 101, 102, 117, 110], [99, 111, 110, 115], [99, 97, 114], [99, 100, 114], [99, 111, 110, 115, 112], [110, 97, 116, 112], [115, 121, 109, 98, 111, 108, 112], [101, 113, 117, 97, 108], [43], [45], [60], [101, 114, 114, 111, 114]]
def sy_SP (ns : List (List Int)) (σ : mj_S) : Prop := sy_R (σ 1) (σ 2) ns ∧ σ 0 2 = (ns.length : Int) ∧ ∀ k, k < 91 → σ 3 k = sy_tx.getD k 0
theorem sy_fit : ∀ k, k < 91 → 0 ≤ sy_tx.getD k 0 ∧ sy_tx.getD k 0 ≤ 65535 := by decide
theorem sy_word {d : Nat} {Q : mj_Q} {σ : mj_S} {ns : List (List Int)} {w : List Int} (hsp : sy_SP ns σ) {a e : Nat} (he : e ≤ 91) (hns : ∀ j, j < 91 → a ≤ j → j < e → ¬ sy_tx.getD j 0 = 32) (hend : e = 91 ∨ sy_tx.getD e 0 = 32) (h1 : a + 1 ≤ e) (h8 : e ≤ a + 8) (hlen : ns.length < 60) (hw : sy_sl (fun k => sy_tx.getD k 0) a (e - a) = w) (hnew : ∀ j, j < ns.length → ns.getD j [] ≠ w)
    (k : ∀ σ', sy_SP (ns ++ [w]) σ' → lh_s3_31 (d + 2) Q ((e + 1 : Nat) : Int) ((e + 1 : Nat) : Int) σ') : ∀ (m j : Nat), e - j = m → a ≤ j → j ≤ e → lh_s3_31 (d + 2) Q (a : Int) (j : Int) σ := by
  obtain ⟨hR, hk, ht⟩ := hsp
  have hsl : sy_sl (σ 3) a (e - a) = w := by
    rw [← hw]
    unfold sy_sl
    apply List.map_congr_left
    intro z hz
    rw [List.mem_range] at hz
    exact ht _ (by omega)
  have call : mj_B mjs_L mjs_Ms (d + 2) 0 [.inr (.inl 0), .inr (.inl 3), .inl (a : Int), .inl ((e : Int) - (a : Int))] σ (fun r σ1 => ∃ v2, r = some (.inl v2) ∧ mj_r ((e : Int) + 1) ∧ mj_r ((e : Int) + 1) ∧ lh_s3_31 (d + 2) Q ((e : Int) + 1) ((e : Int) + 1) σ1) := by
    rw [show (e : Int) - (a : Int) = ((e - a : Nat) : Int) by omega]
    refine sy_find_s hR hk (by omega) (by omega) (by omega) (by omega) (fun j hj => by rw [ht _ (by omega)]; exact sy_fit _ (by omega)) (fun i hi he2 _ => absurd (he2.trans hsl) (hnew i hi)) (fun _ _ σ' g1 g2 g3 g4 => ?_) (fun _ h60 => absurd h60 (by omega))
    refine ⟨_, rfl, mj_rN (by omega) (by omega), mj_rN (by omega) (by omega), ?_⟩
    rw [hsl] at g2
    have := k σ' ⟨g2, by rw [g1, List.length_append]; rfl, fun z hz => by rw [g4 3 (by decide) (by decide) (by decide)]; exact ht z hz⟩
    rw [show ((e + 1 : Nat) : Int) = (e : Int) + 1 by omega] at this
    exact this
  intro m
  induction m with
  | zero =>
    intro j hm ha hj
    have ej : j = e := by omega
    subst ej
    refine lw_s3_31 ⟨fun h => absurd h (by omega), fun _ => ⟨fun _ => ⟨mj_rN (by omega) (by omega), call⟩, fun hne => ⟨by omega, by omega, fun h => ?_, fun _ => ⟨mj_rN (by omega) (by omega), call⟩⟩⟩⟩
    rw [show ((j : Int)).toNat = j by omega, ht j (by omega)] at h
    rcases hend with h9 | h9
    · omega
    · exact absurd h9 h
  | succ m ih =>
    intro j hm ha hj
    refine lw_s3_31 ⟨fun h => absurd h (by omega), fun _ => ⟨fun h => absurd h (by omega), fun hne => ⟨by omega, by omega, fun _ => ⟨mj_rN (by omega) (by omega), ?_⟩, fun h => ?_⟩⟩⟩
    · have := ih (j + 1) (by omega) (by omega) (by omega)
      rw [show ((j + 1 : Nat) : Int) = (j : Int) + 1 by omega] at this
      exact this
    · rw [show ((j : Int)).toNat = j by omega, ht j (by omega)] at h
      exact absurd h (hns j (by omega) (by omega) (by omega))
set_option maxRecDepth 20000 in
theorem sy_init {d : Nat} {Q : mj_Q} {σ : mj_S} (h0 : sy_SP [] σ) (hQ : ∀ σ', sy_SP sy_21 σ' → Q none σ') : lh_s3_31 (d + 2) Q 0 0 σ := by
  refine sy_word (ns := []) (w := [110, 105, 108]) h0 (a := 0) (e := 3) (by decide) (by decide) (by decide) (by decide) (by decide) (by decide) (by decide) (by decide) (fun σ h1 => ?_) 3 0 rfl (by decide) (by decide)
  refine sy_word (ns := [[110, 105, 108]]) (w := [116]) h1 (a := 4) (e := 5) (by decide) (by decide) (by decide) (by decide) (by decide) (by decide) (by decide) (by decide) (fun σ h2 => ?_) 1 4 rfl (by decide) (by decide)
  refine sy_word (ns := [[110, 105, 108], [116]]) (w := [113, 117, 111, 116, 101]) h2 (a := 6) (e := 11) (by decide) (by decide) (by decide) (by decide) (by decide) (by decide) (by decide) (by decide) (fun σ h3 => ?_) 5 6 rfl (by decide) (by decide)
  refine sy_word (ns := [[110, 105, 108], [116], [113, 117, 111, 116, 101]]) (w := [105, 102]) h3 (a := 12) (e := 14) (by decide) (by decide) (by decide) (by decide) (by decide) (by decide) (by decide) (by decide) (fun σ h4 => ?_) 2 12 rfl (by decide) (by decide)
  refine sy_word (ns := [[110, 105, 108], [116], [113, 117, 111, 116, 101], [105, 102]]) (w := [108, 101, 116]) h4 (a := 15) (e := 18) (by decide) (by decide) (by decide) (by decide) (by decide) (by decide) (by decide) (by decide) (fun σ h5 => ?_) 3 15 rfl (by decide) (by decide)
  refine sy_word (ns := [[110, 105, 108], [116], [113, 117, 111, 116, 101], [105, 102], [108, 101, 116]]) (w := [99, 111, 110, 100]) h5 (a := 19) (e := 23) (by decide) (by decide) (by decide) (by decide) (by decide) (by decide) (by decide) (by decide) (fun σ h6 => ?_) 4 19 rfl (by decide) (by decide)
  refine sy_word (ns := [[110, 105, 108], [116], [113, 117, 111, 116, 101], [105, 102], [108, 101, 116], [99, 111, 110, 100]]) (w := [97, 110, 100]) h6 (a := 24) (e := 27) (by decide) (by decide) (by decide) (by decide) (by decide) (by decide) (by decide) (by decide) (fun σ h7 => ?_) 3 24 rfl (by decide) (by decide)
  refine sy_word (ns := [[110, 105, 108], [116], [113, 117, 111, 116, 101], [105, 102], [108, 101, 116], [99, 111, 110, 100], [97, 110, 100]]) (w := [111, 114]) h7 (a := 28) (e := 30) (by decide) (by decide) (by decide) (by decide) (by decide) (by decide) (by decide) (by decide) (fun σ h8 => ?_) 2 28 rfl (by decide) (by decide)
  refine sy_word (ns := [[110, 105, 108], [116], [113, 117, 111, 116, 101], [105, 102], [108, 101, 116], [99, 111, 110, 100], [97, 110, 100], [111, 114]]) (w := [108, 105, 115, 116]) h8 (a := 31) (e := 35) (by decide) (by decide) (by decide) (by decide) (by decide) (by decide) (by decide) (by decide) (fun σ h9 => ?_) 4 31 rfl (by decide) (by decide)
  refine sy_word (ns := [[110, 105, 108], [116], [113, 117, 111, 116, 101], [105, 102], [108, 101, 116], [99, 111, 110, 100], [97, 110, 100], [111, 114], [108, 105, 115, 116]]) (w := [100, 101, 102, 117, 110]) h9 (a := 36) (e := 41) (by decide) (by decide) (by decide) (by decide) (by decide) (by decide) (by decide) (by decide) (fun σ h10 => ?_) 5 36 rfl (by decide) (by decide)
  refine sy_word (ns := [[110, 105, 108], [116], [113, 117, 111, 116, 101], [105, 102], [108, 101, 116], [99, 111, 110, 100], [97, 110, 100], [111, 114], [108, 105, 115, 116], [100, 101, 102, 117, 110]]) (w := [99, 111, 110, 115]) h10 (a := 42) (e := 46) (by decide) (by decide) (by decide) (by decide) (by decide) (by decide) (by decide) (by decide) (fun σ h11 => ?_) 4 42 rfl (by decide) (by decide)
  refine sy_word (ns := [[110, 105, 108], [116], [113, 117, 111, 116, 101], [105, 102], [108, 101, 116], [99, 111, 110, 100], [97, 110, 100], [111, 114], [108, 105, 115, 116], [100, 101, 102, 117, 110], [99, 111, 110, 115]]) (w := [99, 97, 114]) h11 (a := 47) (e := 50) (by decide) (by decide) (by decide) (by decide) (by decide) (by decide) (by decide) (by decide) (fun σ h12 => ?_) 3 47 rfl (by decide) (by decide)
  refine sy_word (ns := [[110, 105, 108], [116], [113, 117, 111, 116, 101], [105, 102], [108, 101, 116], [99, 111, 110, 100], [97, 110, 100], [111, 114], [108, 105, 115, 116], [100, 101, 102, 117, 110], [99, 111, 110, 115], [99, 97, 114]]) (w := [99, 100, 114]) h12 (a := 51) (e := 54) (by decide) (by decide) (by decide) (by decide) (by decide) (by decide) (by decide) (by decide) (fun σ h13 => ?_) 3 51 rfl (by decide) (by decide)
  refine sy_word (ns := [[110, 105, 108], [116], [113, 117, 111, 116, 101], [105, 102], [108, 101, 116], [99, 111, 110, 100], [97, 110, 100], [111, 114], [108, 105, 115, 116], [100, 101, 102, 117, 110], [99, 111, 110, 115], [99, 97, 114], [99, 100, 114]]) (w := [99, 111, 110, 115, 112]) h13 (a := 55) (e := 60) (by decide) (by decide) (by decide) (by decide) (by decide) (by decide) (by decide) (by decide) (fun σ h14 => ?_) 5 55 rfl (by decide) (by decide)
  refine sy_word (ns := [[110, 105, 108], [116], [113, 117, 111, 116, 101], [105, 102], [108, 101, 116], [99, 111, 110, 100], [97, 110, 100], [111, 114], [108, 105, 115, 116], [100, 101, 102, 117, 110], [99, 111, 110, 115], [99, 97, 114], [99, 100, 114], [99, 111, 110, 115, 112]]) (w := [110, 97, 116, 112]) h14 (a := 61) (e := 65) (by decide) (by decide) (by decide) (by decide) (by decide) (by decide) (by decide) (by decide) (fun σ h15 => ?_) 4 61 rfl (by decide) (by decide)
  refine sy_word (ns := [[110, 105, 108], [116], [113, 117, 111, 116, 101], [105, 102], [108, 101, 116], [99, 111, 110, 100], [97, 110, 100], [111, 114], [108, 105, 115, 116], [100, 101, 102, 117, 110], [99, 111, 110, 115], [99, 97, 114], [99, 100, 114], [99, 111, 110, 115, 112], [110, 97, 116, 112]]) (w := [115, 121, 109, 98, 111, 108, 112]) h15 (a := 66) (e := 73) (by decide) (by decide) (by decide) (by decide) (by decide) (by decide) (by decide) (by decide) (fun σ h16 => ?_) 7 66 rfl (by decide) (by decide)
  refine sy_word (ns := [[110, 105, 108], [116], [113, 117, 111, 116, 101], [105, 102], [108, 101, 116], [99, 111, 110, 100], [97, 110, 100], [111, 114], [108, 105, 115, 116], [100, 101, 102, 117, 110], [99, 111, 110, 115], [99, 97, 114], [99, 100, 114], [99, 111, 110, 115, 112], [110, 97, 116, 112], [115, 121, 109, 98, 111, 108, 112]]) (w := [101, 113, 117, 97, 108]) h16 (a := 74) (e := 79) (by decide) (by decide) (by decide) (by decide) (by decide) (by decide) (by decide) (by decide) (fun σ h17 => ?_) 5 74 rfl (by decide) (by decide)
  refine sy_word (ns := [[110, 105, 108], [116], [113, 117, 111, 116, 101], [105, 102], [108, 101, 116], [99, 111, 110, 100], [97, 110, 100], [111, 114], [108, 105, 115, 116], [100, 101, 102, 117, 110], [99, 111, 110, 115], [99, 97, 114], [99, 100, 114], [99, 111, 110, 115, 112], [110, 97, 116, 112], [115, 121, 109, 98, 111, 108, 112], [101, 113, 117, 97, 108]]) (w := [43]) h17 (a := 80) (e := 81) (by decide) (by decide) (by decide) (by decide) (by decide) (by decide) (by decide) (by decide) (fun σ h18 => ?_) 1 80 rfl (by decide) (by decide)
  refine sy_word (ns := [[110, 105, 108], [116], [113, 117, 111, 116, 101], [105, 102], [108, 101, 116], [99, 111, 110, 100], [97, 110, 100], [111, 114], [108, 105, 115, 116], [100, 101, 102, 117, 110], [99, 111, 110, 115], [99, 97, 114], [99, 100, 114], [99, 111, 110, 115, 112], [110, 97, 116, 112], [115, 121, 109, 98, 111, 108, 112], [101, 113, 117, 97, 108], [43]]) (w := [45]) h18 (a := 82) (e := 83) (by decide) (by decide) (by decide) (by decide) (by decide) (by decide) (by decide) (by decide) (fun σ h19 => ?_) 1 82 rfl (by decide) (by decide)
  refine sy_word (ns := [[110, 105, 108], [116], [113, 117, 111, 116, 101], [105, 102], [108, 101, 116], [99, 111, 110, 100], [97, 110, 100], [111, 114], [108, 105, 115, 116], [100, 101, 102, 117, 110], [99, 111, 110, 115], [99, 97, 114], [99, 100, 114], [99, 111, 110, 115, 112], [110, 97, 116, 112], [115, 121, 109, 98, 111, 108, 112], [101, 113, 117, 97, 108], [43], [45]]) (w := [60]) h19 (a := 84) (e := 85) (by decide) (by decide) (by decide) (by decide) (by decide) (by decide) (by decide) (by decide) (fun σ h20 => ?_) 1 84 rfl (by decide) (by decide)
  refine sy_word (ns := [[110, 105, 108], [116], [113, 117, 111, 116, 101], [105, 102], [108, 101, 116], [99, 111, 110, 100], [97, 110, 100], [111, 114], [108, 105, 115, 116], [100, 101, 102, 117, 110], [99, 111, 110, 115], [99, 97, 114], [99, 100, 114], [99, 111, 110, 115, 112], [110, 97, 116, 112], [115, 121, 109, 98, 111, 108, 112], [101, 113, 117, 97, 108], [43], [45], [60]]) (w := [101, 114, 114, 111, 114]) h20 (a := 86) (e := 91) (by decide) (by decide) (by decide) (by decide) (by decide) (by decide) (by decide) (by decide) (fun σ h21 => ?_) 5 86 rfl (by decide) (by decide)
  exact lw_s3_31 ⟨fun _ => hQ _ h21, fun h => absurd h (by decide)⟩
def sy_b (j : Nat) : Int32 := Int32.ofInt (sy_tx.getD j 0)
theorem sy_bb : ∀ j, j < 91 → ((sy_b j &&& 255).toUInt32 % 65536).toInt32 = sy_b j ∧ vp_nar .char (sy_b j) = sy_b j := by decide +kernel
def fS (g : Nat → Int32) : mj_S := fun q k => if q = 3 then (g k).toInt else 0
theorem fS_ok (g : Nat → Int32) : mj_okS (fS g) := by
  intro q k
  unfold fS
  by_cases h : q = 3
  · rw [if_pos h]
    have h1 := Int32.le_toInt (g k)
    have h2 := Int32.toInt_lt (g k)
    exact ⟨by omega, by omega⟩
  · rw [if_neg h]; exact mj_0
theorem fS_SP {g : Nat → Int32} (hg : ∀ j, j < 91 → g j = sy_b j) : sy_SP [] (fS g) := by
  refine ⟨fun i hi => absurd hi (by simp), rfl, fun k hk => ?_⟩
  show (g k).toInt = _
  rw [hg k hk]
  exact mj_ti (mj_rN (by have := sy_fit k hk; omega) (by have := sy_fit k hk; omega))
theorem va_A0 {sz q : Nat} : va_A [] sz q ↔ sz ≤ q := ⟨fun h => h.elim (fun ⟨k, e, h⟩ => by cases h) id, Or.inr⟩
set_option maxRecDepth 20000 in
theorem cw_35 : (Jvm.Cond.methodLink "ListSpeaker$Symbols" (3 : Nat) ({ cls := "java/lang/Object", name := "<init>", desc := "()V" } : Jvm.MethodName)) ∈ mj_WS := mj_mem 35 (by decide +kernel) (by decide)
set_option maxRecDepth 20000 in
theorem cw_98 : (Jvm.Cond.fieldLink "ListSpeaker$Symbols" (9 : Nat) "ListSpeaker$Symbols" "letters" "[C") ∈ mj_WS := mj_mem 98 (by decide +kernel) (by decide)
set_option maxRecDepth 20000 in
theorem cw_99 : (Jvm.Cond.fieldLink "ListSpeaker$Symbols" (15 : Nat) "ListSpeaker$Symbols" "lengths" "[I") ∈ mj_WS := mj_mem 99 (by decide +kernel) (by decide)
def y_Symbols : MethodName := ({ cls := "ListSpeaker$Symbols", name := "<init>", desc := "()V" } : Jvm.MethodName)
set_option maxRecDepth 20000 in
theorem cwc_Symbols : Jvm.Cond.code y_Symbols prog_9_method_1_code 4 none ∈ mj_WS := mj_mem 34 rfl rfl
set_option maxHeartbeats 4000000 in
set_option maxRecDepth 100000 in
theorem c_Symbols (l : Launch) (D : va_G) (cA : FieldType → ClassId) (h0 sz : Nat) (a0 t0 : Nat) : Met l y_Symbols (Jvm.Cond.code y_Symbols prog_9_method_1_code 4 none :: mj_WS) ({ frames := 8, cells := 3, slots := 631, locals := 600 }) (va_Pc [.ref h0] (fun U => U.heap.size = sz ∧ va_P D mj_kl [(h0, .inr (1, [.null, .null, .int 0]))] U.heap ∧ va_K D mj_kl (mj_tys cA) U ∧ va_D (fun _ => True) [(h0, .inr (1, [.null, .null, .int 0]))] ∧ (∀ w ∈ mj_NWs, va_Nw w U) ∧ jd_S a0 t0 91 sy_b (va_A [(h0, .inr (1, [.null, .null, .int 0]))] sz) U U.heap ∧ vk_R "ListSpeaker$Symbols" 19 "nil t quote if let cond and or list defun cons car cdr consp natp symbolp equal + - < error" a0 U)) (va_Qv (fun u : (Nat → Nat) × mj_S => u.1 0 = h0 ∧ mj_okS u.2 ∧ sy_SP sy_21 u.2) (fun u t => va_P D mj_kl (mj_w cA u.1 mjs_L u.2) t.heap ∧ va_K D mj_kl (mj_tys cA) t ∧ va_D (va_A [(h0, .inr (1, [.null, .null, .int 0]))] sz) (mj_w cA u.1 mjs_L u.2)) (va_A [(h0, .inr (1, [.null, .null, .int 0]))] sz)) 3 631 (va_A [(h0, .inr (1, [.null, .null, .int 0]))] sz) := by
  refine Met.ofW (cc := prog_9_method_1_code) (maxL := 4) (ret := none) (by decide) rfl ?_
  intro p e s m args below meth c s₁ B hml hv
  obtain ⟨rfl, hsz, hP, hK, hD0, hNs, hJ, hVR⟩ := hv
  have hx := B.exec
  have hb := B.bytes
  have hr := B.returns
  have hts0 := atoms_spec (ws := Jvm.Cond.code y_Symbols prog_9_method_1_code 4 none :: mj_WS) B.pre
  have hts : ∀ w ∈ mj_WS, w.before _ s = true := fun w hw => hts0 w (List.mem_cons_of_mem _ hw)
  have hown : s.vm.findClass "ListSpeaker$Symbols" = some m.cls := findClass_of_methodNamed B.named
  have hlocks := B.notSynchronized
  have hin : meth.name = "<init>" := (name_of_methodNamed B.named B.method).1
  subst hsz
  have hD := hD0.self (sz := s.heap.size)
  generalize hAe : va_A [(h0, .inr (1, [.null, .null, .int 0]))] s.heap.size = A at hD hJ ⊢
  have hA : ∀ q : Nat, s.heap.size ≤ q → A q := fun q h => by rw [← hAe]; exact Or.inr h
  have hS : va_S A s.heap s.heap [] := va_S.rf
  have hP : va_P D mj_kl [(h0, .inr (1, [.null, .null, .int 0]))] s.heap := hP
  have hl := lv_entry ([.ref h0]) (n := 4) (Nat.le_of_ble_eq_true rfl)
  rw [lg_entry_eq]
  generalize (lg_sl ([.ref h0]) ++ List.replicate (4 - (lg_sl ([.ref h0])).length) Slot.unset).toArray = ls at hl ⊢
  have hl : lv_has ls 4 [(0, .ref h0)] := hl
  refine lv_aload_n hx hb (show decode prog_9_method_1_code 0 = .ok (.aload_n 0, 1) from by decide +kernel) rfl (lv_at hl 0 rfl) ?_
  refine W.objInit hx hb hown (hts _ cw_35) (hts _ cw_28) (hts _ cw_29) rfl (by rw [hml]; exact hl.1) rfl (show decode prog_9_method_1_code 1 = .ok (.invokespecial 3, 3) from by decide +kernel) (Nat.le_of_ble_eq_true rfl) (Nat.le_of_ble_eq_true rfl) ?_
  refine W.eq (g2 := F0 m 4 ls []) rfl ?_
  refine lv_aload_n hx hb (show decode prog_9_method_1_code 4 = .ok (.aload_n 0, 1) from by decide +kernel) rfl (lv_at hl 0 rfl) ?_
  refine lv_sipush (v := 480) hx hb (show decode prog_9_method_1_code 5 = .ok (.sipush 480, 3) from by decide +kernel) (by decide) ?_
  refine va_newa (atype := .char) hx hb (hts _ cw_108) (ty := .char) rfl hK hP hD hS hA (N' := 480) (a0 := (480, .inl (fun _ => 0))) (fun _ => rfl) (by decide) (by decide) (by decide) (show 0 + 1 ≤ 3 from by decide) (show 0 + 480 ≤ 631 from by decide) (show decode prog_9_method_1_code 8 = .ok (.newarray .char, 2) from by decide +kernel) (fun q8 c8 H hK1 hP hD hS => ?_)
  obtain rfl := mj_sameA (ty := .char) hK1 hK (by decide)
  refine W.widen (k := 1) (n := 480) (by decide) (by decide) ?_
  have hP : va_P D mj_kl [(h0, .inr (1, [.null, .null, .int 0])), (q8, .inl (cA .char, 480, .inl (fun _ => 0)))] H := hP
  have hD : va_D A [(h0, .inr (1, [.null, .null, .int 0])), (q8, .inl (cA .char, 480, .inl (fun _ => 0)))] := hD
  refine va_putF (D := D) (ci := 1) (v := .ref q8) (ty := .array .char) (C := "ListSpeaker$Symbols") (T := mjF1) (N := 3) hx hb hts mjw1 mjt1 mjk1 mjn1 hown hK hP hD hS 0 rfl rfl 0 (by decide) (hts _ cw_98) (fun _ h9 => h9) rfl hin rfl (by decide +kernel) rfl rfl (Nat.le_of_ble_eq_true rfl) (show decode prog_9_method_1_code 10 = .ok (.putfield 9, 3) from by decide +kernel) (fun H locs hP hD hS => ?_)
  have hP : va_P D mj_kl [(h0, .inr (1, [.ref q8, .null, .int 0])), (q8, .inl (cA .char, 480, .inl (fun _ => 0)))] H := hP
  have hD : va_D A [(h0, .inr (1, [.ref q8, .null, .int 0])), (q8, .inl (cA .char, 480, .inl (fun _ => 0)))] := hD
  refine lv_aload_n hx hb (show decode prog_9_method_1_code 13 = .ok (.aload_n 0, 1) from by decide +kernel) rfl (lv_at hl 0 rfl) ?_
  refine lv_bipush (v := 60) hx hb (show decode prog_9_method_1_code 14 = .ok (.bipush 60, 2) from by decide +kernel) (by decide) ?_
  refine va_newa (atype := .int) hx hb (hts _ cw_109) (ty := .int) rfl hK hP hD hS hA (N' := 60) (a0 := (60, .inl (fun _ => 0))) (fun _ => rfl) (by decide) (by decide) (by decide) (show 1 + 1 ≤ 3 from by decide) (show 480 + 60 ≤ 631 from by decide) (show decode prog_9_method_1_code 16 = .ok (.newarray .int, 2) from by decide +kernel) (fun q16 c16 H hK1 hP hD hS => ?_)
  obtain rfl := mj_sameA (ty := .int) hK1 hK (by decide)
  refine W.widen (k := 2) (n := 540) (by decide) (by decide) ?_
  have hP : va_P D mj_kl [(h0, .inr (1, [.ref q8, .null, .int 0])), (q8, .inl (cA .char, 480, .inl (fun _ => 0))), (q16, .inl (cA .int, 60, .inl (fun _ => 0)))] H := hP
  have hD : va_D A [(h0, .inr (1, [.ref q8, .null, .int 0])), (q8, .inl (cA .char, 480, .inl (fun _ => 0))), (q16, .inl (cA .int, 60, .inl (fun _ => 0)))] := hD
  refine va_putF (D := D) (ci := 1) (v := .ref q16) (ty := .array .int) (C := "ListSpeaker$Symbols") (T := mjF1) (N := 3) hx hb hts mjw1 mjt1 mjk1 mjn1 hown hK hP hD hS 0 rfl rfl 1 (by decide) (hts _ cw_99) (fun _ h9 => h9) rfl hin rfl (by decide +kernel) rfl rfl (Nat.le_of_ble_eq_true rfl) (show decode prog_9_method_1_code 18 = .ok (.putfield 15, 3) from by decide +kernel) (fun H locs hP hD hS => ?_)
  have hP : va_P D mj_kl [(h0, .inr (1, [.ref q8, .ref q16, .int 0])), (q8, .inl (cA .char, 480, .inl (fun _ => 0))), (q16, .inl (cA .int, 60, .inl (fun _ => 0)))] H := hP
  have hD : va_D A [(h0, .inr (1, [.ref q8, .ref q16, .int 0])), (q8, .inl (cA .char, 480, .inl (fun _ => 0))), (q16, .inl (cA .int, 60, .inl (fun _ => 0)))] := hD
  refine va_ldcS hx hb hown hVR (show decode prog_9_method_1_code 21 = .ok (.ldc 19, 2) from by decide +kernel) ?_
  have hle : s.heap.size ≤ H.size := hS.1
  have hAle : ∀ x, H.size ≤ x → A x := fun x hx9 => hA x (Nat.le_trans hle hx9)
  refine va_callr (va_runV (As := []) (rest := []) (b := a0) (C := "java/lang/String") ⟨hx, hb, hml, hown, hts⟩ (c_toCharArray l D cA a0 t0 91 H.size sy_b (by decide) sy_bb) ⟨callB_of 0 hts gi_toCharArray rfl rfl rfl (hts _ jwi_String) (hts _ jw_37) ⟨by decide, by decide, by decide +kernel⟩ ⟨Nat.le_of_ble_eq_true rfl, Nat.le_of_ble_eq_true rfl⟩, hts _ jw_38, hts _ jw_39⟩ ⟨fun a U g mk z => ⟨z.1, z.2.1, z.2.2.1.moved (u := U) (U := U.calling g mk a) (Vm.Alike.refl U.vm), va_K.moved (u := U) (U := U.calling g mk a) (Vm.Alike.refl U.vm) z.2.2.2⟩, va_Orecv hJ.2.1 hS, fun U hU hW => ⟨rfl, by rw [hU], by rw [hU]; exact ((hJ.kept hS.2.1).narrow hAle).moved hW.alike, va_K.moved hW.alike hK⟩⟩ rfl rfl hl.1 rfl (lv_room (Nat.le_of_ble_eq_true rfl)) (show decode prog_9_method_1_code 23 = .ok (.invokevirtual 21, 3) from by decide +kernel) ⟨show 2 + 1 ≤ 3 from by decide, show 540 + 91 ≤ 631 from by decide⟩) hS (fun x _ h => hAle x h) hAle (fun g q t1 H1 locs ht hvm hg hB hz1 hk1 hS => ?_)
  obtain ⟨hP1, hq1⟩ := hB
  rw [ht] at hP1
  have hD1 : va_D (va_A [] H.size) [(q, .inl (cA .char, 91, .inl g))] := by
    refine ⟨fun i j x y hi hj _ => ?_, fun k x hk => ?_⟩
    · have g1 : i < 1 := (List.getElem?_eq_some_iff.mp hi).1
      have g2 : j < 1 := (List.getElem?_eq_some_iff.mp hj).1
      omega
    · have g1 : k < 1 := (List.getElem?_eq_some_iff.mp hk).1
      have g2 : k = 0 := by omega
      subst g2
      cases hk
      exact Or.inr hq1
  obtain ⟨hP, hD⟩ := va_join (wc := []) (wr := [(h0, .inr (1, [.ref q8, .ref q16, .int 0])), (q8, .inl (cA .char, 480, .inl (fun _ => 0))), (q16, .inl (cA .int, 60, .inl (fun _ => 0)))]) (w1 := [(q, .inl (cA .char, 91, .inl g))]) hP hD [] [0, 1, 2] rfl rfl (by decide) (by decide) (fun x h1 h2 => hk1 x h1 (fun z => h2 (Or.inr z))) (fun x h => hAle x (va_A0.mp h)) hP1 hD1
  generalize H1 = H at hP hS ⊢
  have hw : mj_w cA (fun i => [h0, q8, q16, q].getD i 0) mjs_L (fS g) = [(h0, .inr (1, [.ref q8, .ref q16, .int 0])), (q8, .inl (cA .char, 480, .inl (fun _ => 0))), (q16, .inl (cA .int, 60, .inl (fun _ => 0))), (q, .inl (cA .char, 91, .inl g))] := by
    unfold mj_w mjs_L
    simp only [List.mapIdx_cons, List.mapIdx_nil, mj_e, mj_slot, fS]
    simp
    all_goals first | rfl | trivial
  have hP : va_P D mj_kl [(h0, .inr (1, [.ref q8, .ref q16, .int 0])), (q8, .inl (cA .char, 480, .inl (fun _ => 0))), (q16, .inl (cA .int, 60, .inl (fun _ => 0))), (q, .inl (cA .char, 91, .inl g))] H := hP
  have hD : va_D A [(h0, .inr (1, [.ref q8, .ref q16, .int 0])), (q8, .inl (cA .char, 480, .inl (fun _ => 0))), (q16, .inl (cA .int, 60, .inl (fun _ => 0))), (q, .inl (cA .char, 91, .inl g))] := hD
  rw [← hw] at hP hD
  obtain ⟨hDD, hAf⟩ := mj_D_of (D := D) hD
  refine W.widen (k := 3) (n := 631) (by decide) (by decide) ?_
  have X : mj_X p s m ([Value.ref h0] : List Value).toArray meth c prog_9_method_1_code 4 "ListSpeaker$Symbols" mj_WS none D mj_kl cA (fun i => [h0, q8, q16, q].getD i 0) mjs_L A := ⟨hx, hb, hml, hown, hts, hr, hlocks, hK, hDD, hAf⟩
  refine mj_Wq (mj_sim (C := mj_B mjs_L mjs_Ms 2) (rm := mj_rm 2) (Q := fun r σ => r = none ∧ sy_SP sy_21 σ) X (fun k as σ Q' h g1 g2 M hM => mjs_met hDD 2 k as σ Q' h g1 g2 M hM) mjs_G ⟨rfl, rfl, Nat.le_of_ble_eq_true rfl, Nat.le_of_ble_eq_true rfl⟩ (Nat.le_of_ble_eq_true rfl) mj_NWs_ok hNs (Nat.le_of_ble_eq_true rfl) (Nat.le_of_ble_eq_true rfl) mjsi3 (lw_s3_26 (d := 2) (σ := fS g) (sy_init (d := 0) (fS_SP hg) (fun σ' h => ⟨rfl, h⟩))) (fS_ok g) (fun i v hi => ?_) (fun v hv => by rw [List.mem_singleton.mp hv]; trivial) H locs ls (mj_LR_of hl rfl) hP hS) (mj_MQ (fun oc t hq hW => ?_) (fun _ z => z))
  · match i, hi with
    | 0, hi => cases hi; trivial
    | 1, hi => cases hi
    | 2, hi => cases hi
    | 3, hi => cases hi
    | _ + 4, hi => cases hi
  · obtain ⟨⟨r, σ', h1, ⟨rfl, h2⟩, h3, h4, h5⟩, h6⟩ := hq
    exact ⟨⟨((fun i => [h0, q8, q16, q].getD i 0), σ'), h1, ⟨rfl, h4, h2⟩, h5, va_K.moved hW.alike hK, mj_va_D2 hDD hAf _⟩, h6⟩
