/-! the reference: opening, closing, dots, taking what was read -/
def z_opn (τ : mj_S) (k : Int) (L s : Nat) : mj_S := mj_up (mj_up (mj_up (mj_up (mj_up (mj_up τ 9 L k) 10 L 268435456) 11 L 268435456) 12 L 0) 0 17 ((L : Int) + 1)) 0 4 ((s : Int) + 1)
theorem z_opn_o {τ : mj_S} {k : Int} {L s q j : Nat} (h : ¬ ((9 ≤ q ∧ q ≤ 12 ∧ j = L) ∨ (q = 0 ∧ (j = 17 ∨ j = 4)))) : z_opn τ k L s q j = τ q j := by
  unfold z_opn
  rw [mj_up_ne (by omega), mj_up_ne (by omega), mj_up_ne (by omega), mj_up_ne (by omega), mj_up_ne (by omega), mj_up_ne (by omega)]
theorem z_opn_v {τ : mj_S} {k : Int} {L s : Nat} : z_opn τ k L s 9 L = k ∧ z_opn τ k L s 10 L = 268435456 ∧ z_opn τ k L s 11 L = 268435456 ∧ z_opn τ k L s 12 L = 0 ∧ z_opn τ k L s 0 17 = (L : Int) + 1 ∧ z_opn τ k L s 0 4 = (s : Int) + 1 := by
  unfold z_opn
  refine ⟨?_, ?_, ?_, ?_, ?_, mj_up_eq⟩
  · rw [mj_up_ne (by omega), mj_up_ne (by omega), mj_up_ne (by omega), mj_up_ne (by omega), mj_up_ne (by omega), mj_up_eq]
  · rw [mj_up_ne (by omega), mj_up_ne (by omega), mj_up_ne (by omega), mj_up_ne (by omega), mj_up_eq]
  · rw [mj_up_ne (by omega), mj_up_ne (by omega), mj_up_ne (by omega), mj_up_eq]
  · rw [mj_up_ne (by omega), mj_up_ne (by omega), mj_up_eq]
  · rw [mj_up_ne (by omega), mj_up_eq]
theorem r_open {d : Nat} {Q : mj_Q} {τ : mj_S} {k : Int} {L s : Nat} (hL : τ 0 17 = L) (h13 : L ≤ 13) (h4 : τ 0 4 = s) (hs : s ≤ 300) (h : ∀ τ', τ' = z_opn τ k L s → Q none τ') : mj_B mjm_L mjm_Ms (d + 1) 19 [.inr (.inl 0), .inl k] τ Q := by
  refine wq_m19 ?_
  rw [hL]
  refine ⟨by omega, by omega, fun σ1 e1 => ?_⟩
  have a1 : σ1 0 17 = L := by rw [e1, mj_up_ne (by omega)]; exact hL
  rw [a1]
  refine ⟨by omega, by omega, fun σ2 e2 => ?_⟩
  have a2 : σ2 0 17 = L := by rw [e2, mj_up_ne (by omega)]; exact a1
  rw [a2]
  refine ⟨by omega, by omega, fun σ3 e3 => ?_⟩
  have a3 : σ3 0 17 = L := by rw [e3, mj_up_ne (by omega)]; exact a2
  rw [a3]
  refine ⟨by omega, by omega, fun σ4 e4 => ?_⟩
  have a4 : σ4 0 17 = L := by rw [e4, mj_up_ne (by omega)]; exact a3
  rw [a4]
  refine ⟨by unfold mj_r; omega, fun σ5 e5 => ?_⟩
  have a5 : σ5 0 4 = s := by rw [e5, mj_up_ne (by omega), e4, mj_up_ne (by omega), e3, mj_up_ne (by omega), e2, mj_up_ne (by omega), e1, mj_up_ne (by omega)]; exact h4
  rw [a5]
  refine ⟨by unfold mj_r; omega, fun σ6 e6 => h σ6 ?_⟩
  rw [e6, e5, e4, e3, e2, e1, Int.toNat_natCast]
  rfl
theorem r_close {d : Nat} {Q : mj_Q} {τ : mj_S} {L s : Nat} (hL : τ 0 17 = (L : Int) + 1) (h13 : L ≤ 12) (h4 : τ 0 4 = s) (hs : s ≤ 300) (h9 : ¬ τ 9 L = 1) (h12 : ¬ τ 12 L = 1) (h : ∀ τ', τ' = mj_up (mj_up τ 0 4 ((s : Int) + 1)) 0 17 (L : Int) → Q (some (.inl (τ 10 L))) τ') : mj_B mjm_L mjm_Ms (d + 2) 22 [.inr (.inl 0)] τ Q := by
  refine wq_m22 ?_
  rw [hL, h4, show ((L : Int) + 1 - 1).toNat = L by omega]
  refine ⟨fun c => absurd c (by omega), fun _ => ⟨by unfold mj_r; omega, by omega, by omega, fun c => absurd c h9, fun _ => ⟨by unfold mj_r; omega, by omega, by omega, fun _ => ⟨by unfold mj_r; omega, fun σ3 e3 => ?_⟩, fun c => absurd c h12⟩⟩⟩
  have a3 : σ3 0 17 = (L : Int) + 1 := by rw [e3, mj_up_ne (by omega)]; exact hL
  rw [a3]
  refine ⟨by unfold mj_r; omega, fun σ4 e4 => ?_⟩
  have a4 : σ4 0 17 = L := by rw [e4, mj_up_eq]; omega
  have a10 : σ4 10 L = τ 10 L := by rw [e4, mj_up_ne (by omega), e3, mj_up_ne (by omega)]
  rw [a4, Int.toNat_natCast, a10]
  refine ⟨by omega, by omega, h σ4 ?_⟩
  rw [e4, e3, show (L : Int) + 1 - 1 = L by omega]
theorem r_closex {d : Nat} {Q : mj_Q} {τ : mj_S} {L : Nat} (hL : τ 0 17 = L) (h13 : L ≤ 13) (h5 : τ 0 5 = 0) (hx : L = 0 ∨ τ 9 (L - 1) = 1 ∨ τ 12 (L - 1) = 1) (h : Q (some (.inl 268435456)) (mj_up τ 0 5 1)) : mj_B mjm_L mjm_Ms (d + 2) 22 [.inr (.inl 0)] τ Q := by
  refine wq_m22 ?_
  rw [hL]
  refine ⟨fun c σ1 e1 => by rw [e1, z_sp0 h5]; exact h, fun c => ?_⟩
  rw [show ((L : Int) - 1).toNat = L - 1 by omega]
  refine ⟨by unfold mj_r; omega, by omega, by omega, fun _ σ2 e2 => by rw [e2, z_sp0 h5]; exact h, fun c9 => ⟨by unfold mj_r; omega, by omega, by omega, fun c12 => ?_, fun _ σ5 e5 => by rw [e5, z_sp0 h5]; exact h⟩⟩
  rcases hx with z | z | z
  · exact absurd z (by omega)
  · exact absurd z c9
  · exact absurd z c12
/-- dot() behind a row of one dot: it fits -/
theorem r_dotf {d : Nat} {Q : mj_Q} {τ : mj_S} {L : Nat} (hL : τ 0 17 = (L : Int) + 1) (h13 : L ≤ 12) (h4 : 0 ≤ τ 0 4) (h2 : τ 0 2 ≤ 300) (hlk : ¬ z_lk τ = 46) (h9 : τ 9 L = 0) (h11 : ¬ τ 11 L = 268435456) (h12 : τ 12 L = 0) (h : ∀ τ', τ' = mj_up τ 12 L 1 → Q (some (.inl (-2))) τ') : mj_B mjm_L mjm_Ms (d + 2) 21 [.inr (.inl 0)] τ Q := by
  refine wq_m21 ?_
  rw [hL, show ((L : Int) + 1 - 1).toNat = L by omega]
  refine ⟨h4, h2, fun _ => ⟨fun c => absurd c (by omega), fun _ => ⟨by unfold mj_r; omega, by omega, by omega, fun c => absurd h9 c, fun _ => ⟨by unfold mj_r; omega, by omega, by omega, fun c => absurd c h11, fun _ => ⟨by unfold mj_r; omega, by omega, by omega, fun c => absurd h12 c, fun _ => ⟨by unfold mj_r; omega, by omega, by omega, h⟩⟩⟩⟩⟩, fun c => absurd c hlk⟩
/-- dot() that does not fit -/
theorem r_dotx {d : Nat} {Q : mj_Q} {τ : mj_S} {L : Nat} (hL : τ 0 17 = L) (h13 : L ≤ 13) (h4 : 0 ≤ τ 0 4) (h2 : τ 0 2 ≤ 300) (h5 : τ 0 5 = 0) (hlk : ¬ z_lk τ = 46) (hx : L = 0 ∨ ¬ τ 9 (L - 1) = 0 ∨ τ 11 (L - 1) = 268435456 ∨ ¬ τ 12 (L - 1) = 0) (h : Q (some (.inl (-2))) (mj_up τ 0 5 1)) : mj_B mjm_L mjm_Ms (d + 2) 21 [.inr (.inl 0)] τ Q := by
  refine wq_m21 ?_
  have hh : ∀ τ', τ' = z_sp τ 1 → Q (some (.inl (-2))) τ' := fun τ' e => by rw [e, z_sp0 h5]; exact h
  rw [hL]
  refine ⟨h4, h2, fun _ => ⟨fun _ => hh, fun c => ?_⟩, fun c => absurd c hlk⟩
  rw [show ((L : Int) - 1).toNat = L - 1 by omega]
  refine ⟨by unfold mj_r; omega, by omega, by omega, fun _ => hh, fun c9 => ⟨by unfold mj_r; omega, by omega, by omega, fun _ => hh, fun c11 => ⟨by unfold mj_r; omega, by omega, by omega, fun _ => hh, fun c12 => ?_⟩⟩⟩
  rcases hx with z | z | z | z
  · exact absurd z (by omega)
  · exact absurd c9 z
  · exact absurd z c11
  · exact absurd c12 z
/-- dot() at a row that begins with a dot, 13 lists deep -/
theorem r_dot13 {d : Nat} {Q : mj_Q} {τ : mj_S} (h4 : 0 ≤ τ 0 4) (h2 : τ 0 2 ≤ 300) (hlk : z_lk τ = 46) (ht : mj_B mjm_L mjm_Ms (d + 1) 16 [.inr (.inl 0)] τ (fun r τ' => ∃ v, r = some (.inl v) ∧ τ' 0 17 = 13 ∧ (¬ τ' 9 12 = 0 ∨ τ' 11 12 = 268435456 ∨ ¬ τ' 12 12 = 0) ∧ Q (some (.inl (-2))) (z_sp τ' 1))) : mj_B mjm_L mjm_Ms (d + 2) 21 [.inr (.inl 0)] τ Q := by
  refine wq_m21 ?_
  refine ⟨h4, h2, fun c => absurd hlk c, fun _ => mj_B_mono _ _ _ _ _ _ (fun r τ' q => ?_) ht⟩
  obtain ⟨v, q1, q2, q3, q4⟩ := q
  have hh : ∀ τ2, τ2 = z_sp τ' 1 → Q (some (.inl (-2))) τ2 := fun τ2 e => by rw [e]; exact q4
  rw [q2]
  refine ⟨v, q1, fun _ => hh, fun _ => ⟨by unfold mj_r; omega, by omega, by omega, fun _ => hh, fun c9 => ⟨by unfold mj_r; omega, by omega, by omega, fun _ => hh, fun c11 => ⟨by unfold mj_r; omega, by omega, by omega, fun _ => hh, fun c12 => ?_⟩⟩⟩⟩
  rcases q3 with z | z | z
  · exact absurd c9 z
  · exact absurd z c11
  · exact absurd c12 z
/-- a member of a list -/
theorem r_takem {d : Nat} {Q : mj_Q} {τ : mj_S} {v : Int} {L p : Nat} (hL : τ 0 17 = (L : Int) + 1) (h13 : L ≤ 12) (h5 : τ 0 5 = 0) (h9 : τ 9 L = 0) (h12 : τ 12 L = 0) (hp : τ 0 11 = p) (hp4 : p ≤ 400)
    (hfull : p = 400 → Q (some (.inl 268435456)) (mj_up τ 0 5 11))
    (hfirst : p < 400 → τ 11 L = 268435456 → Q (some (.inl (-2))) (mj_up (mj_up (z_s2 τ p v 268435456) 10 L (536870912 + (p : Int))) 11 L (536870912 + (p : Int))))
    (hmore : p < 400 → ¬ τ 11 L = 268435456 → ∃ q : Nat, τ 11 L = 536870912 + (q : Int) ∧ q < 400 ∧ Q (some (.inl (-2))) (mj_up (mj_up (z_s2 τ p v 268435456) 5 q (536870912 + (p : Int))) 11 L (536870912 + (p : Int)))) : mj_B mjm_L mjm_Ms (d + 3) 23 [.inr (.inl 0), .inl v] τ Q := by
  refine wq_m23 ?_
  rw [hL, hp, show ((L : Int) + 1 - 1).toNat = L by omega]
  refine ⟨by unfold mj_r; omega, by omega, by omega, fun _ => ⟨by omega, by omega, fun _ => ⟨by omega, by omega, fun σ1 e1 => ?_⟩, fun c => absurd (h12.symm.trans c) (by decide)⟩, fun c => absurd (h9.symm.trans c) (by decide)⟩
  by_cases c : p = 400
  · have e1' : σ1 = mj_up τ 0 5 11 := by
      rw [e1]; unfold z_sr; rw [if_pos (by omega)]; exact z_sp0 h5
    have a5 : σ1 0 5 = 11 := by rw [e1', mj_up_eq]
    rw [a5]
    exact ⟨fun z => absurd z (by decide), fun _ => by rw [e1']; exact hfull c⟩
  · have e1' : σ1 = z_s2 τ p v 268435456 := by rw [e1]; exact z_sr_1 hp (by omega)
    have a5 : σ1 0 5 = 0 := by rw [e1', z_s2_o (by omega)]; exact h5
    have a11 : σ1 11 L = τ 11 L := by rw [e1', z_s2_o (by omega)]
    rw [a5, a11, if_neg (by omega)]
    refine ⟨fun _ => ⟨by omega, by omega, fun c1 => ?_, fun c1 => ⟨by omega, by omega, fun σ4 e4 => ⟨by omega, by omega, fun σ5 e5 => ?_⟩⟩⟩, fun z => absurd z (by decide)⟩
    · obtain ⟨q, g1, g2, g3⟩ := hmore (by omega) c1
      rw [g1, show (536870912 + (q : Int) - 536870912).toNat = q by omega]
      refine ⟨by omega, by omega, by unfold mj_r; omega, by omega, by omega, fun σ2 e2 => ⟨by omega, by omega, fun σ3 e3 => ?_⟩⟩
      rw [e3, e2, e1']; exact g3
    · rw [e5, e4, e1']; exact hfirst (by omega) c1
/-- the end of a list behind a dot -/
theorem r_taked {d : Nat} {Q : mj_Q} {τ : mj_S} {v : Int} {L q : Nat} (hL : τ 0 17 = (L : Int) + 1) (h13 : L ≤ 12) (h9 : τ 9 L = 0) (h12 : τ 12 L = 1) (h11 : τ 11 L = 536870912 + (q : Int)) (hq : q < 400) (h : Q (some (.inl (-2))) (mj_up (mj_up τ 5 q v) 12 L 2)) : mj_B mjm_L mjm_Ms (d + 3) 23 [.inr (.inl 0), .inl v] τ Q := by
  refine wq_m23 ?_
  rw [hL, show ((L : Int) + 1 - 1).toNat = L by omega, h11, show (536870912 + (q : Int) - 536870912).toNat = q by omega]
  refine ⟨by unfold mj_r; omega, by omega, by omega, fun _ => ⟨by omega, by omega, fun c => absurd h12 c, fun _ => ⟨by omega, by omega, by unfold mj_r; omega, by omega, by omega, fun σ6 e6 => ⟨by omega, by omega, fun σ7 e7 => ?_⟩⟩⟩, fun c => absurd (h9.symm.trans c) (by decide)⟩
  rw [e7, e6]; exact h
/-- what is quoted -/
theorem r_takeq {d : Nat} {Q : mj_Q} {τ : mj_S} {v : Int} {L p : Nat} (hL : τ 0 17 = (L : Int) + 1) (h13 : L ≤ 12) (h5 : τ 0 5 = 0) (h9 : τ 9 L = 1) (hp : τ 0 11 = p) (hp4 : p ≤ 400)
    (hx : 399 ≤ p → ∀ τ', ((p = 400 ∧ τ' = mj_up (mj_up τ 0 17 (L : Int)) 0 5 11) ∨ (p = 399 ∧ τ' = mj_up (z_s2 (mj_up τ 0 17 (L : Int)) p v 268435456) 0 5 11)) → Q (some (.inl 268435456)) τ')
    (h : p < 399 → Q (some (.inl (536870912 + ((p + 1 : Nat) : Int)))) (z_s2 (z_s2 (mj_up τ 0 17 (L : Int)) p v 268435456) (p + 1) 268435458 (536870912 + (p : Int)))) : mj_B mjm_L mjm_Ms (d + 3) 23 [.inr (.inl 0), .inl v] τ Q := by
  refine wq_m23 ?_
  rw [hL, show ((L : Int) + 1 - 1).toNat = L by omega]
  refine ⟨by unfold mj_r; omega, by omega, by omega, fun c => absurd h9 c, fun _ => ⟨by unfold mj_r; omega, fun σ8 e8 => ?_⟩⟩
  have e8' : σ8 = mj_up τ 0 17 (L : Int) := by rw [e8, show (L : Int) + 1 - 1 = L by omega]
  have b11 : σ8 0 11 = p := by rw [e8', mj_up_ne (by omega)]; exact hp
  have b5 : σ8 0 5 = 0 := by rw [e8', mj_up_ne (by omega)]; exact h5
  rw [b11]
  refine ⟨by omega, by omega, fun σ9 e9 => ?_⟩
  by_cases c : p = 400
  · have e9' : σ9 = mj_up σ8 0 5 11 := by
      rw [e9]; unfold z_sr; rw [if_pos (by omega)]; exact z_sp0 b5
    have a5 : σ9 0 5 = 11 := by rw [e9', mj_up_eq]
    rw [a5]
    exact ⟨fun z => absurd z (by decide), fun _ => hx (by omega) _ (Or.inl ⟨c, by rw [e9', e8']⟩)⟩
  · have e9' : σ9 = z_s2 σ8 p v 268435456 := by rw [e9]; exact z_sr_1 b11 (by omega)
    have a5 : σ9 0 5 = 0 := by rw [e9', z_s2_o (by omega)]; exact b5
    have a11 : σ9 0 11 = ((p + 1 : Nat) : Int) := by rw [e9', z_s2_v.2.2]; omega
    rw [a5, a11, if_neg (by omega)]
    refine ⟨fun _ => ⟨by omega, by omega, fun σ10 e10 => ?_⟩, fun z => absurd z (by decide)⟩
    by_cases c2 : p = 399
    · have e10' : σ10 = mj_up σ9 0 5 11 := by
        rw [e10]; unfold z_sr; rw [if_pos (by omega)]; exact z_sp0 a5
      rw [if_pos (by omega)]
      exact hx (by omega) _ (Or.inr ⟨c2, by rw [e10', e9', e8']⟩)
    · have e10' : σ10 = z_s2 σ9 (p + 1) 268435458 (536870912 + (p : Int)) := by rw [e10]; exact z_sr_1 a11 (by omega)
      rw [if_neg (by omega), e10', e9', e8']
      exact h (by omega)
