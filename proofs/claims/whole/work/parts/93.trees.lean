/-! data in the store: trees of pairs, each with its size and how deep lists lie in it -/
theorem z_cd_p {B : Nat → Int} {p : Nat} (h : p < 600) : z_cd B (536870912 + (p : Int)) = B p := by
  unfold z_cd
  rw [if_pos (by omega), show (536870912 + (p : Int) - 536870912).toNat = p by omega]
theorem z_cd_n {B : Nat → Int} {x : Int} (h : x < 536870912) : z_cd B x = 268435456 := if_neg (by omega)
def z_T (A B : Nat → Int) (w : Int) (lo : Nat) : Nat → Nat → Nat → Nat → Int → Prop
  | 0, _, _, s, x => (0 ≤ x ∧ x < w) ∧ s = 0
  | n + 1, b, k, s, x => ((0 ≤ x ∧ x < w) ∧ s = 0) ∨ ∃ k' p s1 s2 : Nat, k = k' + 1 ∧ x = 536870912 + (p : Int) ∧ lo ≤ p ∧ p < b ∧ p < 400 ∧ s = s1 + s2 + 1 ∧ z_T A B w lo n p k' s1 (A p) ∧ z_T A B w lo n b k s2 (B p)
theorem z_T_mono {A B : Nat → Int} {w w' : Int} {lo lo' : Nat} (hw : w ≤ w') (hlo : lo' ≤ lo) : ∀ {n n' b b' k k' s : Nat} {x : Int}, n ≤ n' → b ≤ b' → k ≤ k' → z_T A B w lo n b k s x → z_T A B w' lo' n' b' k' s x
  | 0, 0, b, b', k, k', s, x, _, _, _, h => ⟨⟨h.1.1, by have := h.1.2; omega⟩, h.2⟩
  | 0, n' + 1, b, b', k, k', s, x, _, _, _, h => Or.inl ⟨⟨h.1.1, by have := h.1.2; omega⟩, h.2⟩
  | n + 1, 0, b, b', k, k', s, x, hn, _, _, h => absurd hn (by omega)
  | n + 1, n' + 1, b, b', k, k', s, x, hn, hb, hk, h => by
    rcases h with h | ⟨k1, p, s1, s2, h1, h2, h0, h3, h4, h5, h6, h7⟩
    · exact Or.inl ⟨⟨h.1.1, by have := h.1.2; omega⟩, h.2⟩
    · obtain ⟨k2, rfl⟩ : ∃ k2, k' = k2 + 1 := ⟨k' - 1, by omega⟩
      exact Or.inr ⟨k2, p, s1, s2, rfl, h2, by omega, by omega, h4, h5, z_T_mono hw hlo (by omega) (Nat.le_refl _) (by omega) h6, z_T_mono hw hlo (by omega) hb hk h7⟩
theorem z_T_frame {A B A' B' : Nat → Int} {w : Int} {lo : Nat} : ∀ {n b k s : Nat} {x : Int}, (∀ i, lo ≤ i → i < b → i < 400 → A' i = A i ∧ B' i = B i) → z_T A B w lo n b k s x → z_T A' B' w lo n b k s x
  | 0, _, _, _, _, _, h => h
  | n + 1, b, k, s, x, hf, h => by
    rcases h with h | ⟨k1, p, s1, s2, h1, h2, h0, h3, h4, h5, h6, h7⟩
    · exact Or.inl h
    · obtain ⟨e1, e2⟩ := hf p h0 h3 h4
      exact Or.inr ⟨k1, p, s1, s2, h1, h2, h0, h3, h4, h5, by rw [e1]; exact z_T_frame (fun i hi0 hi h4' => hf i hi0 (by omega) h4') h6, by rw [e2]; exact z_T_frame hf h7⟩
/-- x is a datum of the store: its pairs lie from lo to below b, lists in it lie at most k deep, it has s pairs -/
def z_D (A B : Nat → Int) (w : Int) (lo b k s : Nat) (x : Int) : Prop := ∃ n, z_T A B w lo n b k s x
theorem z_D_mono {A B : Nat → Int} {w w' : Int} {lo lo' b b' k k' s : Nat} {x : Int} (hw : w ≤ w') (hlo : lo' ≤ lo) (hb : b ≤ b') (hk : k ≤ k') (h : z_D A B w lo b k s x) : z_D A B w' lo' b' k' s x := by
  obtain ⟨n, h⟩ := h
  exact ⟨n, z_T_mono hw hlo (Nat.le_refl _) hb hk h⟩
theorem z_D_frame {A B A' B' : Nat → Int} {w : Int} {lo b k s : Nat} {x : Int} (hf : ∀ i, lo ≤ i → i < b → i < 400 → A' i = A i ∧ B' i = B i) (h : z_D A B w lo b k s x) : z_D A' B' w lo b k s x := by
  obtain ⟨n, h⟩ := h
  exact ⟨n, z_T_frame hf h⟩
theorem z_D_atom {A B : Nat → Int} {w : Int} {lo b k : Nat} {x : Int} (h0 : 0 ≤ x) (h1 : x < w) : z_D A B w lo b k 0 x := ⟨0, ⟨h0, h1⟩, rfl⟩
theorem z_D_pair {A B : Nat → Int} {w : Int} {lo b k s1 s2 p : Nat} (h0 : lo ≤ p) (hp : p < b) (h4 : p < 400) (h1 : z_D A B w lo p k s1 (A p)) (h2 : z_D A B w lo b (k + 1) s2 (B p)) : z_D A B w lo b (k + 1) (s1 + s2 + 1) (536870912 + (p : Int)) := by
  obtain ⟨n1, h1⟩ := h1
  obtain ⟨n2, h2⟩ := h2
  exact ⟨max n1 n2 + 1, Or.inr ⟨k, p, s1, s2, rfl, rfl, h0, hp, h4, rfl, z_T_mono (Int.le_refl _) (Nat.le_refl _) (by omega) (Nat.le_refl _) (Nat.le_refl _) h1, z_T_mono (Int.le_refl _) (Nat.le_refl _) (by omega) (Nat.le_refl _) (Nat.le_refl _) h2⟩⟩
/-- a datum is an atom or a pair -/
theorem z_D_cases {A B : Nat → Int} {w : Int} {lo b k s : Nat} {x : Int} (h : z_D A B w lo b k s x) : ((0 ≤ x ∧ x < w) ∧ s = 0) ∨ ∃ k' p s1 s2 : Nat, k = k' + 1 ∧ x = 536870912 + (p : Int) ∧ p < b ∧ p < 400 ∧ s = s1 + s2 + 1 ∧ z_D A B w lo p k' s1 (z_cd A x) ∧ z_D A B w lo b k s2 (z_cd B x) := by
  obtain ⟨n, h⟩ := h
  cases n with
  | zero => exact Or.inl h
  | succ n =>
    rcases h with h | ⟨k1, p, s1, s2, h1, h2, h0, h3, h4, h5, h6, h7⟩
    · exact Or.inl h
    · refine Or.inr ⟨k1, p, s1, s2, h1, h2, h3, h4, h5, ?_, ?_⟩
      · rw [h2, z_cd_p (by omega)]; exact ⟨n, h6⟩
      · rw [h2, z_cd_p (by omega)]; exact ⟨n, h7⟩
theorem z_D_r {A B : Nat → Int} {w : Int} {lo b k s : Nat} {x : Int} (hw : w ≤ 536870912) (h : z_D A B w lo b k s x) : 0 ≤ x ∧ x < 536871312 := by
  rcases z_D_cases h with ⟨h1, h2⟩ | ⟨k', p, s1, s2, h1, h2, h3, h4, h5, h6, h7⟩ <;> omega
theorem z_D_p {A B : Nat → Int} {w : Int} {lo b k s : Nat} {x : Int} (hw : w ≤ 536870912) (h : z_D A B w lo b k s x) (hx : 536870912 ≤ x) : ∃ k' p s1 s2 : Nat, k = k' + 1 ∧ x = 536870912 + (p : Int) ∧ p < b ∧ p < 400 ∧ s = s1 + s2 + 1 ∧ z_D A B w lo p k' s1 (z_cd A x) ∧ z_D A B w lo b k s2 (z_cd B x) := by
  rcases z_D_cases h with ⟨h1, h2⟩ | h
  · omega
  · exact h
theorem z_D_a {A B : Nat → Int} {w : Int} {lo b k s : Nat} {x : Int} (h : z_D A B w lo b k s x) (hx : x < 536870912) : 0 ≤ x ∧ x < w ∧ s = 0 := by
  rcases z_D_cases h with ⟨h1, h2⟩ | ⟨k', p, s1, s2, h1, h2, h3, h4, h5, h6, h7⟩ <;> omega
/-- the rest of a list, i pairs on -/
def z_nth (B : Nat → Int) (x : Int) : Nat → Int
  | 0 => x
  | i + 1 => z_cd B (z_nth B x i)
theorem z_nth_s (B : Nat → Int) (x : Int) : ∀ i, z_nth B (z_cd B x) i = z_nth B x (i + 1)
  | 0 => rfl
  | i + 1 => by show z_cd B (z_nth B (z_cd B x) i) = _; rw [z_nth_s B x i]; rfl
/-- n pairs, then none -/
def z_len (B : Nat → Int) (x : Int) (n : Nat) : Prop := (∀ i, i < n → 536870912 ≤ z_nth B x i ∧ z_nth B x i < 536871312) ∧ z_nth B x n < 536870912
theorem z_len_0 {B : Nat → Int} {x : Int} (h : x < 536870912) : z_len B x 0 := ⟨fun i hi => absurd hi (Nat.not_lt_zero i), h⟩
theorem z_len_s {B : Nat → Int} {x : Int} {n : Nat} (hx : 536870912 ≤ x ∧ x < 536871312) (h : z_len B (z_cd B x) n) : z_len B x (n + 1) := by
  refine ⟨fun i hi => ?_, ?_⟩
  · cases i with
    | zero => exact hx
    | succ i => rw [← z_nth_s]; exact h.1 i (by omega)
  · rw [← z_nth_s]; exact h.2
theorem z_len_un {B : Nat → Int} {x : Int} {n m : Nat} (h1 : z_len B x n) (h2 : z_len B x m) : n = m := by
  rcases Nat.lt_trichotomy n m with h | h | h
  · have := h2.1 n h; have := h1.2; omega
  · exact h
  · have := h1.1 m h; have := h2.2; omega
theorem z_len_t {B : Nat → Int} {x : Int} {n : Nat} (h : z_len B x (n + 1)) : (536870912 ≤ x ∧ x < 536871312) ∧ z_len B (z_cd B x) n :=
  ⟨h.1 0 (by omega), fun i hi => by rw [z_nth_s]; exact h.1 (i + 1) (by omega), by rw [z_nth_s]; exact h.2⟩
def z_ln (B : Nat → Int) (x : Int) (n : Nat) : Int := if z_nth B x n = 268435456 then (n : Int) else -1
theorem z_D_len {A B : Nat → Int} {w : Int} (hw : w ≤ 536870912) {lo b k : Nat} : ∀ (s : Nat) {x : Int}, z_D A B w lo b k s x → ∃ n, z_len B x n ∧ n ≤ s := by
  intro s
  induction s using Nat.strongRecOn with
  | ind s ih =>
    intro x h
    by_cases hx : 536870912 ≤ x
    · obtain ⟨k', p, s1, s2, h1, h2, h3, h4, h5, h6, h7⟩ := z_D_p hw h hx
      obtain ⟨n, h8, h9⟩ := ih s2 (by omega) h7
      exact ⟨n + 1, z_len_s ⟨hx, by omega⟩ h8, by omega⟩
    · exact ⟨0, z_len_0 (by omega), Nat.zero_le _⟩
/-- a list under way: from x to its last pair, whose rest is not said -/
def z_Sp (A B : Nat → Int) (w : Int) (lo : Nat) : Nat → Nat → Nat → Nat → Int → Prop
  | 0, _, _, _, _ => False
  | n + 1, q, k, s, x => ∃ k' p s1 : Nat, k = k' + 1 ∧ x = 536870912 + (p : Int) ∧ lo ≤ p ∧ p < 400 ∧ z_D A B w lo p k' s1 (A p) ∧ ((p = q ∧ s = s1 + 1) ∨ (p < q ∧ ∃ s2, s = s1 + 1 + s2 ∧ z_Sp A B w lo n q k s2 (B p)))
theorem z_Sp_frame {A B A' B' : Nat → Int} {w : Int} {lo : Nat} : ∀ {n q k s : Nat} {x : Int}, (∀ i, lo ≤ i → i ≤ q → i < 400 → A' i = A i) → (∀ i, lo ≤ i → i < q → i < 400 → B' i = B i) → z_Sp A B w lo n q k s x → z_Sp A' B' w lo n q k s x
  | 0, _, _, _, _, _, _, h => h
  | n + 1, q, k, s, x, hA, hB, h => by
    obtain ⟨k1, p, s1, h1, h2, h0, h3, h4, h5⟩ := h
    have hp : p ≤ q := by rcases h5 with h5 | h5 <;> omega
    refine ⟨k1, p, s1, h1, h2, h0, h3, ?_, ?_⟩
    · rw [hA p h0 hp h3]
      exact z_D_frame (fun i hi0 hi h4' => ⟨hA i hi0 (by omega) h4', hB i hi0 (by omega) h4'⟩) h4
    · rcases h5 with h5 | ⟨h5, s2, h6, h7⟩
      · exact Or.inl h5
      · exact Or.inr ⟨h5, s2, h6, by rw [hB p h0 h5 h3]; exact z_Sp_frame hA hB h7⟩
theorem z_Sp_one {A B : Nat → Int} {w : Int} {lo k s p : Nat} (h0 : lo ≤ p) (h3 : p < 400) (h : z_D A B w lo p k s (A p)) : z_Sp A B w lo 1 p (k + 1) (s + 1) (536870912 + (p : Int)) := ⟨k, p, s, rfl, rfl, h0, h3, h, Or.inl ⟨rfl, rfl⟩⟩
theorem z_Sp_ext {A B : Nat → Int} {w : Int} {lo k s1 p : Nat} (h0 : lo ≤ p) (h3 : p < 400) (hd : z_D A B w lo p k s1 (A p)) : ∀ {n q s : Nat} {x : Int}, q < p → B q = 536870912 + (p : Int) → z_Sp A B w lo n q (k + 1) s x → z_Sp A B w lo (n + 1) p (k + 1) (s + (s1 + 1)) x
  | 0, _, _, _, _, _, h => h.elim
  | n + 1, q, s, x, hq, hB, h => by
    obtain ⟨k1, r, t1, h1, h2, h2', h4, h5, h6⟩ := h
    refine ⟨k1, r, t1, h1, h2, h2', h4, h5, Or.inr ?_⟩
    rcases h6 with ⟨e1, e2⟩ | ⟨e1, s2, e2, e3⟩
    · refine ⟨by omega, s1 + 1, by omega, ?_⟩
      rw [e1, hB]
      obtain ⟨k2, p2, t2, g⟩ := z_Sp_one (B := B) h0 h3 hd
      exact ⟨k2, p2, t2, g.1, g.2.1, g.2.2.1, g.2.2.2.1, g.2.2.2.2.1, g.2.2.2.2.2.elim Or.inl (fun z => absurd z.2 (by rintro ⟨_, _, z⟩; exact z))⟩
    · exact ⟨by omega, s2 + (s1 + 1), by omega, z_Sp_ext h0 h3 hd hq hB e3⟩
theorem z_Sp_close {A B : Nat → Int} {w : Int} {lo b k s2 : Nat} : ∀ {n q s : Nat} {x : Int}, q < b → z_D A B w lo b k s2 (B q) → z_Sp A B w lo n q k s x → z_D A B w lo b k (s + s2) x
  | 0, _, _, _, _, _, h => h.elim
  | n + 1, q, s, x, hq, hB, h => by
    obtain ⟨k1, r, t1, h1, h2, h2', h4, h5, h6⟩ := h
    subst h1
    rw [h2]
    rcases h6 with ⟨e1, e2⟩ | ⟨e1, s3, e2, e3⟩
    · subst e1
      have := z_D_pair h2' hq h4 h5 hB
      rw [show s + s2 = t1 + s2 + 1 by omega]; exact this
    · have := z_D_pair (s1 := t1) h2' (by omega) h4 h5 (z_Sp_close hq hB e3)
      rw [show s + s2 = t1 + (s3 + s2) + 1 by omega]; exact this
