/-! what code of a form is -/
def z_el (A B : Nat → Int) (x : Int) (i : Nat) : Int := z_cd A (z_nth B x i)
/-- names that are known, the latest first, with their places -/
def z_lu : List (Int × Int) → Int → Option Int
  | [], _ => none
  | (a, p) :: E, x => if a = x then some p else z_lu E x
def z_bd (nm : Nat → Int) (pl : Int) : Nat → List (Int × Int) → List (Int × Int)
  | 0, E => E
  | m + 1, E => (nm m, pl + (m : Int)) :: z_bd nm pl m E
theorem z_bd_len (nm : Nat → Int) (pl : Int) (E : List (Int × Int)) : ∀ m, (z_bd nm pl m E).length = E.length + m
  | 0 => rfl
  | m + 1 => by show (z_bd nm pl m E).length + 1 = _; rw [z_bd_len nm pl E m]; omega
theorem z_bd_eq {nm nm' : Nat → Int} {pl : Int} {E : List (Int × Int)} : ∀ {m : Nat}, (∀ i, i < m → nm' i = nm i) → z_bd nm' pl m E = z_bd nm pl m E
  | 0, _ => rfl
  | m + 1, h => by show _ :: _ = _ :: _; rw [h m (by omega), z_bd_eq (fun i hi => h i (by omega))]
abbrev z_CT : Type := List (Int × Int) → Int → Int → Bool → Nat → Nat → Prop
abbrev z_K : Type := (Nat → Int) × (Nat → Int) × (Nat → Int)
def z_in (K : z_K) (i : Nat) (o a n : Int) : Prop := K.1 i = o ∧ K.2.1 i = a ∧ K.2.2 i = n
def z_isl (B : Nat → Int) (x : Int) (n : Nat) : Prop := z_len B x n ∧ z_nth B x n = 268435456
/-- code of a form that is no pair -/
def z_lf (K : z_K) (E : List (Int × Int)) (x : Int) (lo hi : Nat) : Prop :=
  hi = lo + 2 ∧ z_in K lo 1 0 0 ∧ ((0 ≤ x ∧ x ≤ 268435457 ∧ z_in K (lo + 1) 2 x 0) ∨ (268435457 < x ∧ ∃ p, z_lu E x = some p ∧ z_in K (lo + 1) 3 p 0))
/-- code of forms one after another -/
def z_fs (C : z_CT) (E : List (Int × Int)) (e : Nat → Int) (pl : Int) (n : Nat) (f : Nat → Nat) : Prop := ∀ i, i < n → C E (e i) (pl + (i : Int)) false (f i) (f (i + 1))
def z_ccl (A B : Nat → Int) (K : z_K) (C : z_CT) (E : List (Int × Int)) (pl : Int) (tl : Bool) (hi : Nat) (cl : Int) (a b c : Nat) : Prop :=
  z_isl B cl 2 ∧ ∃ g h : Nat, C E (z_el A B cl 0) pl false a g ∧ z_in K g 5 (b : Int) 0 ∧ C E (z_el A B cl 1) pl tl (g + 1) h ∧ z_in K h 4 (hi : Int) 0 ∧ b = h + 1 ∧ c = 0
/-- code of a form that is a pair; head x n : a list of n forms behind its head -/
def z_nd (A B : Nat → Int) (K : z_K) (C : z_CT) (E : List (Int × Int)) (x : Int) (pl : Int) (tl : Bool) (lo hi : Nat) : Prop :=
  ∃ (n : Nat) (hd : Int), 536870912 ≤ x ∧ z_isl B x (n + 1) ∧ hd = z_el A B x 0 ∧ 268435456 ≤ hd ∧ hd < 536870912 ∧ z_in K lo 1 0 0 ∧
  ((hd = 268435458 ∧ n = 1 ∧ z_in K (lo + 1) 2 (z_el A B x 1) 0 ∧ hi = lo + 2 ∧ ∃ b s : Nat, z_D A B 536870912 0 b 12 s (z_el A B x 1)) ∨
   (hd = 268435459 ∧ n = 3 ∧ ∃ a b : Nat, C E (z_el A B x 1) pl false (lo + 1) a ∧ z_in K a 5 ((b : Int) + 1) 0 ∧ C E (z_el A B x 2) pl tl (a + 1) b ∧ z_in K b 4 (hi : Int) 0 ∧ C E (z_el A B x 3) pl tl (b + 1) hi) ∨
   (hd = 268435460 ∧ n = 2 ∧ ∃ (m : Nat) (f : Nat → Nat) (c : Nat), z_isl B (z_el A B x 1) m ∧ (∀ i, i < m → z_isl B (z_el A B (z_el A B x 1) i) 2) ∧ f 0 = lo + 1 ∧ z_fs C E (fun i => z_el A B (z_el A B (z_el A B x 1) i) 1) pl m f ∧ C (z_bd (fun i => z_el A B (z_el A B (z_el A B x 1) i) 0) pl m E) (z_el A B x 2) (pl + (m : Int)) tl (f m) c ∧ z_in K c 8 (m : Int) 0 ∧ hi = c + 1) ∨
   (hd = 268435461 ∧ ∃ f : Nat → Nat, f 0 = lo + 1 ∧ (∀ i, i < n → z_ccl A B K C E pl tl hi (z_el A B x (i + 1)) (f i) (f (i + 1)) 0) ∧ z_in K (f n) 2 268435456 0 ∧ hi = f n + 1) ∨
   ((hd = 268435462 ∨ hd = 268435463) ∧ ((n = 0 ∧ z_in K (lo + 1) 2 (if hd = 268435462 then 268435457 else 268435456) 0 ∧ hi = lo + 2) ∨
      ∃ (n' : Nat) (f g : Nat → Nat), n = n' + 1 ∧ f 0 = lo + 1 ∧ (∀ i, i < n' → C E (z_el A B x (i + 1)) pl false (f i) (g i) ∧ z_in K (g i) (if hd = 268435462 then 6 else 7) (hi : Int) 0 ∧ f (i + 1) = g i + 1) ∧ C E (z_el A B x (n' + 1)) pl tl (f n') hi)) ∨
   (¬ (268435458 ≤ hd ∧ hd ≤ 268435463) ∧ ¬ hd = 268435465 ∧ ∃ f : Nat → Nat, f 0 = lo + 1 ∧ z_fs C E (fun i => z_el A B x (i + 1)) pl n f ∧
     ((hd = 268435464 ∧ z_in K (f n) 2 268435456 0 ∧ (∀ i, i < n → z_in K (f n + 1 + i) 268435466 0 0) ∧ hi = f n + 1 + n) ∨
      (268435466 ≤ hd ∧ hd ≤ 268435476 ∧ (n : Int) = z_ar hd ∧ z_in K (f n) hd 0 0 ∧ hi = f n + 1) ∨
      ((hd ≤ 268435457 ∨ 268435476 < hd) ∧ z_in K (f n) (if tl then 10 else 9) hd (n : Int) ∧ hi = f n + 1))))
def z_C (A B : Nat → Int) (K : z_K) : Nat → z_CT
  | 0, E, x, _, _, lo, hi => x < 536870912 ∧ z_lf K E x lo hi
  | k + 1, E, x, pl, tl, lo, hi => (x < 536870912 ∧ z_lf K E x lo hi) ∨ z_nd A B K (z_C A B K k) E x pl tl lo hi
theorem z_up {f : Nat → Nat} {n : Nat} (h : ∀ i, i < n → f i ≤ f (i + 1)) : ∀ {i j : Nat}, i ≤ j → j ≤ n → f i ≤ f j
  | i, 0, hi, _ => by rw [Nat.le_zero.mp hi]; exact Nat.le_refl _
  | i, j + 1, hi, hj => by
    by_cases e : i = j + 1
    · rw [e]; exact Nat.le_refl _
    · exact Nat.le_trans (z_up h (i := i) (j := j) (by omega) (by omega)) (h j (by omega))
theorem z_nd_lt {A B : Nat → Int} {K : z_K} {C : z_CT} {E : List (Int × Int)} {x pl : Int} {tl : Bool} {lo hi : Nat} (hlt : ∀ E y p t a b, C E y p t a b → a + 2 ≤ b) (h : z_nd A B K C E x pl tl lo hi) : lo + 2 ≤ hi := by
  obtain ⟨n, hd, h1, h2, h3, h4, h5, h6, h⟩ := h
  rcases h with ⟨g1, g2, g3, g4, gd⟩ | ⟨g1, g2, a, b, g3, g4, g5, g6, g7⟩ | ⟨g1, g2, m, f, c, g3, g4, g5, g6, g7, g8, g9⟩ | ⟨g1, f, g2, g3, g4, g5⟩ | ⟨g1, ⟨g2, g3, g4⟩ | ⟨n', f, g, g2, g3, g4, g5⟩⟩ | ⟨g1, g2, f, g3, g4, g5⟩
  · omega
  · have := hlt _ _ _ _ _ _ g3; have := hlt _ _ _ _ _ _ g5; have := hlt _ _ _ _ _ _ g7; omega
  · have u := z_up (f := f) (n := m) (fun i hi => by have := hlt _ _ _ _ _ _ (g6 i hi); omega) (Nat.zero_le m) (Nat.le_refl m)
    have := hlt _ _ _ _ _ _ g7; omega
  · have u := z_up (f := f) (n := n) (fun i hi => by
      obtain ⟨_, g, h, q1, _, q2, _, q3, _⟩ := g3 i hi
      have := hlt _ _ _ _ _ _ q1; have := hlt _ _ _ _ _ _ q2; omega) (Nat.zero_le n) (Nat.le_refl n)
    omega
  · omega
  · have u := z_up (f := f) (n := n') (fun i hi => by
      obtain ⟨q1, _, q3⟩ := g4 i hi
      have := hlt _ _ _ _ _ _ q1; omega) (Nat.zero_le n') (Nat.le_refl n')
    have := hlt _ _ _ _ _ _ g5; omega
  · have u := z_up (f := f) (n := n) (fun i hi => by have := hlt _ _ _ _ _ _ (g4 i hi); omega) (Nat.zero_le n) (Nat.le_refl n)
    rcases g5 with ⟨_, _, _, q⟩ | ⟨_, _, _, _, q⟩ | ⟨_, _, q⟩ <;> omega
theorem z_C_lt {A B : Nat → Int} {K : z_K} : ∀ (k : Nat) (E : List (Int × Int)) (x pl : Int) (tl : Bool) (lo hi : Nat), z_C A B K k E x pl tl lo hi → lo + 2 ≤ hi
  | 0, _, _, _, _, _, _, h => by have := h.2.1; omega
  | k + 1, _, _, _, _, _, _, h => by
    rcases h with h | h
    · have := h.2.1; omega
    · exact z_nd_lt (z_C_lt k) h
theorem z_in_frame {K K' : z_K} {lo hi i : Nat} {o a n : Int} (hK : ∀ i, lo ≤ i → i < hi → K'.1 i = K.1 i ∧ K'.2.1 i = K.2.1 i ∧ K'.2.2 i = K.2.2 i) (h1 : lo ≤ i) (h2 : i < hi) (h : z_in K i o a n) : z_in K' i o a n := by
  obtain ⟨e1, e2, e3⟩ := hK i h1 h2
  obtain ⟨q1, q2, q3⟩ := h
  exact ⟨by rw [e1, q1], by rw [e2, q2], by rw [e3, q3]⟩
theorem z_lf_frame {K K' : z_K} {E : List (Int × Int)} {x : Int} {lo hi : Nat} (hK : ∀ i, lo ≤ i → i < hi → K'.1 i = K.1 i ∧ K'.2.1 i = K.2.1 i ∧ K'.2.2 i = K.2.2 i) (h : z_lf K E x lo hi) : z_lf K' E x lo hi := by
  obtain ⟨h1, h2, h3⟩ := h
  refine ⟨h1, z_in_frame hK (Nat.le_refl _) (by omega) h2, ?_⟩
  rcases h3 with ⟨g0, g1, g2⟩ | ⟨g1, p, g2, g3⟩
  · exact Or.inl ⟨g0, g1, z_in_frame hK (by omega) (by omega) g2⟩
  · exact Or.inr ⟨g1, p, g2, z_in_frame hK (by omega) (by omega) g3⟩
theorem z_nd_frame {A B : Nat → Int} {K K' : z_K} {C C' : z_CT} {E : List (Int × Int)} {x pl : Int} {tl : Bool} {lo hi : Nat} (hlt : ∀ E y p t a b, C E y p t a b → a + 2 ≤ b) (hK : ∀ i, lo ≤ i → i < hi → K'.1 i = K.1 i ∧ K'.2.1 i = K.2.1 i ∧ K'.2.2 i = K.2.2 i)
    (hC : ∀ E y p t a b, lo ≤ a → b ≤ hi → C E y p t a b → C' E y p t a b) (h : z_nd A B K C E x pl tl lo hi) : z_nd A B K' C' E x pl tl lo hi := by
  have hl := z_nd_lt hlt h
  obtain ⟨n, hd, h1, h2, h3, h4, h5, h6, h⟩ := h
  refine ⟨n, hd, h1, h2, h3, h4, h5, z_in_frame hK (Nat.le_refl _) (by omega) h6, ?_⟩
  have zi : ∀ {i : Nat} {o a n : Int}, lo ≤ i → i < hi → z_in K i o a n → z_in K' i o a n := fun a b c => z_in_frame hK a b c
  rcases h with ⟨g1, g2, g3, g4, gd⟩ | ⟨g1, g2, a, b, g3, g4, g5, g6, g7⟩ | ⟨g1, g2, m, f, c, g3, g4, g5, g6, g7, g8, g9⟩ | ⟨g1, f, g2, g3, g4, g5⟩ | ⟨g1, ⟨g2, g3, g4⟩ | ⟨n', f, g, g2, g3, g4, g5⟩⟩ | ⟨g1, g2, f, g3, g4, g5⟩
  · exact Or.inl ⟨g1, g2, zi (by omega) (by omega) g3, g4, gd⟩
  · have u1 := hlt _ _ _ _ _ _ g3; have u2 := hlt _ _ _ _ _ _ g5; have u3 := hlt _ _ _ _ _ _ g7
    exact Or.inr (Or.inl ⟨g1, g2, a, b, hC _ _ _ _ _ _ (by omega) (by omega) g3, zi (by omega) (by omega) g4, hC _ _ _ _ _ _ (by omega) (by omega) g5, zi (by omega) (by omega) g6, hC _ _ _ _ _ _ (by omega) (by omega) g7⟩)
  · have u := @z_up f m (fun i hi => by have := hlt _ _ _ _ _ _ (g6 i hi); omega)
    have u3 := hlt _ _ _ _ _ _ g7
    have u0 := u (Nat.zero_le m) (Nat.le_refl m)
    refine Or.inr (Or.inr (Or.inl ⟨g1, g2, m, f, c, g3, g4, g5, fun i hi => ?_, hC _ _ _ _ _ _ (by omega) (by omega) g7, zi (by omega) (by omega) g8, g9⟩))
    have u1 := u (Nat.zero_le i) (by omega)
    have u2 := u (i := i + 1) (j := m) (by omega) (Nat.le_refl m)
    exact hC _ _ _ _ _ _ (by omega) (by omega) (g6 i hi)
  · have hs : ∀ i, i < n → f i ≤ f (i + 1) := fun i hi => by
      obtain ⟨_, g, h, q1, _, q2, _, q3, _⟩ := g3 i hi
      have := hlt _ _ _ _ _ _ q1; have := hlt _ _ _ _ _ _ q2; omega
    have u := @z_up f n hs
    have u0 := u (Nat.zero_le n) (Nat.le_refl n)
    refine Or.inr (Or.inr (Or.inr (Or.inl ⟨g1, f, g2, fun i hi => ?_, zi (by omega) (by omega) g4, g5⟩)))
    have u1 := u (Nat.zero_le i) (by omega)
    have u2 := u (i := i + 1) (j := n) (by omega) (Nat.le_refl n)
    obtain ⟨q0, g, h, q1, q2, q3, q4, q5, q6⟩ := g3 i hi
    have w1 := hlt _ _ _ _ _ _ q1; have w2 := hlt _ _ _ _ _ _ q3
    exact ⟨q0, g, h, hC _ _ _ _ _ _ (by omega) (by omega) q1, zi (by omega) (by omega) q2, hC _ _ _ _ _ _ (by omega) (by omega) q3, zi (by omega) (by omega) q4, q5, q6⟩
  · exact Or.inr (Or.inr (Or.inr (Or.inr (Or.inl ⟨g1, Or.inl ⟨g2, zi (by omega) (by omega) g3, g4⟩⟩))))
  · have hs : ∀ i, i < n' → f i ≤ f (i + 1) := fun i hi => by
      obtain ⟨q1, _, q3⟩ := g4 i hi
      have := hlt _ _ _ _ _ _ q1; omega
    have u := @z_up f n' hs
    have u0 := u (Nat.zero_le n') (Nat.le_refl n')
    have u3 := hlt _ _ _ _ _ _ g5
    refine Or.inr (Or.inr (Or.inr (Or.inr (Or.inl ⟨g1, Or.inr ⟨n', f, g, g2, g3, fun i hi => ?_, hC _ _ _ _ _ _ (by omega) (by omega) g5⟩⟩))))
    have u1 := u (Nat.zero_le i) (by omega)
    have u2 := u (i := i + 1) (j := n') (by omega) (Nat.le_refl n')
    obtain ⟨q1, q2, q3⟩ := g4 i hi
    have w1 := hlt _ _ _ _ _ _ q1
    exact ⟨hC _ _ _ _ _ _ (by omega) (by omega) q1, zi (by omega) (by omega) q2, q3⟩
  · have u := @z_up f n (fun i hi => by have := hlt _ _ _ _ _ _ (g4 i hi); omega)
    have u0 := u (Nat.zero_le n) (Nat.le_refl n)
    have hh : f n < hi := by rcases g5 with ⟨_, _, _, q⟩ | ⟨_, _, _, _, q⟩ | ⟨_, _, q⟩ <;> omega
    refine Or.inr (Or.inr (Or.inr (Or.inr (Or.inr ⟨g1, g2, f, g3, fun i hi => ?_, ?_⟩))))
    · have u1 := u (Nat.zero_le i) (by omega)
      have u2 := u (i := i + 1) (j := n) (by omega) (Nat.le_refl n)
      exact hC _ _ _ _ _ _ (by omega) (by omega) (g4 i hi)
    · rcases g5 with ⟨q1, q2, q3, q4⟩ | ⟨q1, q2, q3, q4, q5⟩ | ⟨q1, q2, q3⟩
      · exact Or.inl ⟨q1, zi (by omega) (by omega) q2, fun i hi => zi (by omega) (by omega) (q3 i hi), q4⟩
      · exact Or.inr (Or.inl ⟨q1, q2, q3, zi (by omega) (by omega) q4, q5⟩)
      · exact Or.inr (Or.inr ⟨q1, zi (by omega) (by omega) q2, q3⟩)
/-- code is code where the instructions are the same -/
theorem z_C_frame {A B : Nat → Int} {K K' : z_K} : ∀ (k : Nat) (E : List (Int × Int)) (x pl : Int) (tl : Bool) (lo hi : Nat), (∀ i, lo ≤ i → i < hi → K'.1 i = K.1 i ∧ K'.2.1 i = K.2.1 i ∧ K'.2.2 i = K.2.2 i) → z_C A B K k E x pl tl lo hi → z_C A B K' k E x pl tl lo hi
  | 0, _, _, _, _, _, _, hK, h => ⟨h.1, z_lf_frame hK h.2⟩
  | k + 1, _, _, _, _, _, _, hK, h => by
    rcases h with h | h
    · exact Or.inl ⟨h.1, z_lf_frame hK h.2⟩
    · exact Or.inr (z_nd_frame (z_C_lt k) hK (fun E y p t a b ha hb q => z_C_frame k E y p t a b (fun i h1 h2 => hK i (by omega) (by omega)) q) h)
theorem z_C_up {A B : Nat → Int} {K : z_K} : ∀ (k : Nat) (E : List (Int × Int)) (x pl : Int) (tl : Bool) (lo hi : Nat), z_C A B K k E x pl tl lo hi → z_C A B K (k + 1) E x pl tl lo hi
  | 0, _, _, _, _, _, _, h => Or.inl h
  | k + 1, _, _, _, _, _, _, h => by
    rcases h with h | h
    · exact Or.inl h
    · exact Or.inr (z_nd_frame (z_C_lt k) (fun _ _ _ => ⟨rfl, rfl, rfl⟩) (fun E y p t a b _ _ q => z_C_up k E y p t a b q) h)
theorem z_C_mono {A B : Nat → Int} {K : z_K} {k k' : Nat} (hk : k ≤ k') {E : List (Int × Int)} {x pl : Int} {tl : Bool} {lo hi : Nat} (h : z_C A B K k E x pl tl lo hi) : z_C A B K k' E x pl tl lo hi := by
  induction hk with
  | refl => exact h
  | step _ ih => exact z_C_up _ _ _ _ _ _ _ ih
theorem z_D_els {A B A' B' : Nat → Int} {w : Int} {b : Nat} (hw : w ≤ 536870912) (hf : ∀ i, i < b → i < 400 → A' i = A i ∧ B' i = B i) : ∀ (n : Nat) {k s : Nat} {x : Int}, z_D A B w 0 b k s x → z_len B x n → (∀ i, i ≤ n → z_nth B' x i = z_nth B x i) ∧ ∀ i, i < n → z_el A' B' x i = z_el A B x i ∧ ∃ k' s', k = k' + 1 ∧ s' ≤ s ∧ z_D A B w 0 b k' s' (z_el A B x i)
  | 0, k, s, x, h, hl => ⟨fun i hi => by rw [Nat.le_zero.mp hi]; rfl, fun i hi => absurd hi (Nat.not_lt_zero i)⟩
  | n + 1, k, s, x, h, hl => by
    obtain ⟨hx, hl2⟩ := z_len_t hl
    obtain ⟨k', p, s1, s2, h1, h2, h3, h4, h5, h6, h7⟩ := z_D_p hw h hx.1
    obtain ⟨e1, e2⟩ := hf p h3 h4
    have eA : z_cd A' x = z_cd A x := by rw [h2, z_cd_p (by omega), z_cd_p (by omega), e1]
    have eB : z_cd B' x = z_cd B x := by rw [h2, z_cd_p (by omega), z_cd_p (by omega), e2]
    obtain ⟨g1, g2⟩ := z_D_els hw hf n h7 hl2
    refine ⟨fun i hi => ?_, fun i hi => ?_⟩
    · cases i with
      | zero => rfl
      | succ i => rw [← z_nth_s, ← z_nth_s, eB]; exact g1 i (by omega)
    · cases i with
      | zero => exact ⟨eA, k', s1, h1, by omega, z_D_mono (Int.le_refl _) (Nat.le_refl _) (by omega) (Nat.le_refl _) h6⟩
      | succ i =>
        obtain ⟨q1, k2, s', q2, q3, q4⟩ := g2 i (by omega)
        unfold z_el at *
        rw [← z_nth_s, ← z_nth_s, eB]
        exact ⟨q1, k2, s', q2, by omega, q4⟩
theorem z_D_isl {A B A' B' : Nat → Int} {w : Int} {b : Nat} (hw : w ≤ 536870912) (hf : ∀ i, i < b → i < 400 → A' i = A i ∧ B' i = B i) {n k s : Nat} {x : Int} (h : z_D A B w 0 b k s x) (hl : z_isl B x n) : z_isl B' x n := by
  have g := (z_D_els hw hf n h hl.1).1
  exact ⟨⟨fun i hi => by rw [g i (by omega)]; exact hl.1.1 i hi, by rw [g n (Nat.le_refl _)]; exact hl.1.2⟩, by rw [g n (Nat.le_refl _)]; exact hl.2⟩
theorem z_fs_eq {C C' : z_CT} {E : List (Int × Int)} {e e' : Nat → Int} {pl : Int} {n : Nat} {f : Nat → Nat} (h : ∀ i, i < n → e' i = e i ∧ (C E (e i) (pl + (i : Int)) false (f i) (f (i + 1)) → C' E (e i) (pl + (i : Int)) false (f i) (f (i + 1)))) (g : z_fs C E e pl n f) : z_fs C' E e' pl n f := fun i hi => by
  rw [(h i hi).1]
  exact (h i hi).2 (g i hi)
/-- code is code where the store is the same -/
theorem z_C_store {A B A' B' : Nat → Int} {w : Int} {b : Nat} (hw : w ≤ 536870912) (hf : ∀ i, i < b → i < 400 → A' i = A i ∧ B' i = B i) {K : z_K} : ∀ (k : Nat) {k2 s : Nat} (E : List (Int × Int)) (x pl : Int) (tl : Bool) (lo hi : Nat), k2 ≤ 12 → z_D A B w 0 b k2 s x → z_C A B K k E x pl tl lo hi → z_C A' B' K k E x pl tl lo hi
  | 0, _, _, _, _, _, _, _, _, _, _, h => h
  | k + 1, k2, s, E, x, pl, tl, lo, hi, hk2, hD, h => by
    rcases h with h | h
    · exact Or.inl h
    have ih := @z_C_store A B A' B' w b hw hf K k
    obtain ⟨n, hd, h1, h2, h3, h4, h5, h6, h⟩ := h
    obtain ⟨_, ge⟩ := z_D_els hw hf (n + 1) hD h2.1
    have hE : ∀ i, i < n + 1 → z_el A' B' x i = z_el A B x i := fun i hi => (ge i hi).1
    have hX : ∀ i, i < n + 1 → ∃ k' s', z_D A B w 0 b k' s' (z_el A B x i) ∧ k' ≤ 12 := fun i hi => by
      obtain ⟨_, k', s', e, _, q⟩ := ge i hi
      exact ⟨k', s', q, by omega⟩
    refine Or.inr ⟨n, hd, h1, z_D_isl hw hf hD h2, by rw [hE 0 (by omega)]; exact h3, h4, h5, h6, ?_⟩
    have hS : ∀ (i : Nat) (E : List (Int × Int)) (pl : Int) (tl : Bool) (lo hi : Nat), i < n + 1 → z_C A B K k E (z_el A B x i) pl tl lo hi → z_C A' B' K k E (z_el A B x i) pl tl lo hi := fun i E pl tl lo hi hin q => by
      obtain ⟨k', s', d, z⟩ := hX i hin
      exact ih E _ pl tl lo hi z d q
    rcases h with ⟨g1, g2, g3, g4, gd⟩ | ⟨g1, g2, a, b, g3, g4, g5, g6, g7⟩ | ⟨g1, g2, m, f, c, g3, g4, g5, g6, g7, g8, g9⟩ | ⟨g1, f, g2, g3, g4, g5⟩ | ⟨g1, ⟨g2, g3, g4⟩ | ⟨n', f, g, g2, g3, g4, g5⟩⟩ | ⟨g1, g2, f, g3, g4, g5⟩
    · obtain ⟨k3, s3, d3, z3⟩ := hX 1 (by omega)
      exact Or.inl ⟨g1, g2, by rw [hE 1 (by omega)]; exact g3, g4, b, s3, by rw [hE 1 (by omega)]; exact z_D_mono hw (Nat.le_refl _) (Nat.le_refl _) z3 (z_D_frame (fun i _ h1 h2 => hf i h1 h2) d3)⟩
    · refine Or.inr (Or.inl ⟨g1, g2, a, b, ?_, g4, ?_, g6, ?_⟩)
      · rw [hE 1 (by omega)]; exact hS _ _ _ _ _ _ (by omega) g3
      · rw [hE 2 (by omega)]; exact hS _ _ _ _ _ _ (by omega) g5
      · rw [hE 3 (by omega)]; exact hS _ _ _ _ _ _ (by omega) g7
    · obtain ⟨k3, s3, d3, z3⟩ := hX 1 (by omega)
      obtain ⟨_, ge3⟩ := z_D_els hw hf m d3 g3.1
      have q3 : ∀ i, i < m → z_el A' B' (z_el A B x 1) i = z_el A B (z_el A B x 1) i := fun i hi => (ge3 i hi).1
      have q4 : ∀ i, i < m → z_isl B' (z_el A B (z_el A B x 1) i) 2 ∧ (∀ j, j < 2 → z_el A' B' (z_el A B (z_el A B x 1) i) j = z_el A B (z_el A B (z_el A B x 1) i) j) ∧ ∃ k' s', z_D A B w 0 b k' s' (z_el A B (z_el A B (z_el A B x 1) i) 1) ∧ k' ≤ 12 := fun i hi => by
        obtain ⟨_, k4, s4, e4, _, d4⟩ := ge3 i hi
        obtain ⟨_, ge4⟩ := z_D_els hw hf 2 d4 (g4 i hi).1
        obtain ⟨_, k5, s5, e5, _, d5⟩ := ge4 1 (by omega)
        exact ⟨z_D_isl hw hf d4 (g4 i hi), fun j hj => (ge4 j hj).1, k5, s5, d5, by omega⟩
      refine Or.inr (Or.inr (Or.inl ⟨g1, g2, m, f, c, ?_⟩))
      rw [hE 1 (by omega), hE 2 (by omega)]
      refine ⟨z_D_isl hw hf d3 g3, fun i hi => by rw [q3 i hi]; exact (q4 i hi).1, g5, z_fs_eq (fun i hi => ?_) g6, ?_, g8, g9⟩
      · obtain ⟨_, j2, k5, s5, d5, z5⟩ := q4 i hi
        refine ⟨by rw [q3 i hi, j2 1 (by omega)], fun q => ih _ _ _ _ _ _ z5 d5 q⟩
      · rw [z_bd_eq (fun i hi => by rw [q3 i hi, (q4 i hi).2.1 0 (by omega)])]
        exact hS _ _ _ _ _ _ (by omega) g7
    · refine Or.inr (Or.inr (Or.inr (Or.inl ⟨g1, f, g2, fun i hi => ?_, g4, g5⟩)))
      rw [hE (i + 1) (by omega)]
      obtain ⟨k3, s3, d3, z3⟩ := hX (i + 1) (by omega)
      obtain ⟨q0, g, h, q1, q2, q3, q4, q5, q6⟩ := g3 i hi
      obtain ⟨_, ge4⟩ := z_D_els hw hf 2 d3 q0.1
      obtain ⟨e0, k5, s5, z5, _, d5⟩ := ge4 0 (by omega)
      obtain ⟨e1, k6, s6, z6, _, d6⟩ := ge4 1 (by omega)
      exact ⟨z_D_isl hw hf d3 q0, g, h, by rw [e0]; exact ih _ _ _ _ _ _ (by omega) d5 q1, q2, by rw [e1]; exact ih _ _ _ _ _ _ (by omega) d6 q3, q4, q5, q6⟩
    · exact Or.inr (Or.inr (Or.inr (Or.inr (Or.inl ⟨g1, Or.inl ⟨g2, g3, g4⟩⟩))))
    · refine Or.inr (Or.inr (Or.inr (Or.inr (Or.inl ⟨g1, Or.inr ⟨n', f, g, g2, g3, fun i hi => ?_, ?_⟩⟩))))
      · obtain ⟨q1, q2, q3⟩ := g4 i hi
        exact ⟨by rw [hE (i + 1) (by omega)]; exact hS _ _ _ _ _ _ (by omega) q1, q2, q3⟩
      · rw [hE (n' + 1) (by omega)]; exact hS _ _ _ _ _ _ (by omega) g5
    · refine Or.inr (Or.inr (Or.inr (Or.inr (Or.inr ⟨g1, g2, f, g3, z_fs_eq (fun i hi => ?_) g4, g5⟩))))
      exact ⟨hE (i + 1) (by omega), fun q => hS _ _ _ _ _ _ (by omega) q⟩
/-- names in rows V with places P, from bg to v, the latest first; places count from base -/
def z_ev (V P : Nat → Int) (base bg : Nat) : List (Int × Int) → Nat → Prop
  | [], v => v = bg
  | (a, p) :: E, v => ∃ v', v = v' + 1 ∧ V v' = a ∧ P v' = (base : Int) + p ∧ z_ev V P base bg E v'
theorem z_ev_frame {V P V' P' : Nat → Int} {base bg : Nat} : ∀ {E : List (Int × Int)} {v : Nat}, (∀ i, i < v → V' i = V i ∧ P' i = P i) → z_ev V P base bg E v → z_ev V' P' base bg E v
  | [], _, _, h => h
  | (a, p) :: E, v, hf, h => by
    obtain ⟨v', h1, h2, h3, h4⟩ := h
    obtain ⟨e1, e2⟩ := hf v' (by omega)
    exact ⟨v', h1, by rw [e1, h2], by rw [e2, h3], z_ev_frame (fun i hi => hf i (by omega)) h4⟩
theorem z_ev_len {V P : Nat → Int} {base bg : Nat} : ∀ {E : List (Int × Int)} {v : Nat}, z_ev V P base bg E v → v = bg + E.length
  | [], _, h => h
  | (a, p) :: E, v, h => by
    obtain ⟨v', h1, h2, h3, h4⟩ := h
    have := z_ev_len h4
    show v = bg + (E.length + 1)
    omega
theorem z_ev_drop {V P : Nat → Int} {base bg : Nat} : ∀ {i : Nat} {E : List (Int × Int)} {v : Nat}, i ≤ E.length → z_ev V P base bg E v → z_ev V P base bg (E.drop i) (v - i)
  | 0, _, _, _, h => h
  | i + 1, [], _, hi, _ => absurd hi (by simp)
  | i + 1, (a, p) :: E, v, hi, h => by
    obtain ⟨v', h1, h2, h3, h4⟩ := h
    have := z_ev_drop (i := i) (by simpa using hi) h4
    rw [show v - (i + 1) = v' - i by omega]
    exact this
/-- one name more -/
theorem z_ev_add {V P V' P' : Nat → Int} {base bg v : Nat} {E : List (Int × Int)} {a p : Int} (hf : ∀ i, i < v → V' i = V i ∧ P' i = P i) (h1 : V' v = a) (h2 : P' v = (base : Int) + p) (h : z_ev V P base bg E v) : z_ev V' P' base bg ((a, p) :: E) (v + 1) := ⟨v, rfl, h1, h2, z_ev_frame hf h⟩
/-- looking a name up from the latest on: there, or nowhere -/
theorem z_ev_lu {V P : Nat → Int} {base bg : Nat} (x : Int) : ∀ {E : List (Int × Int)} {v : Nat}, z_ev V P base bg E v → (∃ i p, z_lu E x = some p ∧ bg ≤ i ∧ i < v ∧ V i = x ∧ P i = (base : Int) + p ∧ ∀ j, i < j → j < v → ¬ V j = x) ∨ (z_lu E x = none ∧ ∀ j, bg ≤ j → j < v → ¬ V j = x)
  | [], v, h => Or.inr ⟨rfl, fun j h1 h2 => by have h' : v = bg := h; omega⟩
  | (a, p) :: E, v, h => by
    obtain ⟨v', h1, h2, h3, h4⟩ := h
    have hl := z_ev_len h4
    by_cases c : a = x
    · exact Or.inl ⟨v', p, if_pos c, by omega, by omega, by rw [h2, c], h3, fun j j1 j2 => by omega⟩
    · have hz : z_lu ((a, p) :: E) x = z_lu E x := if_neg c
      rw [hz]
      rcases z_ev_lu x h4 with ⟨i, r, g1, g2, g3, g4, g5, g6⟩ | ⟨g1, g2⟩
      · refine Or.inl ⟨i, r, g1, g2, by omega, g4, g5, fun j j1 j2 => ?_⟩
        by_cases e : j = v'
        · rw [e, h2]; exact c
        · exact g6 j j1 (by omega)
      · refine Or.inr ⟨g1, fun j j1 j2 => ?_⟩
        by_cases e : j = v'
        · rw [e, h2]; exact c
        · exact g2 j j1 (by omega)
theorem z_lu_mem {E : List (Int × Int)} {x p : Int} (h : z_lu E x = some p) : (x, p) ∈ E := by
  induction E with
  | nil => cases h
  | cons e E ih =>
    obtain ⟨a, r⟩ := e
    unfold z_lu at h
    by_cases c : a = x
    · rw [if_pos c] at h
      cases h
      rw [c]
      exact List.mem_cons_self
    · rw [if_neg c] at h
      exact List.mem_cons_of_mem _ (ih h)
theorem z_bd_drop (nm : Nat → Int) (pl : Int) (E : List (Int × Int)) : ∀ m, (z_bd nm pl m E).drop m = E
  | 0 => rfl
  | m + 1 => z_bd_drop nm pl E m
theorem z_bd_mem {nm : Nat → Int} {pl : Int} {E : List (Int × Int)} {a p : Int} : ∀ {m : Nat}, (a, p) ∈ z_bd nm pl m E → (a, p) ∈ E ∨ ∃ i : Nat, i < m ∧ a = nm i ∧ p = pl + (i : Int)
  | 0, h => Or.inl h
  | m + 1, h => by
    rcases List.mem_cons.mp h with e | e
    · cases e
      exact Or.inr ⟨m, by omega, rfl, rfl⟩
    · rcases z_bd_mem e with g | ⟨i, g1, g2, g3⟩
      · exact Or.inl g
      · exact Or.inr ⟨i, by omega, g2, g3⟩
