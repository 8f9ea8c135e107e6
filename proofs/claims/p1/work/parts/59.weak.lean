/-! more may be known of the variables than a walk needs -/
def mj_lev (ls ls' : List (Option mj_V)) : Prop := ls'.length = ls.length ∧ (∀ (i : Nat) (v : mj_V), ls[i]? = some (some v) → ls'[i]? = some (some v)) ∧ ∀ (i : Nat) (x : Int), ls'[i]? = some (some (.inr (.inr x))) → ls[i]? = some (some (.inr (.inr x)))
theorem mj_lev_rf (ls : List (Option mj_V)) : mj_lev ls ls := ⟨rfl, fun _ _ h => h, fun _ _ h => h⟩
theorem mj_lev_nl {ls ls' : List (Option mj_V)} (h : mj_lev ls ls') {i : Nat} (hn : mj_nl ls i) : mj_nl ls' i := by
  cases i with
  | zero => trivial
  | succ j =>
    unfold mj_nl
    dsimp only
    cases hc : ls'[j]? with
    | none => trivial
    | some o =>
      rcases o with _ | x | q | x
      · trivial
      · trivial
      · trivial
      · exact (mj_nl_use hn rfl (h.2.2 j x hc)).elim
theorem mj_lev_set {ls ls' : List (Option mj_V)} (h : mj_lev ls ls') (i : Nat) (v : mj_V) : mj_lev (ls.set i (some v)) (ls'.set i (some v)) := by
  refine ⟨by rw [List.length_set, List.length_set]; exact h.1, fun j w hj => ?_, fun j x hj => ?_⟩
  · rw [List.getElem?_set] at hj ⊢
    by_cases hij : i = j
    · rw [if_pos hij] at hj ⊢
      rw [h.1]; exact hj
    · rw [if_neg hij] at hj ⊢
      exact h.2.1 j w hj
  · rw [List.getElem?_set] at hj ⊢
    by_cases hij : i = j
    · rw [if_pos hij] at hj ⊢
      rw [h.1] at hj; exact hj
    · rw [if_neg hij] at hj ⊢
      exact h.2.2 j x hj
theorem mj_lev_none {ls ls' : List (Option mj_V)} (h : mj_lev ls ls') (i : Nat) : mj_lev (ls.set i none) (ls'.set i none) := by
  refine ⟨by rw [List.length_set, List.length_set]; exact h.1, fun j w hj => ?_, fun j x hj => ?_⟩
  · rw [List.getElem?_set] at hj ⊢
    by_cases hij : i = j
    · rw [if_pos hij] at hj ⊢
      rw [h.1]; exact hj
    · rw [if_neg hij] at hj ⊢
      exact h.2.1 j w hj
  · rw [List.getElem?_set] at hj ⊢
    by_cases hij : i = j
    · rw [if_pos hij] at hj ⊢
      rw [h.1] at hj; exact hj
    · rw [if_neg hij] at hj ⊢
      exact h.2.2 j x hj
theorem mj_monoL {L : List mj_C} {C : Nat → List mj_V → mj_S → mj_Q → Prop} {ret : Option FieldType} {Q : mj_Q} {K K' : Nat → List (Option mj_V) → List mj_V → mj_S → Prop} {o : mj_O} {pc : Nat} {ls ls' : List (Option mj_V)} {st : List mj_V} {σ : mj_S}
    (hC : ∀ k as σ (P P' : mj_Q), (∀ r σ', P r σ' → P' r σ') → C k as σ P → C k as σ P') (hle : mj_lev ls ls') (hK : ∀ a l1 l2 c d, mj_lev l1 l2 → K a l1 c d → K' a l2 c d) (h : mj_step L C ret Q K o pc ls st σ) : mj_step L C ret Q K' o pc ls' st σ := by
  obtain ⟨k, a, b, t⟩ := o
  match k, h with
  | 0, ⟨h1, h2⟩ => exact ⟨h1, hK _ _ _ _ _ hle h2⟩
  | 1, ⟨x, h1, h2⟩ => exact ⟨x, hle.2.1 _ _ h1, hK _ _ _ _ _ hle h2⟩
  | 2, ⟨x, h1, h2⟩ => exact ⟨x, hle.2.1 _ _ h1, hK _ _ _ _ _ hle h2⟩
  | 3, ⟨x, h1, h2⟩ => exact ⟨x, hle.2.1 _ _ h1, hK _ _ _ _ _ hle h2⟩
  | 4, ⟨x, s1, h1, h2, h3, h4⟩ => exact ⟨x, s1, h1, mj_lev_nl hle h2, by rw [hle.1]; exact h3, hK _ _ _ _ _ (mj_lev_set hle _ _) h4⟩
  | 5, ⟨x, s1, h1, h2, h3, h4⟩ => exact ⟨x, s1, h1, mj_lev_nl hle h2, by rw [hle.1]; exact h3, hK _ _ _ _ _ (mj_lev_set hle _ _) h4⟩
  | 6, ⟨x, s1, h1, h2, h3, h4⟩ => exact ⟨x, s1, h1, mj_lev_nl hle h2, by rw [hle.1]; exact h3, hK _ _ _ _ _ (mj_lev_set (mj_lev_none hle _) _ _) h4⟩
  | 7, ⟨x, h1, h2, h3, h4⟩ => exact ⟨x, hle.2.1 _ _ h1, mj_lev_nl hle h2, h3, hK _ _ _ _ _ (mj_lev_set hle _ _) h4⟩
  | 8, ⟨x, y, s1, h1, h2, h3⟩ => exact ⟨x, y, s1, h1, h2, hK _ _ _ _ _ hle h3⟩
  | 9, ⟨x, y, s1, h1, h2, h3⟩ => exact ⟨x, y, s1, h1, h2, hK _ _ _ _ _ hle h3⟩
  | 10, ⟨x, y, s1, h1, h2, h3⟩ => exact ⟨x, y, s1, h1, h2, hK _ _ _ _ _ hle h3⟩
  | 11, ⟨x, y, s1, h1, h2, h3, h4⟩ => exact ⟨x, y, s1, h1, h2, h3, hK _ _ _ _ _ hle h4⟩
  | 12, ⟨x, y, s1, h1, h2, h3, h4⟩ => exact ⟨x, y, s1, h1, h2, h3, hK _ _ _ _ _ hle h4⟩
  | 13, ⟨x, s1, h1, h2, h3⟩ => exact ⟨x, s1, h1, h2, hK _ _ _ _ _ hle h3⟩
  | 14, h => exact h.elim
  | 15, h => exact h.elim
  | 16, h => exact hK _ _ _ _ _ hle h
  | 17, ⟨q, sl, s1, h1, h2, h3⟩ => exact ⟨q, sl, s1, h1, h2, h3.elim (fun z => Or.inl ⟨z.1, hK _ _ _ _ _ hle z.2⟩) (fun ⟨q2, z1, z2⟩ => Or.inr ⟨q2, z1, hK _ _ _ _ _ hle z2⟩)⟩
  | 18, ⟨x, q, sl, s1, h1, h2, h3, h4⟩ => exact ⟨x, q, sl, s1, h1, h2, h3, hK _ _ _ _ _ hle h4⟩
  | 19, ⟨i, q, n, s1, h1, h2, h3, h4, h5⟩ => exact ⟨i, q, n, s1, h1, h2, h3, h4, hK _ _ _ _ _ hle h5⟩
  | 20, ⟨i, q, n, s1, h1, h2, h3, h4, h5⟩ => exact ⟨i, q, n, s1, h1, h2, h3, h4, hK _ _ _ _ _ hle h5⟩
  | 21, ⟨i, q, n, s1, h1, h2, h3, h4, h5⟩ => exact ⟨i, q, n, s1, h1, h2, h3, h4, hK _ _ _ _ _ hle h5⟩
  | 22, ⟨x, i, q, n, s1, h1, h2, h3, h4, h5⟩ => exact ⟨x, i, q, n, s1, h1, h2, h3, h4, hK _ _ _ _ _ hle h5⟩
  | 23, ⟨x, i, q, n, s1, h1, h2, h3, h4, h5, h6⟩ => exact ⟨x, i, q, n, s1, h1, h2, h3, h4, h5, hK _ _ _ _ _ hle h6⟩
  | 24, ⟨x, i, q, n, s1, h1, h2, h3, h4, h5, h6⟩ => exact ⟨x, i, q, n, s1, h1, h2, h3, h4, h5, hK _ _ _ _ _ hle h6⟩
  | 25, ⟨q, ty, n, s1, h1, h2, h3, h4, h5⟩ => exact ⟨q, ty, n, s1, h1, h2, h3, h4, hK _ _ _ _ _ hle h5⟩
  | 26, ⟨as, s1, h1, h2, h3, h4, h5⟩ => exact ⟨as, s1, h1, h2, h3, h4, hC _ _ _ _ _ (fun r σ2 z => hK _ _ _ _ _ hle z) h5⟩
  | 27, ⟨x, ty, h1, h2, h3, h4⟩ => exact ⟨x, ty, h1, h2, h3, h4⟩
  | 28, ⟨h1, h2, h3⟩ => exact ⟨h1, h2, h3⟩
  | 29, ⟨v, s1, h1, h2, h3⟩ => exact ⟨v, s1, h1, h2, hK _ _ _ _ _ hle h3⟩
  | 30, ⟨v, w, s1, h1, h2, h3, h4⟩ => exact ⟨v, w, s1, h1, h2, h3, hK _ _ _ _ _ hle h4⟩
  | 31, ⟨v, w, s1, h1, h2, h3, h4⟩ => exact ⟨v, w, s1, h1, h2, h3, hK _ _ _ _ _ hle h4⟩
  | 32, ⟨v, s1, h1, h2, h3⟩ => exact ⟨v, s1, h1, h2, hK _ _ _ _ _ hle h3⟩
  | 33, ⟨x, s1, h1, h2⟩ => exact ⟨x, s1, h1, hK _ _ _ _ _ hle h2⟩
  | 34, ⟨x, s1, h1, h2⟩ => exact ⟨x, s1, h1, hK _ _ _ _ _ hle h2⟩
  | 35, ⟨x, s1, h1, h2⟩ => exact ⟨x, s1, h1, hK _ _ _ _ _ hle h2⟩
  | 36, ⟨x, s1, h1, h2⟩ => exact ⟨x, s1, h1, hK _ _ _ _ _ hle h2⟩
  | 37, ⟨x, s1, h1, h2, h3⟩ => exact ⟨x, s1, h1, h2, hK _ _ _ _ _ hle h3⟩
  | 38, ⟨x, y, s1, h1, h2, h3⟩ => exact ⟨x, y, s1, h1, h2, hK _ _ _ _ _ hle h3⟩
  | 39, ⟨x, y, s1, h1, h2, h3⟩ => exact ⟨x, y, s1, h1, h2, hK _ _ _ _ _ hle h3⟩
  | 40, ⟨x, y, s1, h1, h2, h3⟩ => exact ⟨x, y, s1, h1, h2, hK _ _ _ _ _ hle h3⟩
  | 41, ⟨x, y, s1, h1, h2⟩ => exact ⟨x, y, s1, h1, hK _ _ _ _ _ hle h2⟩
  | 42, ⟨h1, h2⟩ => exact ⟨h1, hK _ _ _ _ _ hle h2⟩
  | 43, h => exact h.elim
  | 44, ⟨x, y, s1, h1, h2, h3⟩ => exact ⟨x, y, s1, h1, h2, hK _ _ _ _ _ hle h3⟩
  | 45, ⟨x, y, s1, h1, h2, h3⟩ => exact ⟨x, y, s1, h1, h2, hK _ _ _ _ _ hle h3⟩
  | 46, ⟨n, dp, q1, sp, q0, n1, n0, ty, s1, h1, h2, h3, h4, h5, h6, h7, h8, h9, g1, g2, g3⟩ => exact ⟨n, dp, q1, sp, q0, n1, n0, ty, s1, h1, h2, h3, h4, h5, h6, h7, h8, h9, g1, g2, hK _ _ _ _ _ hle g3⟩
  | 47, h => exact h.elim
  | 48, h => exact h.elim
  | 49, h => exact h.elim
  | 50, ⟨x, s1, h1, h2, h3⟩ => exact ⟨x, s1, h1, fun z => hK _ _ _ _ _ hle (h2 z), fun z => hK _ _ _ _ _ hle (h3 z)⟩
  | 51, ⟨x, s1, h1, h2, h3⟩ => exact ⟨x, s1, h1, fun z => hK _ _ _ _ _ hle (h2 z), fun z => hK _ _ _ _ _ hle (h3 z)⟩
  | 52, ⟨x, s1, h1, h2, h3⟩ => exact ⟨x, s1, h1, fun z => hK _ _ _ _ _ hle (h2 z), fun z => hK _ _ _ _ _ hle (h3 z)⟩
  | 53, ⟨x, s1, h1, h2, h3⟩ => exact ⟨x, s1, h1, fun z => hK _ _ _ _ _ hle (h2 z), fun z => hK _ _ _ _ _ hle (h3 z)⟩
  | 54, ⟨x, s1, h1, h2, h3⟩ => exact ⟨x, s1, h1, fun z => hK _ _ _ _ _ hle (h2 z), fun z => hK _ _ _ _ _ hle (h3 z)⟩
  | 55, ⟨x, s1, h1, h2, h3⟩ => exact ⟨x, s1, h1, fun z => hK _ _ _ _ _ hle (h2 z), fun z => hK _ _ _ _ _ hle (h3 z)⟩
  | 56, h => exact h.elim
  | 57, h => exact h.elim
  | 58, h => exact h.elim
  | 59, h => exact h.elim
  | 60, ⟨x, y, s1, h1, h2, h3⟩ => exact ⟨x, y, s1, h1, fun z => hK _ _ _ _ _ hle (h2 z), fun z => hK _ _ _ _ _ hle (h3 z)⟩
  | 61, ⟨x, y, s1, h1, h2, h3⟩ => exact ⟨x, y, s1, h1, fun z => hK _ _ _ _ _ hle (h2 z), fun z => hK _ _ _ _ _ hle (h3 z)⟩
  | 62, ⟨x, y, s1, h1, h2, h3⟩ => exact ⟨x, y, s1, h1, fun z => hK _ _ _ _ _ hle (h2 z), fun z => hK _ _ _ _ _ hle (h3 z)⟩
  | 63, ⟨x, y, s1, h1, h2, h3⟩ => exact ⟨x, y, s1, h1, fun z => hK _ _ _ _ _ hle (h2 z), fun z => hK _ _ _ _ _ hle (h3 z)⟩
  | 64, ⟨x, y, s1, h1, h2, h3⟩ => exact ⟨x, y, s1, h1, fun z => hK _ _ _ _ _ hle (h2 z), fun z => hK _ _ _ _ _ hle (h3 z)⟩
  | 65, ⟨x, y, s1, h1, h2, h3⟩ => exact ⟨x, y, s1, h1, fun z => hK _ _ _ _ _ hle (h2 z), fun z => hK _ _ _ _ _ hle (h3 z)⟩
  | _ + 66, h => exact h.elim
theorem mj_W_ls {L : List mj_C} {C : Nat → List mj_V → mj_S → mj_Q → Prop} {ops : List mj_O} {ret : Option FieldType} {Q : mj_Q} {pc : Nat} {ls ls' : List (Option mj_V)} {st : List mj_V} {σ : mj_S}
    (hC : ∀ k as σ (P P' : mj_Q), (∀ r σ', P r σ' → P' r σ') → C k as σ P → C k as σ P') (hle : mj_lev ls ls') (h : mj_W L C ops ret Q pc ls st σ) : mj_W L C ops ret Q pc ls' st σ := by
  refine h (fun pc ls st σ => ∀ ls', mj_lev ls ls' → mj_W L C ops ret Q pc ls' st σ) (fun pc ls st σ hh ls' hle => ?_) ls' hle
  obtain ⟨o, ho, hs⟩ := hh
  exact mj_W_go hC ho (mj_monoL hC hle (fun a l1 l2 c d hl hk => hk l2 hl) hs)
/-- for lists that are written out: a check -/
def mj_levb : List (Option mj_V) → List (Option mj_V) → Prop
  | [], [] => True
  | none :: r, none :: r' => mj_levb r r'
  | none :: r, some (.inl _) :: r' => mj_levb r r'
  | none :: r, some (.inr (.inl _)) :: r' => mj_levb r r'
  | some v :: r, some v' :: r' => v = v' ∧ mj_levb r r'
  | _, _ => False
theorem mj_lev_cons {o o' : Option mj_V} {l l' : List (Option mj_V)} (h1 : ∀ v, o = some v → o' = some v) (h2 : ∀ x, o' = some (.inr (.inr x)) → o = some (.inr (.inr x))) (h : mj_lev l l') : mj_lev (o :: l) (o' :: l') := by
  refine ⟨by rw [List.length_cons, List.length_cons, h.1], fun i v hi => ?_, fun i x hi => ?_⟩
  · cases i with
    | zero =>
      have e : o = some v := by simpa using hi
      simpa using h1 v e
    | succ j =>
      have e : l[j]? = some (some v) := by simpa using hi
      simpa using h.2.1 j v e
  · cases i with
    | zero =>
      have e : o' = some (.inr (.inr x)) := by simpa using hi
      simpa using h2 x e
    | succ j =>
      have e : l'[j]? = some (some (.inr (.inr x))) := by simpa using hi
      simpa using h.2.2 j x e
theorem mj_lev_of : ∀ (l l' : List (Option mj_V)), mj_levb l l' → mj_lev l l'
  | [], [], _ => mj_lev_rf []
  | none :: r, none :: r', h => mj_lev_cons (fun v e => by cases e) (fun x e => by cases e) (mj_lev_of r r' h)
  | none :: r, some (.inl _) :: r', h => mj_lev_cons (fun v e => by cases e) (fun x e => by cases e) (mj_lev_of r r' h)
  | none :: r, some (.inr (.inl _)) :: r', h => mj_lev_cons (fun v e => by cases e) (fun x e => by cases e) (mj_lev_of r r' h)
  | some v :: r, some v' :: r', h => mj_lev_cons (fun w e => by rw [← h.1]; exact e) (fun x e => by rw [h.1]; exact e) (mj_lev_of r r' h.2)
def mj_c1b : mj_V → Bool
  | .inr (.inr _) => false
  | _ => true
theorem mj_c1_all {as : List mj_V} (h : as.all mj_c1b = true) : ∀ v, v ∈ as → mj_c1 v := by
  intro v hv
  have h1 := List.all_eq_true.mp h v hv
  rcases v with x | q | x
  · trivial
  · trivial
  · cases h1
