/-! what a step of the small machine needs and does -/
abbrev mj_M : Type := MethodName × ByteArray × Nat × Option FieldType × List mj_O
abbrev mj_Q : Type := Option mj_V → mj_S → Prop
def mj_fit : FieldType → Int → Prop
  | .char, x => 0 ≤ x ∧ x ≤ 65535
  | .boolean, x => x = 0 ∨ x = 1
  | .int, _ => True
  | _, _ => False
def mj_pt (ty : FieldType) : Prop := ty = .int ∨ ty = .char ∨ ty = .boolean
def mj_sw (lo : Int) (t : List (Int × Nat)) (d : Nat) (x : Int) : Nat := if lo ≤ x ∧ x < lo + t.length then ((t[(x - lo).toNat]?).map Prod.snd).getD d else d
def mj_lk (d : Nat) (x : Int) : List (Int × Nat) → Nat
  | [] => d
  | (a, tg) :: r => if x = a then tg else mj_lk d x r
def mj_recv (L : List mj_C) (t : List (Int × Nat)) (as : List mj_V) : Prop := match t with
  | [] => True
  | (ci, _) :: _ => ∃ q sl as', as = .inr (.inl q) :: as' ∧ L[q]? = some (.inr (ci.toNat, sl))
def mj_step (L : List mj_C) (C : Nat → List mj_V → mj_S → mj_Q → Prop) (ret : Option FieldType) (Q : mj_Q) (K : Nat → List (Option mj_V) → List mj_V → mj_S → Prop) (o : mj_O) (pc : Nat) (ls : List (Option mj_V)) (st : List mj_V) (σ : mj_S) : Prop :=
  match o.1 with
  | 0 => mj_r o.2.1 ∧ K (pc + o.2.2.1) ls (.inl o.2.1 :: st) σ
  | 1 => ∃ x, ls[o.2.2.1]? = some (some (.inl x)) ∧ K (pc + o.2.1.toNat) ls (.inl x :: st) σ
  | 2 => ∃ q, ls[o.2.2.1]? = some (some (.inr (.inl q))) ∧ K (pc + o.2.1.toNat) ls (.inr (.inl q) :: st) σ
  | 3 => ∃ x, ls[o.2.2.1]? = some (some (.inr (.inr x))) ∧ K (pc + o.2.1.toNat) ls (.inr (.inr x) :: st) σ
  | 4 => ∃ x st', st = .inl x :: st' ∧ mj_nl ls o.2.2.1 ∧ o.2.2.1 < ls.length ∧ K (pc + o.2.1.toNat) (ls.set o.2.2.1 (some (.inl x))) st' σ
  | 5 => ∃ q st', st = .inr (.inl q) :: st' ∧ mj_nl ls o.2.2.1 ∧ o.2.2.1 < ls.length ∧ K (pc + o.2.1.toNat) (ls.set o.2.2.1 (some (.inr (.inl q)))) st' σ
  | 6 => ∃ x st', st = .inr (.inr x) :: st' ∧ mj_nl ls o.2.2.1 ∧ o.2.2.1 + 1 < ls.length ∧ K (pc + o.2.1.toNat) ((ls.set (o.2.2.1 + 1) none).set o.2.2.1 (some (.inr (.inr x)))) st' σ
  | 7 => ∃ x, ls[o.2.2.1]? = some (some (.inl x)) ∧ mj_nl ls o.2.2.1 ∧ mj_r (x + o.2.1) ∧ K (pc + 3) (ls.set o.2.2.1 (some (.inl (x + o.2.1)))) st σ
  | 8 => ∃ x y st', st = .inl y :: .inl x :: st' ∧ mj_r (x + y) ∧ K (pc + 1) ls (.inl (x + y) :: st') σ
  | 9 => ∃ x y st', st = .inl y :: .inl x :: st' ∧ mj_r (x - y) ∧ K (pc + 1) ls (.inl (x - y) :: st') σ
  | 10 => ∃ x y st', st = .inl y :: .inl x :: st' ∧ mj_r (x * y) ∧ K (pc + 1) ls (.inl (x * y) :: st') σ
  | 11 => ∃ x y st', st = .inl y :: .inl x :: st' ∧ 0 ≤ x ∧ 0 < y ∧ K (pc + 1) ls (.inl (x / y) :: st') σ
  | 12 => ∃ x y st', st = .inl y :: .inl x :: st' ∧ 0 ≤ x ∧ 0 < y ∧ K (pc + 1) ls (.inl (x % y) :: st') σ
  | 13 => ∃ x st', st = .inl x :: st' ∧ mj_r (-x) ∧ K (pc + 1) ls (.inl (-x) :: st') σ
  | 16 => K o.2.2.1 ls st σ
  | 17 => ∃ q sl st', st = .inr (.inl q) :: st' ∧ L[q]? = some (.inr (o.2.1.toNat, sl)) ∧ ((sl[o.2.2.1]? = some none ∧ K (pc + 3) ls (.inl (σ q o.2.2.1) :: st') σ) ∨ ∃ q', sl[o.2.2.1]? = some (some q') ∧ K (pc + 3) ls (.inr (.inl q') :: st') σ)
  | 18 => ∃ x q sl st', st = .inl x :: .inr (.inl q) :: st' ∧ L[q]? = some (.inr (o.2.1.toNat, sl)) ∧ sl[o.2.2.1]? = some none ∧ K (pc + 3) ls st' (mj_up σ q o.2.2.1 x)
  | 19 => ∃ i q n st', st = .inl i :: .inr (.inl q) :: st' ∧ L[q]? = some (.inl (.int, n)) ∧ 0 ≤ i ∧ i < (n : Int) ∧ K (pc + 1) ls (.inl (σ q i.toNat) :: st') σ
  | 20 => ∃ i q n st', st = .inl i :: .inr (.inl q) :: st' ∧ L[q]? = some (.inl (.char, n)) ∧ 0 ≤ i ∧ i < (n : Int) ∧ K (pc + 1) ls (.inl (σ q i.toNat) :: st') σ
  | 21 => ∃ i q n st', st = .inl i :: .inr (.inl q) :: st' ∧ L[q]? = some (.inl (.boolean, n)) ∧ 0 ≤ i ∧ i < (n : Int) ∧ K (pc + 1) ls (.inl (σ q i.toNat) :: st') σ
  | 22 => ∃ x i q n st', st = .inl x :: .inl i :: .inr (.inl q) :: st' ∧ L[q]? = some (.inl (.int, n)) ∧ 0 ≤ i ∧ i < (n : Int) ∧ K (pc + 1) ls st' (mj_up σ q i.toNat x)
  | 23 => ∃ x i q n st', st = .inl x :: .inl i :: .inr (.inl q) :: st' ∧ L[q]? = some (.inl (.char, n)) ∧ 0 ≤ i ∧ i < (n : Int) ∧ mj_fit .char x ∧ K (pc + 1) ls st' (mj_up σ q i.toNat x)
  | 24 => ∃ x i q n st', st = .inl x :: .inl i :: .inr (.inl q) :: st' ∧ L[q]? = some (.inl (.boolean, n)) ∧ 0 ≤ i ∧ i < (n : Int) ∧ mj_fit .boolean x ∧ K (pc + 1) ls st' (mj_up σ q i.toNat x)
  | 25 => ∃ q ty n st', st = .inr (.inl q) :: st' ∧ L[q]? = some (.inl (ty, n)) ∧ mj_pt ty ∧ mj_r n ∧ K (pc + 1) ls (.inl (n : Int) :: st') σ
  | 26 => ∃ as st', st = as.reverse ++ st' ∧ as.length = o.2.1.toNat ∧ mj_recv L o.2.2.2 as ∧ (st'.map mj_cat).sum ≤ 8 ∧ C o.2.2.1 as σ (fun r σ' => K (pc + 3) ls (r.toList ++ st') σ')
  | 27 => ∃ x ty, st = [.inl x] ∧ ret = some ty ∧ mj_fit ty x ∧ Q (some (.inl x)) σ
  | 28 => st = [] ∧ ret = none ∧ Q none σ
  | 29 => ∃ v st', st = v :: st' ∧ mj_c1 v ∧ K (pc + 1) ls (v :: v :: st') σ
  | 30 => ∃ v w st', st = v :: w :: st' ∧ mj_c1 v ∧ mj_c1 w ∧ K (pc + 1) ls (v :: w :: v :: st') σ
  | 31 => ∃ v w st', st = v :: w :: st' ∧ mj_c1 v ∧ mj_c1 w ∧ K (pc + 1) ls (v :: w :: v :: w :: st') σ
  | 32 => ∃ v st', st = v :: st' ∧ mj_c1 v ∧ K (pc + 1) ls st' σ
  | 33 => ∃ x st', st = .inl x :: st' ∧ K (mj_sw o.2.1 o.2.2.2 o.2.2.1 x) ls st' σ
  | 34 => ∃ x st', st = .inl x :: st' ∧ K (mj_lk o.2.2.1 x o.2.2.2) ls st' σ
  | 35 => ∃ x st', st = .inl x :: st' ∧ K (pc + 1) ls (.inl (x % 65536) :: st') σ
  | 36 => ∃ x st', st = .inl x :: st' ∧ K (pc + 1) ls (.inr (.inr x) :: st') σ
  | 37 => ∃ x st', st = .inr (.inr x) :: st' ∧ mj_r x ∧ K (pc + 1) ls (.inl x :: st') σ
  | 38 => ∃ x y st', st = .inr (.inr y) :: .inr (.inr x) :: st' ∧ mj_rl (x + y) ∧ K (pc + 1) ls (.inr (.inr (x + y)) :: st') σ
  | 39 => ∃ x y st', st = .inr (.inr y) :: .inr (.inr x) :: st' ∧ mj_rl (x - y) ∧ K (pc + 1) ls (.inr (.inr (x - y)) :: st') σ
  | 40 => ∃ x y st', st = .inr (.inr y) :: .inr (.inr x) :: st' ∧ mj_rl (x * y) ∧ K (pc + 1) ls (.inr (.inr (x * y)) :: st') σ
  | 41 => ∃ x y st', st = .inr (.inr y) :: .inr (.inr x) :: st' ∧ K (pc + 1) ls (.inl (if y < x then 1 else if x = y then 0 else -1) :: st') σ
  | 42 => mj_rl o.2.1 ∧ K (pc + o.2.2.1) ls (.inr (.inr o.2.1) :: st) σ
  | 44 => ∃ x y st', st = .inl y :: .inl x :: st' ∧ (st'.map mj_cat).sum ≤ 8 ∧ K (pc + 3) ls (.inl (if x < y then y else x) :: st') σ
  | 45 => ∃ x y st', st = .inl y :: .inl x :: st' ∧ (st'.map mj_cat).sum ≤ 8 ∧ K (pc + 3) ls (.inl (if y < x then y else x) :: st') σ
  | 46 => ∃ n dp q1 sp q0 n1 n0 ty st', st = .inl n :: .inl dp :: .inr (.inl q1) :: .inl sp :: .inr (.inl q0) :: st' ∧ L[q0]? = some (.inl (ty, n0)) ∧ L[q1]? = some (.inl (ty, n1)) ∧ mj_pt ty ∧ 0 ≤ n ∧ 0 ≤ dp ∧ 0 ≤ sp ∧ sp + n ≤ (n0 : Int) ∧ dp + n ≤ (n1 : Int) ∧ (∀ i : Nat, i < n.toNat → mj_fit ty (σ q0 (sp.toNat + i))) ∧ (st'.map mj_cat).sum ≤ 8 ∧ K (pc + 3) ls st' (mj_cp σ q1 q0 sp.toNat dp.toNat n.toNat)
  | 50 => ∃ x st', st = .inl x :: st' ∧ (x = 0 → K o.2.2.1 ls st' σ) ∧ (¬ x = 0 → K (pc + 3) ls st' σ)
  | 51 => ∃ x st', st = .inl x :: st' ∧ (¬ x = 0 → K o.2.2.1 ls st' σ) ∧ (x = 0 → K (pc + 3) ls st' σ)
  | 52 => ∃ x st', st = .inl x :: st' ∧ (x < 0 → K o.2.2.1 ls st' σ) ∧ (0 ≤ x → K (pc + 3) ls st' σ)
  | 53 => ∃ x st', st = .inl x :: st' ∧ (0 ≤ x → K o.2.2.1 ls st' σ) ∧ (x < 0 → K (pc + 3) ls st' σ)
  | 54 => ∃ x st', st = .inl x :: st' ∧ (0 < x → K o.2.2.1 ls st' σ) ∧ (x ≤ 0 → K (pc + 3) ls st' σ)
  | 55 => ∃ x st', st = .inl x :: st' ∧ (x ≤ 0 → K o.2.2.1 ls st' σ) ∧ (0 < x → K (pc + 3) ls st' σ)
  | 60 => ∃ x y st', st = .inl y :: .inl x :: st' ∧ (x = y → K o.2.2.1 ls st' σ) ∧ (¬ x = y → K (pc + 3) ls st' σ)
  | 61 => ∃ x y st', st = .inl y :: .inl x :: st' ∧ (¬ x = y → K o.2.2.1 ls st' σ) ∧ (x = y → K (pc + 3) ls st' σ)
  | 62 => ∃ x y st', st = .inl y :: .inl x :: st' ∧ (x < y → K o.2.2.1 ls st' σ) ∧ (y ≤ x → K (pc + 3) ls st' σ)
  | 63 => ∃ x y st', st = .inl y :: .inl x :: st' ∧ (y ≤ x → K o.2.2.1 ls st' σ) ∧ (x < y → K (pc + 3) ls st' σ)
  | 64 => ∃ x y st', st = .inl y :: .inl x :: st' ∧ (y < x → K o.2.2.1 ls st' σ) ∧ (x ≤ y → K (pc + 3) ls st' σ)
  | 65 => ∃ x y st', st = .inl y :: .inl x :: st' ∧ (x ≤ y → K o.2.2.1 ls st' σ) ∧ (y < x → K (pc + 3) ls st' σ)
  | _ => False
/-- the least thing that the steps allow: what holds at pc, that the code comes to an end with Q -/
def mj_W (L : List mj_C) (C : Nat → List mj_V → mj_S → mj_Q → Prop) (ops : List mj_O) (ret : Option FieldType) (Q : mj_Q) (pc : Nat) (ls : List (Option mj_V)) (st : List mj_V) (σ : mj_S) : Prop :=
  ∀ X : Nat → List (Option mj_V) → List mj_V → mj_S → Prop, (∀ pc ls st σ, (∃ o, ops[pc]? = some o ∧ mj_step L C ret Q X o pc ls st σ) → X pc ls st σ) → X pc ls st σ
/-- the arguments in the variables, the rest unset -/
def mj_in0 (as : List mj_V) (nL : Nat) : List (Option mj_V) := as.map some ++ List.replicate (nL - as.length) none
/-- a call, to the depth d -/
def mj_B (L : List mj_C) (Ms : List mj_M) : Nat → Nat → List mj_V → mj_S → mj_Q → Prop
  | 0, _, _, _, _ => False
  | d + 1, k, as, σ, Q => ∃ M, Ms[k]? = some M ∧ (∀ v, v ∈ as → mj_c1 v) ∧ as.length ≤ M.2.2.1 ∧ mj_W L (mj_B L Ms d) M.2.2.2.2 M.2.2.2.1 Q 0 (mj_in0 as M.2.2.1) [] σ
theorem mj_mono {L : List mj_C} {C C' : Nat → List mj_V → mj_S → mj_Q → Prop} {ret : Option FieldType} {Q Q' : mj_Q} {K K' : Nat → List (Option mj_V) → List mj_V → mj_S → Prop} {o : mj_O} {pc : Nat} {ls : List (Option mj_V)} {st : List mj_V} {σ : mj_S}
    (hC : ∀ k as σ (P P' : mj_Q), (∀ r σ', P r σ' → P' r σ') → C k as σ P → C' k as σ P') (hQ : ∀ r σ', Q r σ' → Q' r σ') (hK : ∀ a b c d, K a b c d → K' a b c d) (h : mj_step L C ret Q K o pc ls st σ) : mj_step L C' ret Q' K' o pc ls st σ := by
  obtain ⟨k, a, b, t⟩ := o
  match k, h with
  | 0, ⟨h1, h2⟩ => exact ⟨h1, hK _ _ _ _ h2⟩
  | 1, ⟨x, h1, h2⟩ => exact ⟨x, h1, hK _ _ _ _ h2⟩
  | 2, ⟨x, h1, h2⟩ => exact ⟨x, h1, hK _ _ _ _ h2⟩
  | 3, ⟨x, h1, h2⟩ => exact ⟨x, h1, hK _ _ _ _ h2⟩
  | 4, ⟨x, s1, h1, h2, h3, h4⟩ => exact ⟨x, s1, h1, h2, h3, hK _ _ _ _ h4⟩
  | 5, ⟨x, s1, h1, h2, h3, h4⟩ => exact ⟨x, s1, h1, h2, h3, hK _ _ _ _ h4⟩
  | 6, ⟨x, s1, h1, h2, h3, h4⟩ => exact ⟨x, s1, h1, h2, h3, hK _ _ _ _ h4⟩
  | 7, ⟨x, h1, h2, h3, h4⟩ => exact ⟨x, h1, h2, h3, hK _ _ _ _ h4⟩
  | 8, ⟨x, y, s1, h1, h2, h3⟩ => exact ⟨x, y, s1, h1, h2, hK _ _ _ _ h3⟩
  | 9, ⟨x, y, s1, h1, h2, h3⟩ => exact ⟨x, y, s1, h1, h2, hK _ _ _ _ h3⟩
  | 10, ⟨x, y, s1, h1, h2, h3⟩ => exact ⟨x, y, s1, h1, h2, hK _ _ _ _ h3⟩
  | 11, ⟨x, y, s1, h1, h2, h3, h4⟩ => exact ⟨x, y, s1, h1, h2, h3, hK _ _ _ _ h4⟩
  | 12, ⟨x, y, s1, h1, h2, h3, h4⟩ => exact ⟨x, y, s1, h1, h2, h3, hK _ _ _ _ h4⟩
  | 13, ⟨x, s1, h1, h2, h3⟩ => exact ⟨x, s1, h1, h2, hK _ _ _ _ h3⟩
  | 14, h => exact h.elim
  | 15, h => exact h.elim
  | 16, h => exact hK _ _ _ _ h
  | 17, ⟨q, sl, s1, h1, h2, h3⟩ => exact ⟨q, sl, s1, h1, h2, h3.elim (fun z => Or.inl ⟨z.1, hK _ _ _ _ z.2⟩) (fun ⟨q2, z1, z2⟩ => Or.inr ⟨q2, z1, hK _ _ _ _ z2⟩)⟩
  | 18, ⟨x, q, sl, s1, h1, h2, h3, h4⟩ => exact ⟨x, q, sl, s1, h1, h2, h3, hK _ _ _ _ h4⟩
  | 19, ⟨i, q, n, s1, h1, h2, h3, h4, h5⟩ => exact ⟨i, q, n, s1, h1, h2, h3, h4, hK _ _ _ _ h5⟩
  | 20, ⟨i, q, n, s1, h1, h2, h3, h4, h5⟩ => exact ⟨i, q, n, s1, h1, h2, h3, h4, hK _ _ _ _ h5⟩
  | 21, ⟨i, q, n, s1, h1, h2, h3, h4, h5⟩ => exact ⟨i, q, n, s1, h1, h2, h3, h4, hK _ _ _ _ h5⟩
  | 22, ⟨x, i, q, n, s1, h1, h2, h3, h4, h5⟩ => exact ⟨x, i, q, n, s1, h1, h2, h3, h4, hK _ _ _ _ h5⟩
  | 23, ⟨x, i, q, n, s1, h1, h2, h3, h4, h5, h6⟩ => exact ⟨x, i, q, n, s1, h1, h2, h3, h4, h5, hK _ _ _ _ h6⟩
  | 24, ⟨x, i, q, n, s1, h1, h2, h3, h4, h5, h6⟩ => exact ⟨x, i, q, n, s1, h1, h2, h3, h4, h5, hK _ _ _ _ h6⟩
  | 25, ⟨q, ty, n, s1, h1, h2, h3, h4, h5⟩ => exact ⟨q, ty, n, s1, h1, h2, h3, h4, hK _ _ _ _ h5⟩
  | 26, ⟨as, s1, h1, h2, h3, h4, h5⟩ => exact ⟨as, s1, h1, h2, h3, h4, hC _ _ _ _ _ (fun r σ2 z => hK _ _ _ _ z) h5⟩
  | 27, ⟨x, ty, h1, h2, h3, h4⟩ => exact ⟨x, ty, h1, h2, h3, hQ _ _ h4⟩
  | 28, ⟨h1, h2, h3⟩ => exact ⟨h1, h2, hQ _ _ h3⟩
  | 29, ⟨v, s1, h1, h2, h3⟩ => exact ⟨v, s1, h1, h2, hK _ _ _ _ h3⟩
  | 30, ⟨v, w, s1, h1, h2, h3, h4⟩ => exact ⟨v, w, s1, h1, h2, h3, hK _ _ _ _ h4⟩
  | 31, ⟨v, w, s1, h1, h2, h3, h4⟩ => exact ⟨v, w, s1, h1, h2, h3, hK _ _ _ _ h4⟩
  | 32, ⟨v, s1, h1, h2, h3⟩ => exact ⟨v, s1, h1, h2, hK _ _ _ _ h3⟩
  | 33, ⟨x, s1, h1, h2⟩ => exact ⟨x, s1, h1, hK _ _ _ _ h2⟩
  | 34, ⟨x, s1, h1, h2⟩ => exact ⟨x, s1, h1, hK _ _ _ _ h2⟩
  | 35, ⟨x, s1, h1, h2⟩ => exact ⟨x, s1, h1, hK _ _ _ _ h2⟩
  | 36, ⟨x, s1, h1, h2⟩ => exact ⟨x, s1, h1, hK _ _ _ _ h2⟩
  | 37, ⟨x, s1, h1, h2, h3⟩ => exact ⟨x, s1, h1, h2, hK _ _ _ _ h3⟩
  | 38, ⟨x, y, s1, h1, h2, h3⟩ => exact ⟨x, y, s1, h1, h2, hK _ _ _ _ h3⟩
  | 39, ⟨x, y, s1, h1, h2, h3⟩ => exact ⟨x, y, s1, h1, h2, hK _ _ _ _ h3⟩
  | 40, ⟨x, y, s1, h1, h2, h3⟩ => exact ⟨x, y, s1, h1, h2, hK _ _ _ _ h3⟩
  | 41, ⟨x, y, s1, h1, h2⟩ => exact ⟨x, y, s1, h1, hK _ _ _ _ h2⟩
  | 42, ⟨h1, h2⟩ => exact ⟨h1, hK _ _ _ _ h2⟩
  | 43, h => exact h.elim
  | 44, ⟨x, y, s1, h1, h2, h3⟩ => exact ⟨x, y, s1, h1, h2, hK _ _ _ _ h3⟩
  | 45, ⟨x, y, s1, h1, h2, h3⟩ => exact ⟨x, y, s1, h1, h2, hK _ _ _ _ h3⟩
  | 46, ⟨n, dp, q1, sp, q0, n1, n0, ty, s1, h1, h2, h3, h4, h5, h6, h7, h8, h9, g1, g2, g3⟩ => exact ⟨n, dp, q1, sp, q0, n1, n0, ty, s1, h1, h2, h3, h4, h5, h6, h7, h8, h9, g1, g2, hK _ _ _ _ g3⟩
  | 47, h => exact h.elim
  | 48, h => exact h.elim
  | 49, h => exact h.elim
  | 50, ⟨x, s1, h1, h2, h3⟩ => exact ⟨x, s1, h1, fun z => hK _ _ _ _ (h2 z), fun z => hK _ _ _ _ (h3 z)⟩
  | 51, ⟨x, s1, h1, h2, h3⟩ => exact ⟨x, s1, h1, fun z => hK _ _ _ _ (h2 z), fun z => hK _ _ _ _ (h3 z)⟩
  | 52, ⟨x, s1, h1, h2, h3⟩ => exact ⟨x, s1, h1, fun z => hK _ _ _ _ (h2 z), fun z => hK _ _ _ _ (h3 z)⟩
  | 53, ⟨x, s1, h1, h2, h3⟩ => exact ⟨x, s1, h1, fun z => hK _ _ _ _ (h2 z), fun z => hK _ _ _ _ (h3 z)⟩
  | 54, ⟨x, s1, h1, h2, h3⟩ => exact ⟨x, s1, h1, fun z => hK _ _ _ _ (h2 z), fun z => hK _ _ _ _ (h3 z)⟩
  | 55, ⟨x, s1, h1, h2, h3⟩ => exact ⟨x, s1, h1, fun z => hK _ _ _ _ (h2 z), fun z => hK _ _ _ _ (h3 z)⟩
  | 56, h => exact h.elim
  | 57, h => exact h.elim
  | 58, h => exact h.elim
  | 59, h => exact h.elim
  | 60, ⟨x, y, s1, h1, h2, h3⟩ => exact ⟨x, y, s1, h1, fun z => hK _ _ _ _ (h2 z), fun z => hK _ _ _ _ (h3 z)⟩
  | 61, ⟨x, y, s1, h1, h2, h3⟩ => exact ⟨x, y, s1, h1, fun z => hK _ _ _ _ (h2 z), fun z => hK _ _ _ _ (h3 z)⟩
  | 62, ⟨x, y, s1, h1, h2, h3⟩ => exact ⟨x, y, s1, h1, fun z => hK _ _ _ _ (h2 z), fun z => hK _ _ _ _ (h3 z)⟩
  | 63, ⟨x, y, s1, h1, h2, h3⟩ => exact ⟨x, y, s1, h1, fun z => hK _ _ _ _ (h2 z), fun z => hK _ _ _ _ (h3 z)⟩
  | 64, ⟨x, y, s1, h1, h2, h3⟩ => exact ⟨x, y, s1, h1, fun z => hK _ _ _ _ (h2 z), fun z => hK _ _ _ _ (h3 z)⟩
  | 65, ⟨x, y, s1, h1, h2, h3⟩ => exact ⟨x, y, s1, h1, fun z => hK _ _ _ _ (h2 z), fun z => hK _ _ _ _ (h3 z)⟩
  | _ + 66, h => exact h.elim
theorem mj_W_go {L : List mj_C} {C : Nat → List mj_V → mj_S → mj_Q → Prop} {ops : List mj_O} {ret : Option FieldType} {Q : mj_Q} {pc : Nat} {ls : List (Option mj_V)} {st : List mj_V} {σ : mj_S} {o : mj_O}
    (hC : ∀ k as σ (P P' : mj_Q), (∀ r σ', P r σ' → P' r σ') → C k as σ P → C k as σ P') (ho : ops[pc]? = some o) (h : mj_step L C ret Q (mj_W L C ops ret Q) o pc ls st σ) : mj_W L C ops ret Q pc ls st σ := by
  intro X hX
  exact hX _ _ _ _ ⟨o, ho, mj_mono hC (fun _ _ z => z) (fun a b c d z => z X hX) h⟩
theorem mj_W_mono {L : List mj_C} {C C' : Nat → List mj_V → mj_S → mj_Q → Prop} {ops : List mj_O} {ret : Option FieldType} {Q Q' : mj_Q} {pc : Nat} {ls : List (Option mj_V)} {st : List mj_V} {σ : mj_S}
    (hC : ∀ k as σ (P P' : mj_Q), (∀ r σ', P r σ' → P' r σ') → C k as σ P → C' k as σ P') (hQ : ∀ r σ', Q r σ' → Q' r σ') (h : mj_W L C ops ret Q pc ls st σ) : mj_W L C' ops ret Q' pc ls st σ := by
  intro X hX
  refine h X (fun pc ls st σ hh => hX _ _ _ _ ?_)
  obtain ⟨o, ho, hs⟩ := hh
  exact ⟨o, ho, mj_mono hC hQ (fun _ _ _ _ z => z) hs⟩
theorem mj_B_mono {L : List mj_C} {Ms : List mj_M} : ∀ (d k : Nat) (as : List mj_V) (σ : mj_S) (P P' : mj_Q), (∀ r σ', P r σ' → P' r σ') → mj_B L Ms d k as σ P → mj_B L Ms d k as σ P'
  | 0, _, _, _, _, _, _, h => h.elim
  | d + 1, k, as, σ, P, P', hP, h => by
    obtain ⟨M, h1, h2, h3, h4⟩ := h
    exact ⟨M, h1, h2, h3, mj_W_mono (fun k as σ P P' hP h => mj_B_mono d k as σ P P' hP h) hP h4⟩
theorem mj_B_up {L : List mj_C} {Ms : List mj_M} : ∀ (d k : Nat) (as : List mj_V) (σ : mj_S) (P : mj_Q), mj_B L Ms d k as σ P → mj_B L Ms (d + 1) k as σ P
  | 0, _, _, _, _, h => h.elim
  | d + 1, k, as, σ, P, h => by
    obtain ⟨M, h1, h2, h3, h4⟩ := h
    exact ⟨M, h1, h2, h3, mj_W_mono (fun k as σ P P' hP h => mj_B_mono (d + 1) k as σ P P' hP (mj_B_up d k as σ P h)) (fun _ _ z => z) h4⟩
