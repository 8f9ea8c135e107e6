/-! counting, and one-to-one renamings of the cells below n -/
def z_cnt (P : Nat → Bool) : Nat → Nat
  | 0 => 0
  | n + 1 => z_cnt P n + (if P n then 1 else 0)
theorem z_cnt_le (P : Nat → Bool) : ∀ n, z_cnt P n ≤ n
  | 0 => Nat.le_refl _
  | n + 1 => by
    have := z_cnt_le P n
    unfold z_cnt
    split <;> omega
theorem z_cnt_eq {P P' : Nat → Bool} : ∀ {n : Nat}, (∀ i, i < n → P i = P' i) → z_cnt P n = z_cnt P' n
  | 0, _ => rfl
  | n + 1, h => by
    unfold z_cnt
    rw [z_cnt_eq (fun i hi => h i (by omega)), h n (by omega)]
theorem z_cnt_mono {P P' : Nat → Bool} : ∀ {n : Nat}, (∀ i, i < n → P i = true → P' i = true) → z_cnt P n ≤ z_cnt P' n
  | 0, _ => Nat.le_refl _
  | n + 1, h => by
    have h1 := z_cnt_mono (n := n) (fun i hi => h i (by omega))
    have h2 := h n (by omega)
    unfold z_cnt
    by_cases c : P n = true
    · rw [if_pos c, if_pos (h2 c)]; omega
    · rw [if_neg c]; omega
theorem z_cnt_set {P : Nat → Bool} {i : Nat} (b : Bool) : ∀ {n : Nat}, i < n → z_cnt (fun j => if j = i then b else P j) n + (if P i then 1 else 0) = z_cnt P n + (if b then 1 else 0)
  | 0, h => absurd h (Nat.not_lt_zero i)
  | n + 1, h => by
    unfold z_cnt
    by_cases e : n = i
    · subst e
      rw [if_pos rfl, z_cnt_eq (P := fun j => if j = n then b else P j) (P' := P) (fun j hj => if_neg (by omega))]
      omega
    · have := z_cnt_set (P := P) b (n := n) (i := i) (by omega)
      rw [if_neg e]
      omega
theorem z_cnt_add {P : Nat → Bool} {i n : Nat} (h : i < n) (hp : P i = false) : z_cnt (fun j => if j = i then true else P j) n = z_cnt P n + 1 := by
  have := z_cnt_set (P := P) true h
  rw [hp] at this
  simpa using this
theorem z_cnt_lt {P P' : Nat → Bool} {i n : Nat} (h : i < n) (hp : P i = false) (hp' : P' i = true) (hm : ∀ j, j < n → P j = true → P' j = true) : z_cnt P n < z_cnt P' n := by
  have h1 := z_cnt_add h hp
  have h2 : z_cnt (fun j => if j = i then true else P j) n ≤ z_cnt P' n := z_cnt_mono (fun j hj => by
    by_cases e : j = i
    · subst e; intro _; exact hp'
    · rw [if_neg e]; exact hm j hj)
  omega
theorem z_cnt_all {P : Nat → Bool} {n : Nat} (h : z_cnt P n = n) : ∀ i, i < n → P i = true := by
  intro i hi
  by_cases c : P i = true
  · exact c
  · have h1 : P i = false := by simpa using c
    have := z_cnt_add hi h1
    have := z_cnt_le (fun j => if j = i then true else P j) n
    omega
theorem z_cnt_0 {P : Nat → Bool} {n : Nat} (h : ∀ i, i < n → P i = false) : z_cnt P n = 0 := by
  have h1 : z_cnt P n = z_cnt (fun _ => false) n := z_cnt_eq h
  rw [h1]
  induction n with
  | zero => rfl
  | succ n ih => unfold z_cnt; rw [ih (fun i hi => h i (by omega)) (z_cnt_eq (fun i hi => h i (by omega)))]; rfl
theorem z_cnt_pos {P : Nat → Bool} : ∀ {n : Nat}, 0 < z_cnt P n → ∃ i, i < n ∧ P i = true
  | 0, h => absurd h (Nat.lt_irrefl 0)
  | n + 1, h => by
    by_cases c : P n = true
    · exact ⟨n, by omega, c⟩
    · unfold z_cnt at h
      rw [if_neg c] at h
      obtain ⟨i, h1, h2⟩ := z_cnt_pos (n := n) (by omega)
      exact ⟨i, by omega, h2⟩
def z_sw (i j m : Nat) : Nat := if m = i then j else if m = j then i else m
theorem z_sw_sw (i j m : Nat) : z_sw i j (z_sw i j m) = m := by
  unfold z_sw
  repeat' split
  all_goals omega
theorem z_sw_lt {i j m n : Nat} (hi : i < n) (hj : j < n) (hm : m < n) : z_sw i j m < n := by
  unfold z_sw
  repeat' split
  all_goals omega
theorem z_cnt_sw (P : Nat → Bool) {i j n : Nat} (hi : i < n) (hj : j < n) : z_cnt (fun m => P (z_sw i j m)) n = z_cnt P n := by
  by_cases e : i = j
  · subst e
    refine z_cnt_eq (fun m _ => ?_)
    unfold z_sw
    by_cases h : m = i
    · rw [if_pos h, h]
    · rw [if_neg h, if_neg h]
  · have h1 := z_cnt_set (P := P) (P j) hi
    have h2 := z_cnt_set (P := fun m => if m = i then P j else P m) (P i) hj
    have h3 : z_cnt (fun m => P (z_sw i j m)) n = z_cnt (fun m => if m = j then P i else if m = i then P j else P m) n := by
      refine z_cnt_eq (fun m _ => ?_)
      unfold z_sw
      by_cases g1 : m = i
      · rw [if_pos g1, if_neg (by omega), if_pos g1]
      · rw [if_neg g1]
        by_cases g2 : m = j
        · rw [if_pos g2, if_pos g2]
        · rw [if_neg g2, if_neg g2, if_neg g1]
    rw [h3]
    rw [if_neg (fun c : j = i => e c.symm)] at h2
    omega
/-- b renames the cells below n one to one, c is its way back -/
def z_bij (n : Nat) (b c : Nat → Nat) : Prop := (∀ i, i < n → b i < n ∧ c (b i) = i) ∧ (∀ k, k < n → c k < n ∧ b (c k) = k) ∧ ∀ P : Nat → Bool, z_cnt (fun i => P (b i)) n = z_cnt P n
theorem z_bij_id (n : Nat) : z_bij n id id := ⟨fun _ h => ⟨h, rfl⟩, fun _ h => ⟨h, rfl⟩, fun _ => rfl⟩
theorem z_bij_sw {n : Nat} {b c : Nat → Nat} (h : z_bij n b c) {i j : Nat} (hi : i < n) (hj : j < n) : z_bij n (fun m => b (z_sw i j m)) (fun m => z_sw i j (c m)) := by
  refine ⟨fun m hm => ?_, fun m hm => ?_, fun P => ?_⟩
  · have h1 := h.1 _ (z_sw_lt hi hj hm)
    exact ⟨h1.1, by dsimp only; rw [h1.2, z_sw_sw]⟩
  · have h1 := h.2.1 _ hm
    exact ⟨z_sw_lt hi hj h1.1, by dsimp only; rw [z_sw_sw, h1.2]⟩
  · rw [← h.2.2 P, ← z_cnt_sw (fun m => P (b m)) hi hj]
theorem z_bij_inj {n : Nat} {b c : Nat → Nat} (h : z_bij n b c) {i j : Nat} (hi : i < n) (hj : j < n) (e : b i = b j) : i = j := by
  rw [← (h.1 i hi).2, ← (h.1 j hj).2, e]
